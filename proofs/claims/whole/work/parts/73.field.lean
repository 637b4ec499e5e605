/-! numbers modulo 10007: inverses -/
/-- a power by squares -/
def fpw : Nat → Nat → Nat → Nat → Nat
  | 0, p, _, _ => p
  | k + 1, p, s, e => fpw k (if e % 2 = 1 then p * s % 10007 else p) (s * s % 10007) (e / 2)
def chk (a : Nat) : Bool := a == 0 || Nat.ble 10007 a || fpw 14 1 a 10005 * a % 10007 == 1
theorem chk_all : ∀ i, i < 101 → ∀ j, j < 100 → chk (100 * i + j) = true := by decide +kernel

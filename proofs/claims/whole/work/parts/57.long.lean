/-! longs -/
def nL (n : Nat) : Int64 := Int64.ofNat n
theorem nL_toInt {n : Nat} (h : n < 2 ^ 63) : (nL n).toInt = n := Int64.toInt_ofNat_of_lt h
theorem nL_add (a b : Nat) : nL a + nL b = nL (a + b) := (Int64.ofNat_add a b).symm
theorem nL_mul (a b : Nat) : nL a * nL b = nL (a * b) := (Int64.ofNat_mul a b).symm
theorem nL_inj {a b : Nat} (ha : a < 2 ^ 63) (hb : b < 2 ^ 63) (h : nL a = nL b) : a = b := by
  have := congrArg Int64.toInt h
  rw [nL_toInt ha, nL_toInt hb] at this
  omega
theorem nL_lt_iff {a b : Nat} (ha : a < 2 ^ 63) (hb : b < 2 ^ 63) : nL a < nL b ↔ a < b := by
  rw [Int64.lt_iff_toInt_lt, nL_toInt ha, nL_toInt hb]
  omega
theorem nL_pos {a : Nat} (ha : a < 2 ^ 63) : ¬ nL a < 0 := by
  rw [Int64.lt_iff_toInt_lt, nL_toInt ha]
  show ¬ (a : Int) < 0
  omega
theorem nL_big {a : Nat} (h1 : 2 ^ 63 ≤ a) (h2 : a < 2 ^ 64) : nL a < 0 := by
  have e : nL a = nL (a - 2 ^ 63) + nL (2 ^ 63) := by rw [nL_add]; congr 1; omega
  rw [Int64.lt_iff_toInt_lt, e, Int64.toInt_add, nL_toInt (by omega), show (nL (2 ^ 63)).toInt = - 2 ^ 63 from by decide]
  show (((a - 2 ^ 63 : Nat) : Int) + - 2 ^ 63).bmod (2 ^ 64) < 0
  rw [Int.bmod_eq_of_le (by omega) (by omega)]
  omega
/-- a number, or -1 if a long cannot say it -/
def enc (n : Nat) : Int64 := if n < 2 ^ 63 then nL n else -1
theorem enc_lt {n : Nat} (h : n < 2 ^ 63) : enc n = nL n := if_pos h
theorem enc_ge {n : Nat} (h : ¬ n < 2 ^ 63) : enc n = -1 := if_neg h
theorem nL_ne_m1 {n : Nat} (h : n < 2 ^ 63) : nL n ≠ -1 := fun q => by
  have := congrArg Int64.toInt q
  rw [nL_toInt h] at this
  have : (n : Int) = -1 := this
  omega
theorem enc_m1 {n : Nat} : enc n = -1 ↔ ¬ n < 2 ^ 63 := by
  constructor
  · intro h q
    rw [enc_lt q] at h
    exact nL_ne_m1 q h
  · exact enc_ge
theorem enc_neg {n : Nat} : enc n < 0 ↔ ¬ n < 2 ^ 63 := by
  constructor
  · intro h q
    rw [enc_lt q] at h
    exact nL_pos q h
  · intro h
    rw [enc_ge h]; decide
theorem enc_0 : enc 0 = 0 := rfl
theorem enc_1 : enc 1 = 1 := rfl
theorem enc_z {n : Nat} : enc n = 0 ↔ n = 0 := by
  constructor
  · intro h
    by_cases q : n < 2 ^ 63
    · rw [enc_lt q] at h
      exact nL_inj q (by decide) h
    · rw [enc_ge q] at h
      exact absurd h (by decide)
  · intro h; rw [h]; rfl
section LRules
variable {scr : Scr} {l : Launch} {d : Nat} {M : Mth} {pc tgt : Nat} {L : List (Option Value)} {st : List Value} {S : Sto} {r : Res} {x y : Int64}
theorem lo_gt (h : x > y) : lg_cmp x y = 1 := if_pos h
theorem lo_eq (h : x = y) : lg_cmp x y = 0 := by
  unfold lg_cmp
  rw [if_neg (by rw [h]; exact Int64.lt_irrefl), if_pos h]
theorem lo_lt (h : x < y) : lg_cmp x y = -1 := by
  unfold lg_cmp
  rw [if_neg (fun q => by rw [gt_iff_lt, Int64.lt_iff_toInt_lt] at q; rw [Int64.lt_iff_toInt_lt] at h; omega), if_neg (fun q => by rw [q] at h; exact Int64.lt_irrefl h)]
theorem lo_tri (x y : Int64) : x < y ∨ x = y ∨ y < x := by
  rw [Int64.lt_iff_toInt_lt, Int64.lt_iff_toInt_lt, ← Int64.toInt_inj]
  omega
theorem ev_lif_eq (h1 : iIns M pc .lcmp 1) (h2 : iIf M (pc + 1) .eq tgt) (kt : x = y → Ev scr l d M tgt L st S r) (kf : x ≠ y → Ev scr l d M (pc + 4) L st S r) : Ev scr l d M pc L (.long y :: .long x :: st) S r := by
  refine ev_lcmp h1 ?_
  rcases lo_tri x y with h | h | h
  · rw [lo_lt h]
    refine ev_if_eq h2 (fun q => ?_) (fun q => ?_)
    · exact absurd q (by decide)
    · exact kf (fun q => by rw [q] at h; exact Int64.lt_irrefl h)
  · rw [lo_eq h]
    refine ev_if_eq h2 (fun q => ?_) (fun q => ?_)
    · exact kt h
    · exact absurd q (by decide)
  · rw [lo_gt h]
    refine ev_if_eq h2 (fun q => ?_) (fun q => ?_)
    · exact absurd q (by decide)
    · exact kf (fun q => by rw [q] at h; exact Int64.lt_irrefl h)
theorem ev_lif_ne (h1 : iIns M pc .lcmp 1) (h2 : iIf M (pc + 1) .ne tgt) (kt : x ≠ y → Ev scr l d M tgt L st S r) (kf : x = y → Ev scr l d M (pc + 4) L st S r) : Ev scr l d M pc L (.long y :: .long x :: st) S r := by
  refine ev_lcmp h1 ?_
  rcases lo_tri x y with h | h | h
  · rw [lo_lt h]
    refine ev_if_ne h2 (fun q => ?_) (fun q => ?_)
    · exact kt (fun q => by rw [q] at h; exact Int64.lt_irrefl h)
    · exact absurd q (by decide)
  · rw [lo_eq h]
    refine ev_if_ne h2 (fun q => ?_) (fun q => ?_)
    · exact absurd q (by decide)
    · exact kf h
  · rw [lo_gt h]
    refine ev_if_ne h2 (fun q => ?_) (fun q => ?_)
    · exact kt (fun q => by rw [q] at h; exact Int64.lt_irrefl h)
    · exact absurd q (by decide)
theorem ev_lif_lt (h1 : iIns M pc .lcmp 1) (h2 : iIf M (pc + 1) .lt tgt) (kt : x < y → Ev scr l d M tgt L st S r) (kf : ¬ x < y → Ev scr l d M (pc + 4) L st S r) : Ev scr l d M pc L (.long y :: .long x :: st) S r := by
  refine ev_lcmp h1 ?_
  rcases lo_tri x y with h | h | h
  · rw [lo_lt h]
    refine ev_if_lt h2 (fun q => ?_) (fun q => ?_)
    · exact kt h
    · exact absurd q (by decide)
  · rw [lo_eq h]
    refine ev_if_lt h2 (fun q => ?_) (fun q => ?_)
    · exact absurd q (by decide)
    · exact kf (by rw [h]; exact Int64.lt_irrefl)
  · rw [lo_gt h]
    refine ev_if_lt h2 (fun q => ?_) (fun q => ?_)
    · exact absurd q (by decide)
    · exact kf (fun q => by rw [Int64.lt_iff_toInt_lt] at q h; omega)
theorem ev_lif_ge (h1 : iIns M pc .lcmp 1) (h2 : iIf M (pc + 1) .ge tgt) (kt : ¬ x < y → Ev scr l d M tgt L st S r) (kf : x < y → Ev scr l d M (pc + 4) L st S r) : Ev scr l d M pc L (.long y :: .long x :: st) S r := by
  refine ev_lcmp h1 ?_
  rcases lo_tri x y with h | h | h
  · rw [lo_lt h]
    refine ev_if_ge h2 (fun q => ?_) (fun q => ?_)
    · exact absurd q (by decide)
    · exact kf h
  · rw [lo_eq h]
    refine ev_if_ge h2 (fun q => ?_) (fun q => ?_)
    · exact kt (by rw [h]; exact Int64.lt_irrefl)
    · exact absurd q (by decide)
  · rw [lo_gt h]
    refine ev_if_ge h2 (fun q => ?_) (fun q => ?_)
    · exact kt (fun q => by rw [Int64.lt_iff_toInt_lt] at q h; omega)
    · exact absurd q (by decide)
theorem ev_lif_le (h1 : iIns M pc .lcmp 1) (h2 : iIf M (pc + 1) .le tgt) (kt : ¬ y < x → Ev scr l d M tgt L st S r) (kf : y < x → Ev scr l d M (pc + 4) L st S r) : Ev scr l d M pc L (.long y :: .long x :: st) S r := by
  refine ev_lcmp h1 ?_
  rcases lo_tri x y with h | h | h
  · rw [lo_lt h]
    refine ev_if_le h2 (fun q => ?_) (fun q => ?_)
    · exact kt (fun q => by rw [Int64.lt_iff_toInt_lt] at q h; omega)
    · exact absurd q (by decide)
  · rw [lo_eq h]
    refine ev_if_le h2 (fun q => ?_) (fun q => ?_)
    · exact kt (by rw [h]; exact Int64.lt_irrefl)
    · exact absurd q (by decide)
  · rw [lo_gt h]
    refine ev_if_le h2 (fun q => ?_) (fun q => ?_)
    · exact absurd q (by decide)
    · exact kf h
theorem ev_lif_gt (h1 : iIns M pc .lcmp 1) (h2 : iIf M (pc + 1) .gt tgt) (kt : y < x → Ev scr l d M tgt L st S r) (kf : ¬ y < x → Ev scr l d M (pc + 4) L st S r) : Ev scr l d M pc L (.long y :: .long x :: st) S r := by
  refine ev_lcmp h1 ?_
  rcases lo_tri x y with h | h | h
  · rw [lo_lt h]
    refine ev_if_gt h2 (fun q => ?_) (fun q => ?_)
    · exact absurd q (by decide)
    · exact kf (fun q => by rw [Int64.lt_iff_toInt_lt] at q h; omega)
  · rw [lo_eq h]
    refine ev_if_gt h2 (fun q => ?_) (fun q => ?_)
    · exact absurd q (by decide)
    · exact kf (by rw [h]; exact Int64.lt_irrefl)
  · rw [lo_gt h]
    refine ev_if_gt h2 (fun q => ?_) (fun q => ?_)
    · exact kt h
    · exact absurd q (by decide)
end LRules

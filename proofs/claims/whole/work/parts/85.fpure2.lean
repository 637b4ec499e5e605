/-! numbers as doubles and floats 2: whole numbers, remainders, floats -/
theorem round_fin {f : FP.Core.Fmt} {s : Bool} {c : Nat} {q : Int} : FP.Core.round f (.fin s c q) = FP.Core.roundRatio f s c 1 q := rfl
theorem l2d_val {i : Int64} (h : i.toInt.natAbs < 2 ^ 53) : DG 0 (FP.Core.decode FP.Core.b64 (FP.l2d i).toNat) i.toInt := by
  show DG 0 (FP.Core.decode FP.Core.b64 (UInt64.ofNat (FP.Core.encode FP.Core.b64 (FP.Core.round FP.Core.b64 (.fin (decide (i.toInt < 0)) i.toInt.natAbs 0)))).toNat) _
  obtain ⟨c, q, h1, h2, h3⟩ := DG.round (g := 0) (s := decide (i.toInt < 0)) (k := i.toInt) (N := 0) (D := 0) (e := 0) (by decide) h (fun _ => rfl) rfl
  rw [Nat.pow_zero, Nat.mul_one] at h1
  rw [round_fin, h1, b64_rt h2]
  exact h3
theorem DV.parts {x : UInt64} {k : Int} (hx : DG 0 (FP.Core.decode FP.Core.b64 x.toNat) k) (h : k.natAbs < 2 ^ 53) : DV (FP.ddiv x 4697254411347427328) k := by
  obtain ⟨s, n, h1, h2⟩ := hx
  show DV (UInt64.ofNat (FP.Core.encode FP.Core.b64 (FP.Core.quotient FP.Core.b64 (FP.Core.decode FP.Core.b64 x.toNat) (FP.Core.decode FP.Core.b64 (4697254411347427328 : UInt64).toNat)))) _
  rw [h1, big_dec, quot_fin (by decide)]
  refine DV.mk h (fun q => ?_) (by omega)
  rw [show (s != false) = s from by cases s <;> rfl, h2 q]
theorem prod_fin {s t : Bool} {c d : Nat} {q r : Int} : FP.Core.exactProduct (.fin s c q) (.fin t d r) = .fin (s != t) (c * d) (q + r) := rfl
theorem DV.whole {x : UInt64} {k : Int} (hx : DV x k) (h : k.natAbs < 2 ^ 53) : DG 0 (FP.Core.decode FP.Core.b64 (FP.dmul x 4697254411347427328).toNat) k := by
  obtain ⟨s, n, h1, h2⟩ := hx
  show DG 0 (FP.Core.decode FP.Core.b64 (UInt64.ofNat (FP.Core.encode FP.Core.b64 (FP.Core.round FP.Core.b64 (FP.Core.exactProduct (FP.Core.decode FP.Core.b64 x.toNat) (FP.Core.decode FP.Core.b64 (4697254411347427328 : UInt64).toNat))))).toNat) _
  rw [h1, big_dec]
  have e1 : FP.Core.exactProduct (.fin s (k.natAbs * 2 ^ n) (-((20 : Nat) : Int) - n)) (.fin false (2 ^ 52) (-32)) = .fin (s != false) (k.natAbs * 2 ^ (n + 52)) (-((20 : Nat) : Int) - n + -32) := by
    rw [prod_fin, Nat.mul_assoc, ← Nat.pow_add]
  have hs : k ≠ 0 → (s != false) = decide (k < 0) := fun q => by rw [show (s != false) = s from by cases s <;> rfl, h2 q]
  obtain ⟨c, q, h3, h4, h5⟩ := DG.round (g := 0) (k := k) (N := n + 52) (D := 0) (e := -((20 : Nat) : Int) - n + -32) (by decide) h hs (by omega)
  rw [Nat.pow_zero] at h3
  rw [e1, round_fin, h3, b64_rt h4]
  exact h5
theorem d2l_val {x : UInt64} {k : Int} (hx : DG 0 (FP.Core.decode FP.Core.b64 x.toNat) k) (h : k.natAbs < 2 ^ 53) : FP.d2l x = Int64.ofInt k := by
  obtain ⟨s, n, h1, h2⟩ := hx
  show Int64.ofInt (FP.Core.toInt (-2 ^ 63) (2 ^ 63 - 1) (FP.Core.decode FP.Core.b64 x.toNat)) = _
  rw [h1]
  congr 1
  show max (-2 ^ 63) (min (2 ^ 63 - 1) (FP.Core.truncate s (k.natAbs * 2 ^ n) (-((0 : Nat) : Int) - n))) = k
  have e1 : FP.Core.truncate s (k.natAbs * 2 ^ n) (-((0 : Nat) : Int) - n) = k := by
    unfold FP.Core.truncate
    rw [show (-((0 : Nat) : Int) - n).toNat = 0 by omega, show (-(-((0 : Nat) : Int) - n)).toNat = n by omega, Nat.pow_zero, Nat.mul_one, Nat.mul_div_cancel _ (Nat.two_pow_pos n)]
    have := sgn_val (s := s) (a := k) (P := 1) h2
    rw [Nat.mul_one] at this
    rw [this]; simp
  rw [e1]
  omega
theorem tmod_sgn {a b : Int} (h : a.tmod b ≠ 0) : a ≠ 0 ∧ decide (a.tmod b < 0) = decide (a < 0) := by
  have ha : a ≠ 0 := fun z => h (by rw [z, Int.zero_tmod])
  refine ⟨ha, ?_⟩
  by_cases q : a < 0
  · have h1 : 0 ≤ (-a).tmod b := Int.tmod_nonneg b (by omega)
    rw [Int.neg_tmod] at h1
    rw [decide_eq_true q, decide_eq_true (by omega)]
  · have h1 : 0 ≤ a.tmod b := Int.tmod_nonneg b (by omega)
    rw [decide_eq_false q, decide_eq_false (by omega)]
theorem rem_fin {s t : Bool} {c d : Nat} {q r : Int} (h : d ≠ 0) : FP.Core.exactRemainder (.fin s c q) (.fin t d r) = .fin s (FP.Core.inUnits c q (min q r) % FP.Core.inUnits d r (min q r)) (min q r) := by
  unfold FP.Core.exactRemainder
  exact if_neg h
theorem DV.rem {x y : UInt64} {a b : Int} (hx : DV x a) (hy : DV y b) (hb : b ≠ 0) (ha : a.natAbs < 2 ^ 53) : DV (FP.drem x y) (a.tmod b) := by
  obtain ⟨s, n, h1, h2⟩ := hx
  obtain ⟨t, m, h3, h4⟩ := hy
  show DV (UInt64.ofNat (FP.Core.encode FP.Core.b64 (FP.Core.round FP.Core.b64 (FP.Core.exactRemainder (FP.Core.decode FP.Core.b64 x.toNat) (FP.Core.decode FP.Core.b64 y.toNat))))) _
  have hmin : min (-((20 : Nat) : Int) - n) (-((20 : Nat) : Int) - m) = -((20 : Nat) : Int) - ((max n m : Nat) : Int) := by omega
  have hp := Nat.two_pow_pos m
  rw [h1, h3, rem_fin (Nat.mul_ne_zero (by omega) (by omega)), hmin, in_units (Nat.le_max_left n m), in_units (Nat.le_max_right n m), Nat.mul_mod_mul_right, ← Int.natAbs_tmod, round_fin]
  refine DV.mk (D := 0) ?_ (fun q => ?_) (by omega)
  · rw [Int.natAbs_tmod]
    exact Nat.lt_of_le_of_lt (Nat.mod_le _ _) ha
  · rw [(tmod_sgn q).2, h2 (tmod_sgn q).1]
/-- the sign taken away -/
theorem dec_abs {m : Nat} {s : Bool} {c : Nat} {q : Int} (h : FP.Core.decode FP.Core.b64 m = .fin s c q) : FP.Core.decode FP.Core.b64 (m % 9223372036854775808) = .fin false c q := by
  have eT : FP.Core.fieldT FP.Core.b64 (m % 9223372036854775808) = FP.Core.fieldT FP.Core.b64 m := by
    show m % 9223372036854775808 % 4503599627370496 = m % 4503599627370496
    omega
  have eE : FP.Core.fieldE FP.Core.b64 (m % 9223372036854775808) = FP.Core.fieldE FP.Core.b64 m := by
    show m % 9223372036854775808 / 4503599627370496 % 2048 = m / 4503599627370496 % 2048
    omega
  have eS : FP.Core.fieldS FP.Core.b64 (m % 9223372036854775808) = false := by
    show (m % 9223372036854775808 / 4503599627370496 / 2048 % 2 == 1) = false
    rw [show m % 9223372036854775808 / 4503599627370496 / 2048 % 2 = 0 by omega]
    rfl
  unfold FP.Core.decode at h ⊢
  rw [eT, eE, eS]
  by_cases q1 : FP.Core.fieldE FP.Core.b64 m = FP.Core.b64.exps - 1
  · rw [if_pos q1] at h
    split at h <;> cases h
  · rw [if_neg q1] at h ⊢
    by_cases q2 : FP.Core.fieldE FP.Core.b64 m = 0
    · rw [if_pos q2] at h ⊢
      cases h; rfl
    · rw [if_neg q2] at h ⊢
      cases h; rfl
def absB (x : UInt64) : UInt64 := (x.toInt64 &&& 9223372036854775807).toUInt64
theorem absB_nat (x : UInt64) : (absB x).toNat = x.toNat % 9223372036854775808 := by
  have e1 : absB x = x &&& 9223372036854775807 := by
    unfold absB
    apply UInt64.toBitVec_inj.mp
    rfl
  rw [e1, UInt64.toNat_and, show (9223372036854775807 : UInt64).toNat = 2 ^ 63 - 1 from rfl, Nat.and_two_pow_sub_one_eq_mod]
theorem DV.abs {x : UInt64} {k : Int} (h : DV x k) : DV (absB x) k.natAbs := by
  obtain ⟨s, n, h1, h2⟩ := h
  refine ⟨false, n, ?_, fun _ => ?_⟩
  · rw [absB_nat, Int.natAbs_natCast]
    exact dec_abs h1
  · rw [decide_eq_false (by omega)]
/-- floats -/
def FV (z : UInt32) (k : Int) : Prop := ∃ (s : Bool) (c : Nat) (q : Int), FP.Core.decode FP.Core.b32 z.toNat = .fin s c q ∧ c < 2 ^ 24 ∧ -149 ≤ q ∧ q ≤ 20 ∧ c * 2 ^ (q + 200).toNat = k.natAbs * 2 ^ 180 ∧ (k ≠ 0 → s = decide (k < 0))
def RepF (k : Int) : Prop := ∃ C J : Nat, C < 2 ^ 24 ∧ J ≤ 10 ∧ k.natAbs = C * 2 ^ J
theorem b32_q : FP.Core.b32.qmin = -149 ∧ FP.Core.b32.qmax = 104 ∧ FP.Core.b32.p = 24 := ⟨rfl, rfl, rfl⟩
theorem b64_q : FP.Core.b64.qmin = -1074 ∧ FP.Core.b64.qmax = 971 ∧ FP.Core.b64.p = 53 := ⟨rfl, rfl, rfl⟩
theorem FV.zero {s : Bool} {k : Int} (hk : k = 0) : FV (UInt32.ofNat (FP.Core.encode FP.Core.b32 (.fin s 0 (-149)))) k := by
  refine ⟨s, 0, -149, b32_rt (fits_zero (f := FP.Core.b32) (by decide)), by decide, by decide, by decide, ?_, fun q => absurd hk q⟩
  rw [hk, Int.natAbs_zero, Nat.zero_mul, Nat.zero_mul]
theorem FV.mk {s : Bool} {k : Int} {K N : Nat} {e E : Int} (hK : K ≠ 0) (hlt : K < 2 ^ 24) (hE : E = e + N) (h1 : -126 ≤ E) (h2 : E ≤ 20) (hv : K * 2 ^ (E + 200).toNat = k.natAbs * 2 ^ 180) (hs : k ≠ 0 → s = decide (k < 0)) : FV (UInt32.ofNat (FP.Core.encode FP.Core.b32 (FP.Core.roundRatio FP.Core.b32 s (K * 2 ^ N) 1 e))) k := by
  have hl : K.log2 < 24 := (Nat.log2_lt hK).mpr hlt
  obtain ⟨r1, r2⟩ := rr_exact (f := FP.Core.b32) (s := s) (K := K) (N := N) (D := 0) (e := e) (E := E) (by decide) hK hlt (by omega) (by rw [b32_q.1, b32_q.2.2]; omega) (by rw [b32_q.2.1, b32_q.2.2]; omega)
  rw [Nat.pow_zero, b32_q.2.2] at r1
  rw [b32_q.2.2] at r2
  rw [r1]
  refine ⟨s, _, _, b32_rt r2, r2.1, by omega, by omega, ?_, hs⟩
  rw [Nat.mul_assoc, ← Nat.pow_add, show 24 - 1 - K.log2 + (E - ((24 - 1 - K.log2 : Nat) : Int) + 200).toNat = (E + 200).toNat by omega]
  exact hv
theorem d2f_eq {x : UInt64} {s : Bool} {c : Nat} {q : Int} (h : FP.Core.decode FP.Core.b64 x.toNat = .fin s c q) : FP.d2f x = UInt32.ofNat (FP.Core.encode FP.Core.b32 (FP.Core.roundRatio FP.Core.b32 s c 1 q)) := by
  have hn : FP.Core.dIsNaN x = false := by
    show decide (FP.Core.decode FP.Core.b64 x.toNat = .nan) = false
    rw [h]
    exact decide_eq_false (fun z => by cases z)
  unfold FP.d2f
  rw [hn, if_neg (by decide)]
  show UInt32.ofNat (FP.Core.encode FP.Core.b32 (FP.Core.round FP.Core.b32 (FP.Core.decode FP.Core.b64 x.toNat))) = _
  rw [h, round_fin]
theorem f2d_eq {z : UInt32} {s : Bool} {c : Nat} {q : Int} (h : FP.Core.decode FP.Core.b32 z.toNat = .fin s c q) : FP.f2d z = UInt64.ofNat (FP.Core.encode FP.Core.b64 (FP.Core.roundRatio FP.Core.b64 s c 1 q)) := by
  have hn : FP.Core.fIsNaN z = false := by
    show decide (FP.Core.decode FP.Core.b32 z.toNat = .nan) = false
    rw [h]
    exact decide_eq_false (fun z => by cases z)
  unfold FP.f2d
  rw [hn, if_neg (by decide)]
  show UInt64.ofNat (FP.Core.encode FP.Core.b64 (FP.Core.round FP.Core.b64 (FP.Core.decode FP.Core.b32 z.toNat))) = _
  rw [h, round_fin]
theorem DV.toF {x : UInt64} {k : Int} (hx : DV x k) (hk : RepF k) : FV (FP.d2f x) k := by
  obtain ⟨s, n, h1, h2⟩ := hx
  obtain ⟨C, J, hC, hJ, hk⟩ := hk
  rw [d2f_eq h1]
  by_cases z : C = 0
  · have hk0 : k = 0 := by rw [z, Nat.zero_mul] at hk; omega
    rw [hk, z, Nat.zero_mul, Nat.zero_mul, rr_zero, b32_q.1]
    exact FV.zero hk0
  · rw [hk, Nat.mul_assoc, ← Nat.pow_add]
    refine FV.mk (E := -20 + J) z hC (by omega) (by omega) (by omega) ?_ h2
    rw [hk, Nat.mul_assoc, ← Nat.pow_add]
    congr 2
    omega
theorem near_le (a b : Nat) : FP.Core.nearest a b ≤ a / b + 1 ∧ a / b ≤ FP.Core.nearest a b := by
  unfold FP.Core.nearest
  split
  · omega
  · split
    · omega
    · have := Nat.mod_lt (a / b) (show 0 < 2 by decide)
      omega
theorem DV.anyF {x : UInt64} {k : Int} (hx : DV x k) (hk : k.natAbs < 2 ^ 27) : ∃ k', RepF k' ∧ k'.natAbs ≤ 2 ^ 27 ∧ FV (FP.d2f x) k' := by
  by_cases h24 : k.natAbs < 2 ^ 24
  · exact ⟨k, ⟨k.natAbs, 0, h24, by decide, by rw [Nat.pow_zero, Nat.mul_one]⟩, by omega, hx.toF ⟨k.natAbs, 0, h24, by decide, by rw [Nat.pow_zero, Nat.mul_one]⟩⟩
  obtain ⟨s, n, h1, h2⟩ := hx
  have hK : k.natAbs ≠ 0 := by omega
  have hl1 : k.natAbs.log2 < 27 := (Nat.log2_lt hK).mpr hk
  have hl2 : 24 ≤ k.natAbs.log2 := (Nat.le_log2 hK).mpr (by omega)
  obtain ⟨j, hj⟩ : ∃ j, k.natAbs.log2 = 23 + j := ⟨k.natAbs.log2 - 23, by omega⟩
  have hs1 := Nat.log2_self_le hK
  have hs2 : k.natAbs < 2 ^ (k.natAbs.log2 + 1) := Nat.lt_log2_self
  rw [hj] at hs1 hs2
  have hld : FP.Core.leading (k.natAbs * 2 ^ n) 1 = ((23 + j : Nat) : Int) + n := by
    unfold FP.Core.leading
    simp only [log2_mulp hK, hj, show Nat.log2 1 = 0 from by decide]
    rw [if_pos ?_]
    · omega
    · rw [show (((23 + j + n : Nat) : Int) - ((0 : Nat) : Int)).toNat = 23 + j + n by omega, show (-(((23 + j + n : Nat) : Int) - ((0 : Nat) : Int))).toNat = 0 by omega, Nat.pow_zero, Nat.mul_one, Nat.one_mul, Nat.pow_add]
      exact Nat.mul_le_mul_right _ hs1
  have hqt : FP.Core.quantum FP.Core.b32 (k.natAbs * 2 ^ n) 1 (-((20 : Nat) : Int) - n) = (j : Int) - 20 := by
    unfold FP.Core.quantum
    rw [hld, b32_q.1, b32_q.2.2]
    omega
  have hdiv : k.natAbs * 2 ^ n / 2 ^ (j + n) = k.natAbs / 2 ^ j := by
    rw [Nat.pow_add, Nat.mul_div_mul_right _ _ (Nat.two_pow_pos n)]
  have hd1 : k.natAbs / 2 ^ j < 2 ^ 24 := by
    rw [Nat.div_lt_iff_lt_mul (Nat.two_pow_pos j), ← Nat.pow_add, show 24 + j = 23 + j + 1 by omega]
    exact hs2
  have hd2 : 2 ^ 23 ≤ k.natAbs / 2 ^ j := by
    rw [Nat.le_div_iff_mul_le (Nat.two_pow_pos j), ← Nat.pow_add]
    exact hs1
  obtain ⟨c, hc⟩ : ∃ c, FP.Core.nearest (FP.Core.unitsNum (k.natAbs * 2 ^ n) (-((20 : Nat) : Int) - n) ((j : Int) - 20)) (FP.Core.unitsDen 1 (-((20 : Nat) : Int) - n) ((j : Int) - 20)) = c := ⟨_, rfl⟩
  have hcb : 2 ^ 23 ≤ c ∧ c ≤ 2 ^ 24 := by
    rw [← hc]
    unfold FP.Core.unitsNum FP.Core.unitsDen
    rw [show (-((20 : Nat) : Int) - n - ((j : Int) - 20)).toNat = 0 by omega, show ((j : Int) - 20 - (-((20 : Nat) : Int) - n)).toNat = j + n by omega, Nat.pow_zero, Nat.mul_one, Nat.one_mul]
    have := near_le (k.natAbs * 2 ^ n) (2 ^ (j + n))
    rw [hdiv] at this
    omega
  have hrr : FP.Core.roundRatio FP.Core.b32 s (k.natAbs * 2 ^ n) 1 (-((20 : Nat) : Int) - n) = FP.Core.settle FP.Core.b32 s c ((j : Int) - 20) := by
    unfold FP.Core.roundRatio
    rw [if_neg (Nat.mul_ne_zero hK (by have := Nat.two_pow_pos n; omega)), hqt]
    unfold FP.Core.roundAt
    rw [hc]
  have fin : ∀ (C : Nat) (Q : Int) (J : Nat), 2 ^ 23 ≤ C → C < 2 ^ 24 → J ≤ 4 → Q = (J : Int) - 20 → ∃ k', RepF k' ∧ k'.natAbs ≤ 2 ^ 28 ∧ k'.natAbs = C * 2 ^ J ∧ FV (UInt32.ofNat (FP.Core.encode FP.Core.b32 (.fin s C Q))) k' := fun C Q J b1 b2 b3 b4 => by
    have hb : C * 2 ^ J ≤ 2 ^ 24 * 2 ^ 4 := Nat.mul_le_mul (by omega) (Nat.pow_le_pow_right (by decide) b3)
    have hpos : 0 < C * 2 ^ J := Nat.mul_pos (by omega) (Nat.two_pow_pos J)
    have hab : ∀ k' : Int, k'.natAbs = C * 2 ^ J → (k' ≠ 0 → s = decide (k' < 0)) → FV (UInt32.ofNat (FP.Core.encode FP.Core.b32 (.fin s C Q))) k' := fun k' e1 e2 => by
      refine ⟨s, C, Q, b32_rt ⟨b2, by rw [b32_q.1]; omega, by rw [b32_q.2.1]; omega, Or.inr b1⟩, b2, by omega, by omega, ?_, e2⟩
      rw [e1, Nat.mul_assoc, ← Nat.pow_add]
      congr 2
      omega
    cases s with
    | false => exact ⟨((C * 2 ^ J : Nat) : Int), ⟨C, J, b2, by omega, Int.natAbs_natCast _⟩, by rw [Int.natAbs_natCast]; omega, Int.natAbs_natCast _, hab _ (Int.natAbs_natCast _) (fun _ => (decide_eq_false (by omega)).symm)⟩
    | true => exact ⟨-((C * 2 ^ J : Nat) : Int), ⟨C, J, b2, by omega, by rw [Int.natAbs_neg, Int.natAbs_natCast]⟩, by rw [Int.natAbs_neg, Int.natAbs_natCast]; omega, by rw [Int.natAbs_neg, Int.natAbs_natCast], hab _ (by rw [Int.natAbs_neg, Int.natAbs_natCast]) (fun _ => (decide_eq_true (by omega)).symm)⟩
  rw [d2f_eq h1, hrr]
  unfold FP.Core.settle FP.Core.bound
  rw [b32_q.2.2, b32_q.2.1]
  by_cases hc24 : c < 2 ^ 24
  · rw [if_pos hc24, if_pos (by omega)]
    obtain ⟨k', r1, -, r3, r4⟩ := fin c _ j hcb.1 hc24 (by omega) rfl
    refine ⟨k', r1, ?_, r4⟩
    rw [r3]
    have : 2 ^ j ≤ 2 ^ 3 := Nat.pow_le_pow_right (by decide) (by omega)
    exact Nat.le_trans (Nat.mul_le_mul (Nat.le_of_lt hc24) this) (by decide)
  · rw [if_neg hc24, if_pos (by omega)]
    obtain ⟨k', r1, -, r3, r4⟩ := fin FP.Core.b32.tails ((j : Int) - 20 + 1) (j + 1) (by decide) (by decide) (by omega) (by omega)
    refine ⟨k', r1, ?_, r4⟩
    rw [r3]
    have : 2 ^ (j + 1) ≤ 2 ^ 4 := Nat.pow_le_pow_right (by decide) (by omega)
    exact Nat.le_trans (Nat.mul_le_mul (show FP.Core.b32.tails ≤ 2 ^ 23 by decide) this) (by decide)
theorem FV.toD {z : UInt32} {k : Int} (hz : FV z k) (hk : k.natAbs ≤ 2 ^ 28) : DV (FP.f2d z) k := by
  obtain ⟨s, c, q, h1, h2, h3, h4, h5, h6⟩ := hz
  rw [f2d_eq h1]
  by_cases z0 : k = 0
  · have hc : c = 0 := by
      rw [z0, Int.natAbs_zero, Nat.zero_mul] at h5
      rcases Nat.mul_eq_zero.mp h5 with h5 | h5
      · exact h5
      · have := Nat.two_pow_pos (q + 200).toNat; omega
    subst z0
    rw [hc, rr_zero]
    show DG 20 _ 0
    rw [b64_rt (fits_zero (f := FP.Core.b64) (by decide))]
    exact ⟨s, 1054, by rw [Int.natAbs_zero, Nat.zero_mul]; rfl, fun q => absurd rfl q⟩
  · by_cases hq : q ≤ -20
    · have hc : c = k.natAbs * 2 ^ (-20 - q).toNat := by
        have : c * 2 ^ (q + 200).toNat = k.natAbs * 2 ^ (-20 - q).toNat * 2 ^ (q + 200).toNat := by
          rw [h5, Nat.mul_assoc, ← Nat.pow_add]
          congr 2
          omega
        exact Nat.eq_of_mul_eq_mul_right (Nat.two_pow_pos _) this
      rw [hc, show (1 : Nat) = 2 ^ 0 from rfl]
      exact DV.mk (D := 0) (by omega) h6 (by omega)
    · have hc : k.natAbs = c * 2 ^ (q + 20).toNat := by
        have : k.natAbs * 2 ^ 180 = c * 2 ^ (q + 20).toNat * 2 ^ 180 := by
          rw [← h5, Nat.mul_assoc, ← Nat.pow_add]
          congr 2
          omega
        exact Nat.eq_of_mul_eq_mul_right (Nat.two_pow_pos 180) this
      have hc0 : c ≠ 0 := fun y => z0 (by rw [y, Nat.zero_mul] at hc; omega)
      have hl : c.log2 < 24 := (Nat.log2_lt hc0).mpr h2
      have hq2 : (q + 20).toNat ≤ 28 := by
        have : 2 ^ (q + 20).toNat ≤ 2 ^ 28 := Nat.le_trans (by rw [hc]; exact Nat.le_mul_of_pos_left _ (by omega)) hk
        exact (Nat.pow_le_pow_iff_right (by decide)).mp this
      obtain ⟨r1, r2⟩ := rr_exact (f := FP.Core.b64) (s := s) (K := c) (N := 0) (D := 0) (e := q) (E := q) (by decide) hc0 (Nat.lt_trans h2 (by decide)) (by omega) (by rw [b64_q.1, b64_q.2.2]; omega) (by rw [b64_q.2.1, b64_q.2.2]; omega)
      rw [Nat.pow_zero, Nat.mul_one, b64_q.2.2] at r1
      rw [b64_q.2.2] at r2
      show DG 20 _ k
      rw [r1, b64_rt r2]
      refine ⟨s, 53 - 1 - c.log2 - (q + 20).toNat, ?_, h6⟩
      rw [hc, Nat.mul_assoc, ← Nat.pow_add, show (q + 20).toNat + (53 - 1 - c.log2 - (q + 20).toNat) = 53 - 1 - c.log2 by omega]
      congr 1
      omega
theorem FV.rem {x y : UInt32} {a b : Int} (hx : FV x a) (hy : FV y b) (hb : b ≠ 0) : FV (FP.frem x y) (a.tmod b) := by
  obtain ⟨s, c, q, h1, h2, h3, h4, h5, h6⟩ := hx
  obtain ⟨t, d, r, g1, g2, g3, g4, g5, g6⟩ := hy
  show FV (UInt32.ofNat (FP.Core.encode FP.Core.b32 (FP.Core.round FP.Core.b32 (FP.Core.exactRemainder (FP.Core.decode FP.Core.b32 x.toNat) (FP.Core.decode FP.Core.b32 y.toNat))))) _
  have hd : d ≠ 0 := fun z => by
    rw [z, Nat.zero_mul] at g5
    have := Nat.mul_pos (show 0 < b.natAbs by omega) (Nat.two_pow_pos 180)
    omega
  rw [h1, g1, rem_fin hd, round_fin]
  obtain ⟨e, he⟩ : ∃ e, min q r = e := ⟨_, rfl⟩
  rw [he]
  have sc : ∀ (c : Nat) (q : Int), e ≤ q → FP.Core.inUnits c q e * 2 ^ (e + 200).toNat = c * 2 ^ (q + 200).toNat := fun c q hq => by
    unfold FP.Core.inUnits
    rw [Nat.mul_assoc, ← Nat.pow_add]
    congr 2
    omega
  have hR : FP.Core.inUnits c q e % FP.Core.inUnits d r e * 2 ^ (e + 200).toNat = (a.tmod b).natAbs * 2 ^ 180 := by
    rw [← Nat.mul_mod_mul_right, sc c q (by omega), sc d r (by omega), h5, g5, Nat.mul_mod_mul_right, Int.natAbs_tmod]
  have hlt : FP.Core.inUnits c q e % FP.Core.inUnits d r e < 2 ^ 24 := by
    by_cases z : e = q
    · have : FP.Core.inUnits c q e = c := by unfold FP.Core.inUnits; rw [show (q - e).toNat = 0 by omega, Nat.pow_zero, Nat.mul_one]
      rw [this]
      exact Nat.lt_of_le_of_lt (Nat.mod_le _ _) h2
    · have : FP.Core.inUnits d r e = d := by unfold FP.Core.inUnits; rw [show (r - e).toNat = 0 by omega, Nat.pow_zero, Nat.mul_one]
      rw [this]
      exact Nat.lt_trans (Nat.mod_lt _ (by omega)) g2
  obtain ⟨Rr, hRr⟩ : ∃ Rr, FP.Core.inUnits c q e % FP.Core.inUnits d r e = Rr := ⟨_, rfl⟩
  rw [hRr] at hR hlt ⊢
  have hsg : a.tmod b ≠ 0 → s = decide (a.tmod b < 0) := fun z => by rw [(tmod_sgn z).2, h6 (tmod_sgn z).1]
  by_cases z : Rr = 0
  · rw [z, rr_zero, b32_q.1]
    refine FV.zero ?_
    rw [z, Nat.zero_mul] at hR
    rcases Nat.mul_eq_zero.mp hR.symm with w | w
    · omega
    · exact absurd w (by decide)
  · have hne : a.tmod b ≠ 0 := fun w => by
      rw [w, Int.natAbs_zero, Nat.zero_mul] at hR
      rcases Nat.mul_eq_zero.mp hR with w | w
      · exact z w
      · have := Nat.two_pow_pos (e + 200).toNat; omega
    have hel : 156 ≤ (e + 200).toNat := by
      have h7 : 2 ^ 180 ≤ Rr * 2 ^ (e + 200).toNat := by rw [hR]; exact Nat.le_mul_of_pos_left _ (by omega)
      have h8 : Rr * 2 ^ (e + 200).toNat < 2 ^ 24 * 2 ^ (e + 200).toNat := Nat.mul_lt_mul_of_pos_right hlt (Nat.two_pow_pos _)
      rw [← Nat.pow_add] at h8
      have := (Nat.pow_lt_pow_iff_right (show 1 < 2 by decide)).mp (Nat.lt_of_le_of_lt h7 h8)
      omega
    have := FV.mk (s := s) (k := a.tmod b) (K := Rr) (N := 0) (e := e) (E := e) z hlt (by omega) (by omega) (by omega) hR hsg
    rw [Nat.pow_zero, Nat.mul_one] at this
    exact this
theorem fin_n32 {x : UInt32} {s : Bool} {c : Nat} {q : Int} (h : FP.Core.decode FP.Core.b32 x.toNat = .fin s c q) : vf_n32 x := by
  have hE : FP.Core.fieldE FP.Core.b32 x.toNat ≠ 255 := fun z => by
    unfold FP.Core.decode at h
    rw [if_pos (show FP.Core.fieldE FP.Core.b32 x.toNat = FP.Core.b32.exps - 1 from z)] at h
    split at h <;> cases h
  have hE : x.toNat / 8388608 % 256 ≠ 255 := hE
  have hx := x.toNat_lt
  unfold vf_n32
  rw [UInt32.le_iff_toNat_le, UInt32.toNat_and, show (0x7fffffff : UInt32).toNat = 2 ^ 31 - 1 from rfl, Nat.and_two_pow_sub_one_eq_mod, show (0x7f800000 : UInt32).toNat = 255 * 8388608 from rfl]
  omega
theorem FV.n32 {x : UInt32} {k : Int} (h : FV x k) : vf_n32 x := by
  obtain ⟨s, c, q, h1, -⟩ := h
  exact fin_n32 h1

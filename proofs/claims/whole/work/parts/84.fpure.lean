/-! numbers as doubles and floats: values in units of 2^-20 -/
abbrev Dat : Type := FP.Core.Datum
theorem asm_T {f : FP.Core.Fmt} {s : Bool} {e t : Nat} (ht : t < f.tails) : FP.Core.fieldT f (FP.Core.assemble f s e t) = t := by
  unfold FP.Core.fieldT FP.Core.assemble
  rw [Nat.add_comm, Nat.add_mul_mod_self_right, Nat.mod_eq_of_lt ht]
theorem asm_q {f : FP.Core.Fmt} {s : Bool} {e t : Nat} (ht : t < f.tails) : FP.Core.assemble f s e t / f.tails = s.toNat * f.exps + e := by
  unfold FP.Core.assemble
  rw [Nat.add_comm, Nat.add_mul_div_right _ _ (by omega), Nat.div_eq_of_lt ht, Nat.zero_add]
theorem asm_E {f : FP.Core.Fmt} {s : Bool} {e t : Nat} (ht : t < f.tails) (he : e < f.exps) : FP.Core.fieldE f (FP.Core.assemble f s e t) = e := by
  unfold FP.Core.fieldE
  rw [asm_q ht, Nat.add_comm, Nat.add_mul_mod_self_right, Nat.mod_eq_of_lt he]
theorem asm_S {f : FP.Core.Fmt} {s : Bool} {e t : Nat} (ht : t < f.tails) (he : e < f.exps) : FP.Core.fieldS f (FP.Core.assemble f s e t) = s := by
  unfold FP.Core.fieldS
  rw [asm_q ht, Nat.add_comm, Nat.add_mul_div_right _ _ (by omega), Nat.div_eq_of_lt he, Nat.zero_add]
  cases s <;> rfl
theorem dec_enc {f : FP.Core.Fmt} {s : Bool} {c : Nat} {q : Int} (hp : f.p ≠ 0) (hw : f.w ≠ 0) (hw2 : 4 ≤ f.exps) (h : FP.Core.fits f (.fin s c q)) : FP.Core.decode f (FP.Core.encode f (.fin s c q)) = .fin s c q := by
  obtain ⟨h1, h2, h3, h4⟩ := h
  have h2p : 2 ^ f.p = 2 * f.tails := by
    unfold FP.Core.Fmt.tails
    rw [← Nat.pow_succ', show (f.p - 1).succ = f.p by omega]
  have h2w : f.exps = 2 * (f.emax + 1) := by
    unfold FP.Core.Fmt.exps FP.Core.Fmt.emax
    have := Nat.two_pow_pos (f.w - 1)
    rw [Nat.sub_add_cancel this, ← Nat.pow_succ', show (f.w - 1).succ = f.w by omega]
  have hq : f.qmax - f.qmin = f.exps - 3 := by
    unfold FP.Core.Fmt.qmax FP.Core.Fmt.qmin
    omega
  unfold FP.Core.encode FP.Core.decode
  by_cases hc : c < f.tails
  · simp only [if_pos hc]
    rw [asm_E hc (by omega), asm_T hc, asm_S hc (by omega), if_neg (by omega), if_pos rfl]
    rcases h4 with h4 | h4
    · rw [h4]
    · omega
  · simp only [if_neg hc]
    have ht : c - f.tails < f.tails := by omega
    have he : (q - f.qmin).toNat + 1 < f.exps - 1 := by omega
    rw [asm_E ht (by omega), asm_T ht, asm_S ht (by omega), if_neg (by omega), if_neg (by omega)]
    have e1 : f.tails + (c - f.tails) = c := by omega
    have e2 : f.qmin + ((((q - f.qmin).toNat + 1 : Nat) : Int) - 1) = q := by omega
    rw [e1, e2]
theorem encB_lt {f : FP.Core.Fmt} {s : Bool} {c : Nat} {q : Int} (hp : f.p ≠ 0) (hw : f.w ≠ 0) (hw2 : 4 ≤ f.exps) (h : FP.Core.fits f (.fin s c q)) : FP.Core.encode f (.fin s c q) < 2 * f.exps * f.tails := by
  obtain ⟨h1, h2, h3, h4⟩ := h
  have h2p : 2 ^ f.p = 2 * f.tails := by
    unfold FP.Core.Fmt.tails
    rw [← Nat.pow_succ', show (f.p - 1).succ = f.p by omega]
  have h2w : f.exps = 2 * (f.emax + 1) := by
    unfold FP.Core.Fmt.exps FP.Core.Fmt.emax
    have := Nat.two_pow_pos (f.w - 1)
    rw [Nat.sub_add_cancel this, ← Nat.pow_succ', show (f.w - 1).succ = f.w by omega]
  have hq : f.qmax - f.qmin = f.exps - 3 := by
    unfold FP.Core.Fmt.qmax FP.Core.Fmt.qmin
    omega
  have key : ∀ (b : Bool) (e t : Nat), e < f.exps → t < f.tails → FP.Core.assemble f b e t < 2 * f.exps * f.tails := fun b e t he ht => by
    unfold FP.Core.assemble
    have h5 : b.toNat * f.exps + e + 1 ≤ 2 * f.exps := by cases b <;> simp <;> omega
    have h6 : (b.toNat * f.exps + e + 1) * f.tails ≤ 2 * f.exps * f.tails := Nat.mul_le_mul_right _ h5
    rw [Nat.add_mul, Nat.one_mul] at h6
    omega
  unfold FP.Core.encode
  by_cases hc : c < f.tails
  · simp only [if_pos hc]
    exact key s 0 c (by omega) hc
  · simp only [if_neg hc]
    exact key s _ _ (by omega) (by omega)
theorem near_mul {X d : Nat} (hd : 0 < d) : FP.Core.nearest (X * d) d = X := by
  unfold FP.Core.nearest
  rw [Nat.mul_mod_left, if_pos (by omega), Nat.mul_div_cancel _ hd]
theorem log2_mulp {K : Nat} (hK : K ≠ 0) (N : Nat) : (K * 2 ^ N).log2 = K.log2 + N := by
  have hp := Nat.two_pow_pos N
  refine (Nat.log2_eq_iff (Nat.mul_ne_zero hK (by omega))).mpr ⟨?_, ?_⟩
  · rw [Nat.pow_add]
    exact Nat.mul_le_mul_right _ (Nat.log2_self_le hK)
  · rw [show K.log2 + N + 1 = K.log2 + 1 + N by omega, Nat.pow_add]
    exact Nat.mul_lt_mul_of_pos_right Nat.lt_log2_self hp
/-- a value that has room is rounded to itself -/
theorem rr_exact {f : FP.Core.Fmt} {s : Bool} {K N D : Nat} {e E : Int} (hp : f.p ≠ 0) (hK : K ≠ 0) (hlt : K < 2 ^ f.p) (hE : E = e + N - D) (h1 : f.qmin ≤ E - ((f.p - 1 - K.log2 : Nat) : Int)) (h2 : E - ((f.p - 1 - K.log2 : Nat) : Int) ≤ f.qmax) :
    FP.Core.roundRatio f s (K * 2 ^ N) (2 ^ D) e = .fin s (K * 2 ^ (f.p - 1 - K.log2)) (E - ((f.p - 1 - K.log2 : Nat) : Int)) ∧ FP.Core.fits f (.fin s (K * 2 ^ (f.p - 1 - K.log2)) (E - ((f.p - 1 - K.log2 : Nat) : Int))) := by
  have hl : K.log2 < f.p := (Nat.log2_lt hK).mpr hlt
  have hs1 := Nat.log2_self_le hK
  have hs2 : K < 2 ^ (K.log2 + 1) := Nat.lt_log2_self
  have hld : FP.Core.leading (K * 2 ^ N) (2 ^ D) = (K.log2 : Int) + N - D := by
    unfold FP.Core.leading
    simp only [log2_mulp hK, Nat.log2_two_pow]
    rw [if_pos ?_]
    · omega
    · by_cases q : D ≤ K.log2 + N
      · rw [show (((K.log2 + N : Nat) : Int) - (D : Int)).toNat = K.log2 + N - D by omega, show (-(((K.log2 + N : Nat) : Int) - (D : Int))).toNat = 0 by omega, ← Nat.pow_add, show D + (K.log2 + N - D) = K.log2 + N by omega, Nat.pow_zero, Nat.mul_one, Nat.pow_add]
        exact Nat.mul_le_mul_right _ hs1
      · rw [show (((K.log2 + N : Nat) : Int) - (D : Int)).toNat = 0 by omega, show (-(((K.log2 + N : Nat) : Int) - (D : Int))).toNat = D - (K.log2 + N) by omega, Nat.pow_zero, Nat.mul_one]
        have : 2 ^ D = 2 ^ (K.log2 + N) * 2 ^ (D - (K.log2 + N)) := by rw [← Nat.pow_add]; congr 1; omega
        rw [this, Nat.pow_add]
        exact Nat.mul_le_mul_right _ (Nat.mul_le_mul_right _ hs1)
  have hqt : FP.Core.quantum f (K * 2 ^ N) (2 ^ D) e = E - ((f.p - 1 - K.log2 : Nat) : Int) := by
    unfold FP.Core.quantum
    rw [hld]
    omega
  have hK2 : K * 2 ^ (f.p - 1 - K.log2) < 2 ^ f.p := by
    have : 2 ^ f.p = 2 ^ (K.log2 + 1) * 2 ^ (f.p - 1 - K.log2) := by rw [← Nat.pow_add]; congr 1; omega
    rw [this]
    exact Nat.mul_lt_mul_of_pos_right hs2 (Nat.two_pow_pos _)
  have hK3 : f.tails ≤ K * 2 ^ (f.p - 1 - K.log2) := by
    unfold FP.Core.Fmt.tails
    have : 2 ^ (f.p - 1) = 2 ^ K.log2 * 2 ^ (f.p - 1 - K.log2) := by rw [← Nat.pow_add]; congr 1; omega
    rw [this]
    exact Nat.mul_le_mul_right _ hs1
  refine ⟨?_, hK2, h1, h2, Or.inr hK3⟩
  unfold FP.Core.roundRatio
  rw [if_neg (Nat.mul_ne_zero hK (by have := Nat.two_pow_pos N; omega)), hqt]
  unfold FP.Core.roundAt
  have hn : FP.Core.nearest (FP.Core.unitsNum (K * 2 ^ N) e (E - ((f.p - 1 - K.log2 : Nat) : Int))) (FP.Core.unitsDen (2 ^ D) e (E - ((f.p - 1 - K.log2 : Nat) : Int))) = K * 2 ^ (f.p - 1 - K.log2) := by
    unfold FP.Core.unitsNum FP.Core.unitsDen
    have : K * 2 ^ N * 2 ^ (e - (E - ((f.p - 1 - K.log2 : Nat) : Int))).toNat = K * 2 ^ (f.p - 1 - K.log2) * (2 ^ D * 2 ^ (E - ((f.p - 1 - K.log2 : Nat) : Int) - e).toNat) := by
      rw [Nat.mul_assoc, Nat.mul_assoc, ← Nat.pow_add, ← Nat.pow_add, ← Nat.pow_add]
      congr 2
      omega
    rw [this, near_mul (Nat.mul_pos (Nat.two_pow_pos _) (Nat.two_pow_pos _))]
  rw [hn]
  unfold FP.Core.settle
  rw [if_pos hK2]
  unfold FP.Core.bound
  rw [if_pos h2]
theorem rr_zero {f : FP.Core.Fmt} {s : Bool} {d : Nat} {e : Int} : FP.Core.roundRatio f s 0 d e = .fin s 0 f.qmin := by
  unfold FP.Core.roundRatio
  rw [if_pos rfl]
theorem fits_zero {f : FP.Core.Fmt} {s : Bool} (h : f.qmin ≤ f.qmax) : FP.Core.fits f (.fin s 0 f.qmin) := ⟨Nat.two_pow_pos _, Int.le_refl _, h, Or.inl rfl⟩
/-- bits -/
theorem b64_rt {s : Bool} {c : Nat} {q : Int} (h : FP.Core.fits FP.Core.b64 (.fin s c q)) : FP.Core.decode FP.Core.b64 (UInt64.ofNat (FP.Core.encode FP.Core.b64 (.fin s c q))).toNat = .fin s c q := by
  have hl : FP.Core.encode FP.Core.b64 (.fin s c q) < 2 ^ 64 := encB_lt (f := FP.Core.b64) (by decide) (by decide) (by decide) h
  rw [UInt64.toNat_ofNat_of_lt' hl]
  exact dec_enc (by decide) (by decide) (by decide) h
theorem b32_rt {s : Bool} {c : Nat} {q : Int} (h : FP.Core.fits FP.Core.b32 (.fin s c q)) : FP.Core.decode FP.Core.b32 (UInt32.ofNat (FP.Core.encode FP.Core.b32 (.fin s c q))).toNat = .fin s c q := by
  have hl : FP.Core.encode FP.Core.b32 (.fin s c q) < 2 ^ 32 := encB_lt (f := FP.Core.b32) (by decide) (by decide) (by decide) h
  rw [UInt32.toNat_ofNat_of_lt' hl]
  exact dec_enc (by decide) (by decide) (by decide) h
/-- the value of a datum: k units of 2^(-g) -/
def DG (g : Nat) (d : Dat) (k : Int) : Prop := ∃ (s : Bool) (n : Nat), d = .fin s (k.natAbs * 2 ^ n) (-(g : Int) - n) ∧ (k ≠ 0 → s = decide (k < 0))
def DV (x : UInt64) (k : Int) : Prop := DG 20 (FP.Core.decode FP.Core.b64 x.toNat) k
theorem sgn_val {s : Bool} {a : Int} {P : Nat} (h : a ≠ 0 → s = decide (a < 0)) : FP.Core.signed s (a.natAbs * P) = a * P := by
  unfold FP.Core.signed
  by_cases z : a = 0
  · subst z
    cases s <;> simp
  · rw [h z]
    by_cases q : a < 0
    · rw [decide_eq_true q, if_pos rfl, Int.natCast_mul, Int.ofNat_natAbs_of_nonpos (by omega), Int.neg_mul, Int.neg_neg]
    · rw [decide_eq_false q, if_neg (by decide), Int.natCast_mul, Int.ofNat_natAbs_of_nonneg (by omega)]
theorem in_units {a n N g : Nat} (h : n ≤ N) : FP.Core.inUnits (a * 2 ^ n) (-(g : Int) - n) (-(g : Int) - N) = a * 2 ^ N := by
  unfold FP.Core.inUnits
  rw [show (-(g : Int) - n - (-(g : Int) - N)).toNat = N - n by omega, Nat.mul_assoc, ← Nat.pow_add, show n + (N - n) = N by omega]
theorem DG.neg {g : Nat} {d : Dat} {k : Int} (h : DG g d k) : DG g (FP.Core.negate d) (-k) := by
  obtain ⟨s, n, rfl, hs⟩ := h
  refine ⟨!s, n, ?_, fun hk => ?_⟩
  · show FP.Core.Datum.fin (!s) _ _ = _
    rw [Int.natAbs_neg]
  · rw [hs (by omega)]
    by_cases q : k < 0
    · rw [decide_eq_true q, decide_eq_false (by omega)]; rfl
    · rw [decide_eq_false q, decide_eq_true (by omega)]; rfl
/-- the exact sum, before rounding -/
theorem DG.sum {g : Nat} {d d' : Dat} {a b : Int} (h : DG g d a) (h' : DG g d' b) : ∃ (s : Bool) (N : Nat), FP.Core.exactSum d d' = .fin s ((a + b).natAbs * 2 ^ N) (-(g : Int) - N) ∧ (a + b ≠ 0 → s = decide (a + b < 0)) := by
  obtain ⟨s, n, rfl, hs⟩ := h
  obtain ⟨t, m, rfl, ht⟩ := h'
  have hmin : min (-(g : Int) - n) (-(g : Int) - m) = -(g : Int) - ((max n m : Nat) : Int) := by omega
  have hsum : FP.Core.sumUnits s (a.natAbs * 2 ^ n) (-(g : Int) - n) t (b.natAbs * 2 ^ m) (-(g : Int) - m) (-(g : Int) - ((max n m : Nat) : Int)) = (a + b) * ((2 ^ (max n m) : Nat) : Int) := by
    unfold FP.Core.sumUnits
    rw [in_units (Nat.le_max_left n m), in_units (Nat.le_max_right n m), sgn_val hs, sgn_val ht, Int.add_mul]
  refine ⟨FP.Core.sumSign s t ((a + b) * ((2 ^ (max n m) : Nat) : Int)), max n m, ?_, fun hk => ?_⟩
  · show FP.Core.Datum.fin _ _ _ = _
    rw [hmin, hsum, Int.natAbs_mul, Int.natAbs_natCast]
  · have hp : (0 : Int) < ((2 ^ (max n m) : Nat) : Int) := by have := Nat.two_pow_pos (max n m); omega
    unfold FP.Core.sumSign
    rw [if_neg (fun z => by rcases Int.mul_eq_zero.mp z with z | z <;> omega)]
    by_cases q : a + b < 0
    · rw [decide_eq_true q, decide_eq_true (Int.mul_neg_of_neg_of_pos q hp)]
    · rw [decide_eq_false q, decide_eq_false (Int.not_lt.mpr (Int.mul_nonneg (by omega) (by omega)))]
/-- a rounded value that has room in a double -/
theorem DG.round {g : Nat} {s : Bool} {k : Int} {N D : Nat} {e : Int} (hg : g ≤ 1000) (hk : k.natAbs < 2 ^ 53) (hs : k ≠ 0 → s = decide (k < 0)) (he : -(g : Int) = e + N - D) : ∃ c q, FP.Core.roundRatio FP.Core.b64 s (k.natAbs * 2 ^ N) (2 ^ D) e = .fin s c q ∧ FP.Core.fits FP.Core.b64 (.fin s c q) ∧ DG g (.fin s c q) k := by
  by_cases z : k = 0
  · subst z
    refine ⟨0, -1074, ?_, fits_zero (f := FP.Core.b64) (by decide), s, 1074 - g, ?_, fun q => absurd rfl q⟩
    · rw [Int.natAbs_zero, Nat.zero_mul, rr_zero]; rfl
    · rw [Int.natAbs_zero, Nat.zero_mul]
      congr 1
      omega
  · have hK : k.natAbs ≠ 0 := by omega
    have hl : k.natAbs.log2 < 53 := (Nat.log2_lt hK).mpr hk
    have e1 : FP.Core.b64.qmin = -1074 := rfl
    have e2 : FP.Core.b64.qmax = 971 := rfl
    have e3 : FP.Core.b64.p = 53 := rfl
    obtain ⟨r1, r2⟩ := rr_exact (f := FP.Core.b64) (s := s) (K := k.natAbs) (N := N) (D := D) (e := e) (E := -(g : Int)) (by decide) hK hk he (by rw [e1, e3]; omega) (by rw [e2, e3]; omega)
    exact ⟨_, _, r1, r2, s, _, rfl, hs⟩
theorem DV.mk {s : Bool} {k : Int} {N D : Nat} {e : Int} (hk : k.natAbs < 2 ^ 53) (hs : k ≠ 0 → s = decide (k < 0)) (he : -20 = e + N - D) : DV (UInt64.ofNat (FP.Core.encode FP.Core.b64 (FP.Core.roundRatio FP.Core.b64 s (k.natAbs * 2 ^ N) (2 ^ D) e))) k := by
  obtain ⟨c, q, h1, h2, h3⟩ := DG.round (g := 20) (N := N) (D := D) (e := e) (by decide) hk hs he
  unfold DV
  rw [h1, b64_rt h2]
  exact h3
theorem DV.add {x y : UInt64} {a b : Int} (hx : DV x a) (hy : DV y b) (h : (a + b).natAbs < 2 ^ 53) : DV (FP.dadd x y) (a + b) := by
  obtain ⟨s, N, h1, h2⟩ := DG.sum hx hy
  show DV (UInt64.ofNat (FP.Core.encode FP.Core.b64 (FP.Core.round FP.Core.b64 (FP.Core.exactSum _ _)))) _
  rw [h1]
  exact DV.mk (D := 0) h h2 (by omega)
theorem DV.sub {x y : UInt64} {a b : Int} (hx : DV x a) (hy : DV y b) (h : (a - b).natAbs < 2 ^ 53) : DV (FP.dsub x y) (a - b) := by
  rw [Int.sub_eq_add_neg] at h ⊢
  obtain ⟨s, N, h1, h2⟩ := DG.sum hx (DG.neg hy)
  show DV (UInt64.ofNat (FP.Core.encode FP.Core.b64 (FP.Core.round FP.Core.b64 (FP.Core.exactSum _ (FP.Core.negate _))))) _
  rw [h1]
  exact DV.mk (D := 0) h h2 (by omega)
theorem two_dec : FP.Core.decode FP.Core.b64 (4611686018427387904 : UInt64).toNat = .fin false (2 ^ 52) (-51) := by decide +kernel
theorem big_dec : FP.Core.decode FP.Core.b64 (4697254411347427328 : UInt64).toNat = .fin false (2 ^ 52) (-32) := by decide +kernel
theorem quot_fin {f : FP.Core.Fmt} {s t : Bool} {c d : Nat} {q r : Int} (h : d ≠ 0) : FP.Core.quotient f (.fin s c q) (.fin t d r) = FP.Core.roundRatio f (s != t) c d (q - r) := by
  unfold FP.Core.quotient
  exact if_neg h
theorem DV.half {x : UInt64} {a : Int} (hx : DV x (2 * a)) (h : a.natAbs < 2 ^ 53) : DV (FP.ddiv x 4611686018427387904) a := by
  obtain ⟨s, n, h1, h2⟩ := hx
  show DV (UInt64.ofNat (FP.Core.encode FP.Core.b64 (FP.Core.quotient FP.Core.b64 (FP.Core.decode FP.Core.b64 x.toNat) (FP.Core.decode FP.Core.b64 (4611686018427387904 : UInt64).toNat)))) _
  rw [h1, two_dec]
  rw [quot_fin (by decide), show (2 * a).natAbs * 2 ^ n = a.natAbs * 2 ^ (n + 1) from by rw [Int.natAbs_mul, Nat.pow_succ]; show 2 * a.natAbs * 2 ^ n = _; rw [Nat.mul_comm 2, Nat.mul_assoc, Nat.mul_comm 2]]
  refine DV.mk h (fun q => ?_) (by omega)
  rw [show (s != false) = s from by cases s <;> rfl, h2 (by omega)]
  by_cases z : a < 0
  · rw [decide_eq_true z, decide_eq_true (by omega)]
  · rw [decide_eq_false z, decide_eq_false (by omega)]
theorem cmp_mul {a b P : Int} (hP : 0 < P) : compare (a * P) (b * P) = compare a b := by
  have e : ∀ x y : Int, compare x y = if x < y then .lt else if x = y then .eq else .gt := fun x y => rfl
  rw [e, e]
  by_cases h1 : a < b
  · rw [if_pos h1, if_pos (Int.mul_lt_mul_of_pos_right h1 hP)]
  · rw [if_neg h1, if_neg (Int.not_lt.mpr (Int.mul_le_mul_of_nonneg_right (Int.not_lt.mp h1) (by omega)))]
    by_cases h2 : a = b
    · rw [if_pos h2, h2, if_pos rfl]
    · rw [if_neg h2, if_neg (fun q => h2 (Int.eq_of_mul_eq_mul_right (by omega) q))]
theorem DV.cmp {x y : UInt64} {a b : Int} (hx : DV x a) (hy : DV y b) : FP.dcmp x y = some (compare a b) := by
  obtain ⟨s, n, h1, h2⟩ := hx
  obtain ⟨t, m, h3, h4⟩ := hy
  show FP.Core.order (FP.Core.decode FP.Core.b64 x.toNat) (FP.Core.decode FP.Core.b64 y.toNat) = _
  rw [h1, h3]
  have hmin : min (-((20 : Nat) : Int) - n) (-((20 : Nat) : Int) - m) = -((20 : Nat) : Int) - ((max n m : Nat) : Int) := by omega
  show some (compare (FP.Core.signed s (FP.Core.inUnits _ _ (min (-((20 : Nat) : Int) - n) (-((20 : Nat) : Int) - m)))) (FP.Core.signed t (FP.Core.inUnits _ _ (min (-((20 : Nat) : Int) - n) (-((20 : Nat) : Int) - m))))) = _
  rw [hmin, in_units (Nat.le_max_left n m), in_units (Nat.le_max_right n m), sgn_val h2, sgn_val h4, cmp_mul (by have := Nat.two_pow_pos (max n m); omega)]
theorem DV.zero : DV FP.dconst0 0 := ⟨false, 1054, by decide +kernel, fun q => absurd rfl q⟩
theorem DV.one : DV FP.dconst1 1048576 := ⟨false, 32, by decide +kernel, fun _ => rfl⟩
theorem fin_n64 {x : UInt64} {s : Bool} {c : Nat} {q : Int} (h : FP.Core.decode FP.Core.b64 x.toNat = .fin s c q) : vf_n64 x := by
  have hE : FP.Core.fieldE FP.Core.b64 x.toNat ≠ 2047 := fun z => by
    unfold FP.Core.decode at h
    rw [if_pos (show FP.Core.fieldE FP.Core.b64 x.toNat = FP.Core.b64.exps - 1 from z)] at h
    split at h <;> cases h
  have hE : x.toNat / 4503599627370496 % 2048 ≠ 2047 := hE
  have hx := x.toNat_lt
  unfold vf_n64
  rw [UInt64.le_iff_toNat_le, UInt64.toNat_and, show (0x7fffffffffffffff : UInt64).toNat = 2 ^ 63 - 1 from rfl, Nat.and_two_pow_sub_one_eq_mod, show (0x7ff0000000000000 : UInt64).toNat = 2047 * 4503599627370496 from rfl]
  omega
theorem DV.n64 {x : UInt64} {k : Int} (h : DV x k) : vf_n64 x := by
  obtain ⟨s, n, h1, -⟩ := h
  exact fin_n64 h1
theorem DV.uniq {x : UInt64} {a b : Int} (hx : DV x a) (hy : DV x b) : a = b := by
  have h1 := DV.cmp hx hy
  have h2 := DV.cmp hx hx
  rw [h2] at h1
  have h3 : compare a a = compare a b := Option.some.inj h1
  have e : ∀ x y : Int, compare x y = if x < y then .lt else if x = y then .eq else .gt := fun x y => rfl
  rw [e, e, if_neg (by omega), if_pos rfl] at h3
  by_cases q : a < b
  · rw [if_pos q] at h3; cases h3
  · rw [if_neg q] at h3
    by_cases z : a = b
    · exact z
    · rw [if_neg z] at h3; cases h3

/-! x.keepPoints, x.remainder -/
def typ (b : Bool) (x : UInt64) : UInt64 := if b = true then FP.f2d (FP.d2f x) else x
def tgtR (b : Bool) (p : Nat → UInt64 × UInt64) (i : Nat) : UInt64 := if i % 2 = 0 then typ b (p (i / 2)).1 else typ b (p (i / 2)).2
theorem typ_ok {x : UInt64} (h : Pt x (60 * 1048576)) : vf_n32 (FP.d2f x) ∧ vf_n64 (FP.f2d (FP.d2f x)) ∧ ∃ k', RepF k' ∧ k'.natAbs ≤ 2 ^ 27 ∧ DV (FP.f2d (FP.d2f x)) k' := by
  have hb := h.2
  obtain ⟨k', h1, h2, h3⟩ := h.1.anyF (by omega)
  have h4 := h3.toD (by omega)
  exact ⟨h3.n32, h4.n64, k', h1, h2, h4⟩
theorem xor63 {m : Nat} (h : m < 2 ^ 64) : m ^^^ 2 ^ 63 = if m < 2 ^ 63 then m + 2 ^ 63 else m - 2 ^ 63 := by
  have e1 : (m ^^^ 2 ^ 63) % 2 ^ 63 = m % 2 ^ 63 := by
    rw [Nat.xor_mod_two_pow, Nat.mod_self, Nat.xor_zero]
  have e2 : (m ^^^ 2 ^ 63) / 2 ^ 63 = m / 2 ^ 63 ^^^ 1 := by
    rw [Nat.xor_div_two_pow, Nat.div_self (by decide)]
  have e3 := Nat.div_add_mod (m ^^^ 2 ^ 63) (2 ^ 63)
  rw [e1, e2] at e3
  by_cases q : m < 2 ^ 63
  · rw [if_pos q, ← e3, show m / 2 ^ 63 = 0 by omega, show 0 ^^^ 1 = 1 from rfl]
    omega
  · rw [if_neg q, ← e3, show m / 2 ^ 63 = 1 by omega, show 1 ^^^ 1 = 0 from rfl]
    omega
theorem dec_neg {m : Nat} {s : Bool} {c : Nat} {q : Int} (hm : m < 2 ^ 64) (h : FP.Core.decode FP.Core.b64 m = .fin s c q) : FP.Core.decode FP.Core.b64 (m ^^^ 2 ^ 63) = .fin (!s) c q := by
  rw [xor63 hm]
  have hS : FP.Core.fieldS FP.Core.b64 m = decide (¬ m < 2 ^ 63) := by
    show (m / 4503599627370496 / 2048 % 2 == 1) = _
    by_cases z : m < 2 ^ 63
    · rw [show m / 4503599627370496 / 2048 % 2 = 0 by omega, decide_eq_false (fun y => y z)]; rfl
    · rw [show m / 4503599627370496 / 2048 % 2 = 1 by omega, decide_eq_true z]; rfl
  obtain ⟨m', hm'⟩ : ∃ m', (if m < 2 ^ 63 then m + 2 ^ 63 else m - 2 ^ 63) = m' := ⟨_, rfl⟩
  have hd : (m < 2 ^ 63 ∧ m' = m + 2 ^ 63) ∨ (¬ m < 2 ^ 63 ∧ m' = m - 2 ^ 63) := by
    by_cases z : m < 2 ^ 63
    · rw [if_pos z] at hm'; exact Or.inl ⟨z, hm'.symm⟩
    · rw [if_neg z] at hm'; exact Or.inr ⟨z, hm'.symm⟩
  rw [hm']
  have eT : FP.Core.fieldT FP.Core.b64 m' = FP.Core.fieldT FP.Core.b64 m := by
    show m' % 4503599627370496 = m % 4503599627370496
    omega
  have eE : FP.Core.fieldE FP.Core.b64 m' = FP.Core.fieldE FP.Core.b64 m := by
    show m' / 4503599627370496 % 2048 = m / 4503599627370496 % 2048
    omega
  have eS : FP.Core.fieldS FP.Core.b64 m' = !FP.Core.fieldS FP.Core.b64 m := by
    rw [hS]
    show (m' / 4503599627370496 / 2048 % 2 == 1) = _
    by_cases z : m < 2 ^ 63
    · rw [show m' / 4503599627370496 / 2048 % 2 = 1 by omega, decide_eq_false (fun y => y z)]; rfl
    · rw [show m' / 4503599627370496 / 2048 % 2 = 0 by omega, decide_eq_true z]; rfl
  unfold FP.Core.decode at h ⊢
  rw [eT, eE, eS]
  by_cases q1 : FP.Core.fieldE FP.Core.b64 m = FP.Core.b64.exps - 1
  · rw [if_pos q1] at h
    split at h <;> cases h
  · rw [if_neg q1] at h ⊢
    by_cases q2 : FP.Core.fieldE FP.Core.b64 m = 0
    · rw [if_pos q2] at h ⊢
      cases h; rfl
    · rw [if_neg q2] at h ⊢
      cases h; rfl
theorem DV.neg {x : UInt64} {k : Int} (h : DV x k) : DV (FP.dneg x) (-k) := by
  have hn := DG.neg h
  obtain ⟨s, n, h1, h2⟩ := h
  have e : FP.Core.decode FP.Core.b64 (FP.dneg x).toNat = FP.Core.negate (FP.Core.decode FP.Core.b64 x.toNat) := by
    show FP.Core.decode FP.Core.b64 (x ^^^ 0x8000000000000000).toNat = _
    rw [UInt64.toNat_xor, show (0x8000000000000000 : UInt64).toNat = 2 ^ 63 from rfl, dec_neg x.toNat_lt h1, h1]
    rfl
  unfold DV
  rw [e]
  exact hn
theorem tmod_val (a b : Int) : a.tmod b = if a < 0 then -((a.natAbs % b.natAbs : Nat) : Int) else ((a.natAbs % b.natAbs : Nat) : Int) := by
  rw [← Int.natAbs_tmod]
  by_cases q : a < 0
  · rw [if_pos q]
    have h1 : 0 ≤ (-a).tmod b := Int.tmod_nonneg b (by omega)
    rw [Int.neg_tmod] at h1
    omega
  · rw [if_neg q]
    have h1 : 0 ≤ a.tmod b := Int.tmod_nonneg b (by omega)
    omega
theorem ofI_toInt {k : Int} (h : k.natAbs < 2 ^ 53) : (Int64.ofInt k).toInt = k := by
  rw [Int64.toInt_ofInt, show Int64.size = 2 ^ 64 from rfl]
  apply Int.bmod_eq_of_le <;> omega
theorem ofI_lt {k : Int} (h : k.natAbs < 2 ^ 53) : Int64.ofInt k < 0 ↔ k < 0 := by
  rw [Int64.lt_iff_toInt_lt, ofI_toInt h]
  exact Iff.rfl
theorem ofI_z {k : Int} (h : k.natAbs < 2 ^ 53) : Int64.ofInt k = 0 ↔ k = 0 := by
  constructor
  · intro q
    have := congrArg Int64.toInt q
    rw [ofI_toInt h] at this
    exact this
  · intro q; rw [q]; rfl
theorem ofI_pos {k : Int} (h : k.natAbs < 2 ^ 53) (h0 : ¬ k < 0) : Int64.ofInt k = nL k.natAbs := by
  apply Int64.toInt_inj.mp
  rw [ofI_toInt h, nL_toInt (by omega)]
  omega
theorem ofI_neg {k : Int} (h : k.natAbs < 2 ^ 53) (h0 : k < 0) : -Int64.ofInt k = nL k.natAbs := by
  apply Int64.toInt_inj.mp
  rw [Int64.toInt_neg, ofI_toInt h, nL_toInt (by omega)]
  rw [Int.bmod_eq_of_le (by omega) (by omega)]
  omega
theorem x_typ {scr : Scr} {l : Launch} {S : Sto} {d : Nat} {b : Bool} {x : UInt64} (h1 : vf_n32 (FP.d2f x)) (h2 : vf_n64 (FP.f2d (FP.d2f x))) : MetA scr l d M_Pr_inTypeOfRow [.double x, .int (nI (bI b))] S (.inl (some (.double (typ b x))), S) := by
  cases b with
  | true =>
    rw [show bI true = 1 from rfl, show typ true x = FP.f2d (FP.d2f x) from rfl]
    refine MetA.of rfl (by decide +kernel) (Nat.le_of_ble_eq_true rfl) ?_
    refine ev_iload_n i_Pr_inTypeOfRow_0 rfl ?_
    refine ev_if_eqN i_Pr_inTypeOfRow_1 (by omega) (fun hc_1 => ?_) (fun hc_1 => ?_)
    · skip
      exfalso; omega
    · skip
      refine ev_dload_n i_Pr_inTypeOfRow_4 rfl ?_
      refine ev_d2f i_Pr_inTypeOfRow_5 h1 ?_
      refine ev_f2d i_Pr_inTypeOfRow_6 h2 ?_
      refine ev_goto i_Pr_inTypeOfRow_7 ?_
      exact ev_dret i_Pr_inTypeOfRow_11 rfl
  | false =>
    rw [show bI false = 0 from rfl, show typ false x = x from rfl]
    refine MetA.of rfl (by decide +kernel) (Nat.le_of_ble_eq_true rfl) ?_
    refine ev_iload_n i_Pr_inTypeOfRow_0 rfl ?_
    refine ev_if_eqN i_Pr_inTypeOfRow_1 (by omega) (fun hc_1 => ?_) (fun hc_1 => ?_)
    · skip
      refine ev_dload_n i_Pr_inTypeOfRow_10 rfl ?_
      exact ev_dret i_Pr_inTypeOfRow_11 rfl
    · skip
      exfalso; omega
theorem lp_kept {scr : Scr} {l : Launch} {S : Sto} {σ : Sg} {b : Bool} {row n : Nat} {G : Fig} {p : Nat → UInt64 × UInt64} {hz : Nat → UInt64} {v : Option Value} {Post : Sto → Prop} (hS : FiS S n G p) (h0 : S.1[0]? = some (xObj σ.2.2.2.1)) (hr : row < 2) (hn : n ≤ 61) (hp : ∀ j, j < n → Pt (p j).1 (60 * 1048576) ∧ Pt (p j).2 (60 * 1048576)) (hh : S.1[102 + row]? = some (aD 122 hz)) (hk : ∀ f, (∀ j, j < 2 * n → f j = tgtR b p j) → EvX scr l 6 M_Pr_keepPoints 94 [some (.ref 0), some (.int (nI row)), some (.int (nI (bI b))), some (.ref (102 + row)), some (.int (nI n))] (S.put (102 + row) (aD 122 f)) v Post) : ∀ (k i : Nat), i + k = n → ∀ f, (∀ j, j < 2 * i → f j = tgtR b p j) → EvX scr l 6 M_Pr_keepPoints 34 [some (.ref 0), some (.int (nI row)), some (.int (nI (bI b))), some (.ref (102 + row)), some (.int (nI i))] (S.put (102 + row) (aD 122 f)) v Post := by
  obtain ⟨-, ⟨fx, x1, xv0⟩, ⟨fy, y1, yv0⟩, -⟩ := id hS
  have xv : ∀ j, j < n → fx j = (p j).1 := xv0
  have yv : ∀ j, j < n → fy j = (p j).2 := yv0
  intro k
  induction k with
  | zero =>
    intro i hik f hf
    have z : i = n := by omega
    subst z
    have q0 : (S.put (102 + row) (aD 122 f)).1[0]? = _ := put_at h0 (by omega)
    have r0 : (S.put (102 + row) (aD 122 f)).1[95]? = _ := put_at hS.1 (by omega)
    have s0 : (S.put (102 + row) (aD 122 f)).1[96]? = _ := put_at x1 (by omega)
    have t0 : (S.put (102 + row) (aD 122 f)).1[97]? = _ := put_at y1 (by omega)
    have z0 : (S.put (102 + row) (aD 122 f)).1[102 + row]? = _ := put_self hh
    refine EvX.go (hk f hf) (fun d r kx => ?_)
    refine ev_iload i_Pr_keepPoints_34 rfl ?_
    refine ev_aload_n i_Pr_keepPoints_36 rfl ?_
    refine ev_get i_Pr_keepPoints_37 q0 rfl ?_
    refine ev_get i_Pr_keepPoints_40 r0 rfl ?_
    refine ev_icmp_geN i_Pr_keepPoints_43 (by omega) (by omega) (fun hc_43 => ?_) (fun hc_43 => ?_)
    · skip
      exact kx
    · skip
      exfalso; omega
  | succ k ih =>
    intro i hik f hf
    have px := typ_ok (hp i (by omega)).1
    have py := typ_ok (hp i (by omega)).2
    have q0 : (S.put (102 + row) (aD 122 f)).1[0]? = _ := put_at h0 (by omega)
    have r0 : (S.put (102 + row) (aD 122 f)).1[95]? = _ := put_at hS.1 (by omega)
    have s0 : (S.put (102 + row) (aD 122 f)).1[96]? = _ := put_at x1 (by omega)
    have t0 : (S.put (102 + row) (aD 122 f)).1[97]? = _ := put_at y1 (by omega)
    have z0 : (S.put (102 + row) (aD 122 f)).1[102 + row]? = _ := put_self hh
    have q1 : (S.put (102 + row) (aD 122 (vf_upd f (2 * i) (typ b (p i).1)))).1[0]? = _ := put_at h0 (by omega)
    have r1 : (S.put (102 + row) (aD 122 (vf_upd f (2 * i) (typ b (p i).1)))).1[95]? = _ := put_at hS.1 (by omega)
    have s1 : (S.put (102 + row) (aD 122 (vf_upd f (2 * i) (typ b (p i).1)))).1[96]? = _ := put_at x1 (by omega)
    have t1 : (S.put (102 + row) (aD 122 (vf_upd f (2 * i) (typ b (p i).1)))).1[97]? = _ := put_at y1 (by omega)
    have z1 : (S.put (102 + row) (aD 122 (vf_upd f (2 * i) (typ b (p i).1)))).1[102 + row]? = _ := put_self hh
    refine EvX.go (ih (i + 1) (by omega) (vf_upd (vf_upd f (2 * i) (typ b (p i).1)) (2 * i + 1) (typ b (p i).2)) (fun j hj => ?_)) (fun d r kx => ?_)
    · by_cases w1 : j = 2 * i + 1
      · rw [w1, updD_at]
        unfold tgtR
        rw [if_neg (by omega), show (2 * i + 1) / 2 = i by omega]
      · rw [updD_ne w1]
        by_cases w2 : j = 2 * i
        · rw [w2, updD_at]
          unfold tgtR
          rw [if_pos (by omega), show 2 * i / 2 = i by omega]
        · rw [updD_ne w2]
          exact hf j (by omega)
    · skip
      refine ev_iload i_Pr_keepPoints_34 rfl ?_
      refine ev_aload_n i_Pr_keepPoints_36 rfl ?_
      refine ev_get i_Pr_keepPoints_37 q0 rfl ?_
      refine ev_get i_Pr_keepPoints_40 r0 rfl ?_
      refine ev_icmp_geN i_Pr_keepPoints_43 (by omega) (by omega) (fun hc_43 => ?_) (fun hc_43 => ?_)
      · skip
        exfalso; omega
      · skip
        refine ev_aload_n i_Pr_keepPoints_46 rfl ?_
        refine ev_iconstN (v := 2) i_Pr_keepPoints_47 (by decide) ?_
        refine ev_iload i_Pr_keepPoints_48 rfl ?_
        first | refine ev_imulN i_Pr_keepPoints_50 ?_ | refine ev_imul i_Pr_keepPoints_50 ?_
        refine ev_aload_n i_Pr_keepPoints_51 rfl ?_
        refine ev_get i_Pr_keepPoints_52 q0 rfl ?_
        refine ev_get i_Pr_keepPoints_55 r0 rfl ?_
        refine ev_iload i_Pr_keepPoints_58 rfl ?_
        refine ev_daldN i_Pr_keepPoints_60 s0 (by omega) (by decide) ?_
        rw [xv i (by omega)]
        refine ev_iload_n i_Pr_keepPoints_61 rfl ?_
        refine ev_callS2 i_Pr_keepPoints_62 rfl (Nat.le_of_ble_eq_true rfl) (x_typ px.1 px.2.1) ?_
        refine ev_dastN i_Pr_keepPoints_65 z0 (by omega) (by decide) ?_
        rw [put_put]
        refine ev_aload_n i_Pr_keepPoints_66 rfl ?_
        refine ev_iconstN (v := 2) i_Pr_keepPoints_67 (by decide) ?_
        refine ev_iload i_Pr_keepPoints_68 rfl ?_
        first | refine ev_imulN i_Pr_keepPoints_70 ?_ | refine ev_imul i_Pr_keepPoints_70 ?_
        refine ev_iconstN (v := 1) i_Pr_keepPoints_71 (by decide) ?_
        first | refine ev_iaddN i_Pr_keepPoints_72 ?_ | refine ev_iadd i_Pr_keepPoints_72 ?_
        refine ev_aload_n i_Pr_keepPoints_73 rfl ?_
        refine ev_get i_Pr_keepPoints_74 q1 rfl ?_
        refine ev_get i_Pr_keepPoints_77 r1 rfl ?_
        refine ev_iload i_Pr_keepPoints_80 rfl ?_
        refine ev_daldN i_Pr_keepPoints_82 t1 (by omega) (by decide) ?_
        rw [yv i (by omega)]
        refine ev_iload_n i_Pr_keepPoints_83 rfl ?_
        refine ev_callS2 i_Pr_keepPoints_84 rfl (Nat.le_of_ble_eq_true rfl) (x_typ py.1 py.2.1) ?_
        refine ev_dastN i_Pr_keepPoints_87 z1 (by omega) (by decide) ?_
        rw [put_put]
        refine ev_iincN_4 (c := 1) i_Pr_keepPoints_88 (by decide) rfl ?_
        refine ev_goto i_Pr_keepPoints_91 ?_
        exact kx
def setRow (R : Rows) (row n : Nat) (f : Nat → UInt64) : Rows := fun j => if j = row then (n, f) else R j
abbrev setRw (σ : Sg) (row n : Nat) (f : Nat → UInt64) : Sg := (σ.1, σ.2.1, σ.2.2.1, σ.2.2.2.1, σ.2.2.2.2.1, setRow σ.2.2.2.2.2 row n f)
theorem x_keepPts {scr : Scr} {l : Launch} {S : Sto} {σ : Sg} {row : Nat} {b : Bool} {G : Fig} (h : XInv σ S) (hr : row < 2) (hG : fgS σ = some G) : XRun scr l 6 M_Pr_keepPoints [.ref 0, .int (nI row), .int (nI (bI b))] S (some (.int (nI (2 * (σ.2.1.2.1.length + 1))))) (setRw σ row (2 * (σ.2.1.2.1.length + 1)) (tgtR b (ptS σ))) := by
  obtain ⟨S1, m1, s1, i1, f1⟩ := (x_drawFig (scr := scr) (l := l) h).1 G hG
  have hn60 := (live_cur h).2.1
  obtain ⟨fa, gs, ra, rf0, rf1, rr, rg, rz⟩ := id i1.2.2.2.2.2.2.2.2.2.2.2.2
  have rf : fa row = some (102 + row) := by
    rcases (show row = 0 ∨ row = 1 by omega) with rfl | rfl
    · exact rf0
    · exact rf1
  obtain ⟨hz, hz1, hz2⟩ := rr row hr
  have hx : EvX scr l 6 M_Pr_keepPoints 34 [some (.ref 0), some (.int (nI row)), some (.int (nI (bI b))), some (.ref (102 + row)), some (.int (nI 0))] (S1.put (102 + row) (aD 122 hz)) (some (.int (nI (2 * (σ.2.1.2.1.length + 1))))) (fun S3 => XInv (setRw σ row (2 * (σ.2.1.2.1.length + 1)) (tgtR b (ptS σ))) S3 ∧ Fr xK S S3) := by
    refine lp_kept (σ := σ) (b := b) s1 i1.1 hr (by omega) (fun j hj => pt_val hG hn60 hj) hz1 (fun f hf => ?_) (σ.2.1.2.1.length + 1) 0 (by omega) hz (fun j hj => by omega)
    have q0 : (S1.put (102 + row) (aD 122 f)).1[0]? = _ := put_at i1.1 (by omega)
    have r0 : (S1.put (102 + row) (aD 122 f)).1[95]? = _ := put_at s1.1 (by omega)
    have g0 : (S1.put (102 + row) (aD 122 f)).1[104]? = _ := put_at rg (by omega)
    have z0 : (S1.put (102 + row) (aD 122 f)).1[102 + row]? = _ := put_self hz1
    have q3 : ((S1.put (102 + row) (aD 122 f)).put 104 (aI 2 (upd gs row (nI (2 * (σ.2.1.2.1.length + 1)))))).1[0]? = _ := put_at q0 (by decide)
    have g3 : ((S1.put (102 + row) (aD 122 f)).put 104 (aI 2 (upd gs row (nI (2 * (σ.2.1.2.1.length + 1)))))).1[104]? = _ := put_self g0
    have F3 : Fr [102, 103, 104] S1 ((S1.put (102 + row) (aD 122 f)).put 104 (aI 2 (upd gs row (nI (2 * (σ.2.1.2.1.length + 1)))))) := (Fr.put _ _ (by rcases (show row = 0 ∨ row = 1 by omega) with rfl | rfl <;> simp)).tr (Fr.put _ _ (by simp))
    refine ⟨((S1.put (102 + row) (aD 122 f)).put 104 (aI 2 (upd gs row (nI (2 * (σ.2.1.2.1.length + 1)))))), fun d => ?_, i1.row F3 (by decide) ⟨fa, upd gs row (nI (2 * (σ.2.1.2.1.length + 1))), F3.at ra (by decide), rf0, rf1, fun j hj => ?_, g3, fun j hj => ?_⟩, f1.tr (F3.x (by decide))⟩
    · skip
      refine ev_aload_n i_Pr_keepPoints_94 rfl ?_
      refine ev_get i_Pr_keepPoints_95 q0 rfl ?_
      refine ev_iload_n i_Pr_keepPoints_98 rfl ?_
      refine ev_iconstN (v := 2) i_Pr_keepPoints_99 (by decide) ?_
      refine ev_aload_n i_Pr_keepPoints_100 rfl ?_
      refine ev_get i_Pr_keepPoints_101 q0 rfl ?_
      refine ev_get i_Pr_keepPoints_104 r0 rfl ?_
      first | refine ev_imulN i_Pr_keepPoints_107 ?_ | refine ev_imul i_Pr_keepPoints_107 ?_
      refine ev_iastN i_Pr_keepPoints_108 g0 hr (by decide) ?_
      refine ev_aload_n i_Pr_keepPoints_109 rfl ?_
      refine ev_get i_Pr_keepPoints_110 q3 rfl ?_
      refine ev_iload_n i_Pr_keepPoints_113 rfl ?_
      refine ev_ialdN i_Pr_keepPoints_114 g3 hr (by decide) ?_
      rw [updN_at]
      exact ev_iret i_Pr_keepPoints_115 rfl (by first | rfl | decide)
    · show ∃ h : Nat → UInt64, _ ∧ ∀ i, i < (if j = row then (2 * (σ.2.1.2.1.length + 1), tgtR b (ptS σ)) else σ.2.2.2.2.2 j).1 → h i = (if j = row then (2 * (σ.2.1.2.1.length + 1), tgtR b (ptS σ)) else σ.2.2.2.2.2 j).2 i
      by_cases z : j = row
      · subst z
        rw [if_pos rfl]
        exact ⟨f, put_at z0 (by omega), hf⟩
      · rw [if_neg z]
        obtain ⟨hj1, hj2, hj3⟩ := rr j hj
        exact ⟨hj1, put_at (put_at hj2 (by omega)) (by omega), hj3⟩
    · show upd gs row (nI (2 * (σ.2.1.2.1.length + 1))) j = nI (if j = row then (2 * (σ.2.1.2.1.length + 1), tgtR b (ptS σ)) else σ.2.2.2.2.2 j).1 ∧ (if j = row then (2 * (σ.2.1.2.1.length + 1), tgtR b (ptS σ)) else σ.2.2.2.2.2 j).1 ≤ 122
      by_cases z : j = row
      · subst z
        rw [if_pos rfl, updN_at]
        exact ⟨rfl, by omega⟩
      · rw [if_neg z, updN_ne z]
        exact rz j hj
  rw [put_same hz1] at hx
  obtain ⟨S4, mx, i4, f4⟩ := hx
  refine ⟨S4, fun d => ?_, i4, f4⟩
  refine MetA.of rfl (by decide +kernel) (Nat.le_of_ble_eq_true rfl) ?_
  refine ev_iload_n i_Pr_keepPoints_0 rfl ?_
  refine ev_if_lt_N i_Pr_keepPoints_1 (by omega) (fun hc_1 => ?_) (fun hc_1 => ?_)
  · skip
    exfalso; omega
  · skip
    refine ev_iload_n i_Pr_keepPoints_4 rfl ?_
    refine ev_iconstN (v := 2) i_Pr_keepPoints_5 (by decide) ?_
    refine ev_icmp_ltN i_Pr_keepPoints_6 (by omega) (by omega) (fun hc_6 => ?_) (fun hc_6 => ?_)
    · skip
      refine ev_aload_n i_Pr_keepPoints_20 rfl ?_
      refine ev_callV0 i_Pr_keepPoints_21 rfl h.1 (Nat.le_of_ble_eq_true rfl) (m1 _) ?_
      refine ev_aload_n i_Pr_keepPoints_24 rfl ?_
      refine ev_get i_Pr_keepPoints_25 i1.1 rfl ?_
      refine ev_iload_n i_Pr_keepPoints_28 rfl ?_
      refine ev_qqaldN i_Pr_keepPoints_29 ra hr (by decide) rf ?_
      refine ev_ast_n_3 i_Pr_keepPoints_30 rfl ?_
      refine ev_iconstN (v := 0) i_Pr_keepPoints_31 (by decide) ?_
      refine ev_ist_4 i_Pr_keepPoints_32 rfl ?_
      exact mx d
    · skip
      exfalso; omega
theorem x_keepPts_1 {scr : Scr} {l : Launch} {S : Sto} {σ : Sg} {q : Int32} {b : Bool} (h : XInv σ S) (hq : ¬ inR 2 q) : XThr scr l 6 M_Pr_keepPoints [.ref 0, .int q, .int (nI (bI b))] S xIob σ := by
  refine XThr.of h (fun d => ?_)
  refine MetA.of rfl (by decide +kernel) (Nat.le_of_ble_eq_true rfl) ?_
  refine ev_iload_n i_Pr_keepPoints_0 rfl ?_
  refine ev_if_lt i_Pr_keepPoints_1 (fun hc_1 => ?_) (fun hc_1 => ?_)
  · skip
    exact ev_throw i_Pr_keepPoints_9 ex_Iob rfl rfl (Nat.le_of_ble_eq_true rfl)
  · skip
    refine ev_iload_n i_Pr_keepPoints_4 rfl ?_
    refine ev_iconstN (v := 2) i_Pr_keepPoints_5 (by decide) ?_
    refine ev_icmp_lt i_Pr_keepPoints_6 (fun hc_6 => ?_) (fun hc_6 => ?_)
    · skip
      exact absurd ⟨hc_1, hc_6⟩ hq
    · skip
      exact ev_throw i_Pr_keepPoints_9 ex_Iob rfl rfl (Nat.le_of_ble_eq_true rfl)
theorem x_keepPts_2 {scr : Scr} {l : Launch} {S : Sto} {σ : Sg} {row : Nat} {b : Bool} (h : XInv σ S) (hr : row < 2) (hG : fgS σ = none) : XThr scr l 6 M_Pr_keepPoints [.ref 0, .int (nI row), .int (nI (bI b))] S xIse σ := by
  obtain ⟨S1, m1, i1, f1⟩ := (x_drawFig (scr := scr) (l := l) h).2 hG
  refine ⟨S1, fun d => ?_, i1, f1⟩
  refine MetA.of rfl (by decide +kernel) (Nat.le_of_ble_eq_true rfl) ?_
  refine ev_iload_n i_Pr_keepPoints_0 rfl ?_
  refine ev_if_lt_N i_Pr_keepPoints_1 (by omega) (fun hc_1 => ?_) (fun hc_1 => ?_)
  · skip
    exfalso; omega
  · skip
    refine ev_iload_n i_Pr_keepPoints_4 rfl ?_
    refine ev_iconstN (v := 2) i_Pr_keepPoints_5 (by decide) ?_
    refine ev_icmp_ltN i_Pr_keepPoints_6 (by omega) (by omega) (fun hc_6 => ?_) (fun hc_6 => ?_)
    · skip
      refine ev_aload_n i_Pr_keepPoints_20 rfl ?_
      exact ev_callV0x rfl i_Pr_keepPoints_21 rfl h.1 (Nat.le_of_ble_eq_true rfl) (m1 _)
    · skip
      exfalso; omega
theorem x_whole {scr : Scr} {l : Launch} {S : Sto} {d : Nat} {x : UInt64} {k : Int} (hx : DV x k) (hk : k.natAbs < 2 ^ 53) : MetA scr l d M_Pr_wholeParts [.double x] S (.inl (some (.long (Int64.ofInt k))), S) := by
  refine MetA.of rfl (by decide +kernel) (Nat.le_of_ble_eq_true rfl) ?_
  refine ev_dload_n i_Pr_wholeParts_0 rfl ?_
  refine ev_LdcD i_Pr_wholeParts_1 ?_
  refine ev_dmul i_Pr_wholeParts_4 (by obtain ⟨s, n, e, -⟩ := hx.whole hk; exact fin_n64 e) ?_
  refine ev_d2l i_Pr_wholeParts_5 ?_
  rw [d2l_val (hx.whole hk) hk]
  exact ev_lret i_Pr_wholeParts_6 rfl
theorem x_absJ {scr : Scr} {l : Launch} {S : Sto} {d : Nat} {k : Int} (hk : k.natAbs < 2 ^ 53) : MetA scr l d M_Ma_absJ [.long (Int64.ofInt k)] S (.inl (some (.long (nL k.natAbs))), S) := by
  by_cases q : k < 0
  · refine MetA.ofF rfl (by decide +kernel) (Nat.le_of_ble_eq_true rfl) ?_
    refine ev_lload_n i_Ma_absJ_0 rfl ?_
    refine ev_lconst (v := 0) i_Ma_absJ_1 (by decide) ?_
    refine ev_lif_ge i_Ma_absJ_2 i_Ma_absJ_3 (fun hc_3 => ?_) (fun hc_3 => ?_)
    · skip
      exact absurd ((ofI_lt hk).mpr q) hc_3
    · skip
      refine ev_lload_n i_Ma_absJ_6 rfl ?_
      refine ev_lneg i_Ma_absJ_7 ?_
      rw [ofI_neg hk q]
      refine ev_goto i_Ma_absJ_8 ?_
      exact ev_lret i_Ma_absJ_12 rfl
  · refine MetA.ofF rfl (by decide +kernel) (Nat.le_of_ble_eq_true rfl) ?_
    refine ev_lload_n i_Ma_absJ_0 rfl ?_
    refine ev_lconst (v := 0) i_Ma_absJ_1 (by decide) ?_
    refine ev_lif_ge i_Ma_absJ_2 i_Ma_absJ_3 (fun hc_3 => ?_) (fun hc_3 => ?_)
    · skip
      refine ev_lload_n i_Ma_absJ_11 rfl ?_
      rw [ofI_pos hk q]
      exact ev_lret i_Ma_absJ_12 rfl
    · skip
      exact absurd ((ofI_lt hk).mp hc_3) q
theorem x_rem {scr : Scr} {l : Launch} {S : Sto} {σ : Sg} {row i j : Nat} {ka kb : Int} (h : XInv σ S) (hr : row < 2) (hi : i < (σ.2.2.2.2.2 row).1) (hj : j < (σ.2.2.2.2.2 row).1) (da : DV ((σ.2.2.2.2.2 row).2 i) ka) (db : DV ((σ.2.2.2.2.2 row).2 j) kb) (ba : ka.natAbs ≤ 2 ^ 27) (bb : kb.natAbs ≤ 2 ^ 27) (hb0 : kb ≠ 0) : ∃ z, DV z (ka.tmod kb) ∧ XRun scr l 6 M_Pr_remainder [.ref 0, .int (nI row), .int (nI i), .int (nI j)] S (some (.double z)) σ := by
  obtain ⟨fa, gs, ra, rf0, rf1, rr, rg, rz⟩ := id h.2.2.2.2.2.2.2.2.2.2.2.2
  have rf : fa row = some (102 + row) := by
    rcases (show row = 0 ∨ row = 1 by omega) with rfl | rfl
    · exact rf0
    · exact rf1
  obtain ⟨hz, hz1, hz2⟩ := rr row hr
  have h122 := (rz row hr).2
  have hmod : ka.natAbs % kb.natAbs < kb.natAbs := Nat.mod_lt _ (by omega)
  have hi1 : (nL (ka.natAbs % kb.natAbs)).toInt = ((ka.natAbs % kb.natAbs : Nat) : Int) := nL_toInt (by omega)
  have hdg := l2d_val (i := nL (ka.natAbs % kb.natAbs)) (by rw [hi1, Int.natAbs_natCast]; omega)
  rw [hi1] at hdg
  have hleft : DV (FP.ddiv (FP.l2d (nL (ka.natAbs % kb.natAbs))) 4697254411347427328) ((ka.natAbs % kb.natAbs : Nat) : Int) := DV.parts hdg (by rw [Int.natAbs_natCast]; omega)
  rw [tmod_val]
  by_cases hs : ka < 0
  · rw [if_pos hs]
    refine ⟨_, hleft.neg, XRun.of h (fun d => ?_)⟩
    refine MetA.of rfl (by decide +kernel) (Nat.le_of_ble_eq_true rfl) ?_
    refine ev_iload_n i_Pr_remainder_0 rfl ?_
    refine ev_if_lt_N i_Pr_remainder_1 (by omega) (fun hc_1 => ?_) (fun hc_1 => ?_)
    · skip
      exfalso; omega
    · skip
      refine ev_iload_n i_Pr_remainder_4 rfl ?_
      refine ev_iconstN (v := 2) i_Pr_remainder_5 (by decide) ?_
      refine ev_icmp_ltN i_Pr_remainder_6 (by omega) (by omega) (fun hc_6 => ?_) (fun hc_6 => ?_)
      · skip
        refine ev_aload_n i_Pr_remainder_20 rfl ?_
        refine ev_get i_Pr_remainder_21 h.1 rfl ?_
        refine ev_iload_n i_Pr_remainder_24 rfl ?_
        refine ev_ialdN i_Pr_remainder_25 rg hr (by decide) ?_
        rw [(rz row hr).1]
        refine ev_ist_4 i_Pr_remainder_26 rfl ?_
        refine ev_iload i_Pr_remainder_28 rfl ?_
        refine ev_if_neN i_Pr_remainder_30 (by omega) (fun hc_30 => ?_) (fun hc_30 => ?_)
        · skip
          refine ev_iload_n i_Pr_remainder_44 rfl ?_
          refine ev_if_lt_N i_Pr_remainder_45 (by omega) (fun hc_45 => ?_) (fun hc_45 => ?_)
          · skip
            exfalso; omega
          · skip
            refine ev_iload_n i_Pr_remainder_48 rfl ?_
            refine ev_iload i_Pr_remainder_49 rfl ?_
            refine ev_icmp_geN i_Pr_remainder_51 (by omega) (by omega) (fun hc_51 => ?_) (fun hc_51 => ?_)
            · skip
              exfalso; omega
            · skip
              refine ev_iload_n i_Pr_remainder_54 rfl ?_
              refine ev_if_lt_N i_Pr_remainder_55 (by omega) (fun hc_55 => ?_) (fun hc_55 => ?_)
              · skip
                exfalso; omega
              · skip
                refine ev_iload_n i_Pr_remainder_58 rfl ?_
                refine ev_iload i_Pr_remainder_59 rfl ?_
                refine ev_icmp_ltN i_Pr_remainder_61 (by omega) (by omega) (fun hc_61 => ?_) (fun hc_61 => ?_)
                · skip
                  refine ev_aload_n i_Pr_remainder_75 rfl ?_
                  refine ev_get i_Pr_remainder_76 h.1 rfl ?_
                  refine ev_iload_n i_Pr_remainder_79 rfl ?_
                  refine ev_qqaldN i_Pr_remainder_80 ra hr (by decide) rf ?_
                  refine ev_iload_n i_Pr_remainder_81 rfl ?_
                  refine ev_daldN i_Pr_remainder_82 hz1 (by omega) (by decide) ?_
                  rw [hz2 i hi]
                  refine ev_callS1 i_Pr_remainder_83 rfl (Nat.le_of_ble_eq_true rfl) (x_whole da (by omega)) ?_
                  refine ev_lst_5 i_Pr_remainder_86 rfl ?_
                  refine ev_aload_n i_Pr_remainder_88 rfl ?_
                  refine ev_get i_Pr_remainder_89 h.1 rfl ?_
                  refine ev_iload_n i_Pr_remainder_92 rfl ?_
                  refine ev_qqaldN i_Pr_remainder_93 ra hr (by decide) rf ?_
                  refine ev_iload_n i_Pr_remainder_94 rfl ?_
                  refine ev_daldN i_Pr_remainder_95 hz1 (by omega) (by decide) ?_
                  rw [hz2 j hj]
                  refine ev_callS1 i_Pr_remainder_96 rfl (Nat.le_of_ble_eq_true rfl) (x_whole db (by omega)) ?_
                  refine ev_lst_7 i_Pr_remainder_99 rfl ?_
                  refine ev_lload i_Pr_remainder_101 rfl ?_
                  refine ev_lconst (v := 0) i_Pr_remainder_103 (by decide) ?_
                  refine ev_lif_ne i_Pr_remainder_104 i_Pr_remainder_105 (fun hc_105 => ?_) (fun hc_105 => ?_)
                  · skip
                    refine ev_lload i_Pr_remainder_119 rfl ?_
                    refine ev_callS1 i_Pr_remainder_121 rfl (Nat.le_of_ble_eq_true rfl) (x_absJ (by omega)) ?_
                    refine ev_lload i_Pr_remainder_124 rfl ?_
                    refine ev_callS1 i_Pr_remainder_126 rfl (Nat.le_of_ble_eq_true rfl) (x_absJ (by omega)) ?_
                    refine ev_lrem i_Pr_remainder_129 (fun q => hb0 (by have := nL_inj (b := 0) (by omega) (by decide) q; omega)) ?_
                    rw [nL_mod (by omega) (by omega)]
                    refine ev_l2d i_Pr_remainder_130 ?_
                    refine ev_LdcD i_Pr_remainder_131 ?_
                    refine ev_ddiv i_Pr_remainder_134 hleft.n64 ?_
                    refine ev_dst_9 i_Pr_remainder_135 rfl ?_
                    refine ev_lload i_Pr_remainder_137 rfl ?_
                    refine ev_lconst (v := 0) i_Pr_remainder_139 (by decide) ?_
                    refine ev_lif_ge i_Pr_remainder_140 i_Pr_remainder_141 (fun hc_141 => ?_) (fun hc_141 => ?_)
                    · skip
                      exact absurd ((ofI_lt (by omega)).mpr hs) hc_141
                    · skip
                      refine ev_dload i_Pr_remainder_144 rfl ?_
                      refine ev_dneg i_Pr_remainder_146 ?_
                      refine ev_goto i_Pr_remainder_147 ?_
                      exact ev_dret i_Pr_remainder_152 rfl
                  · skip
                    exact absurd ((ofI_z (by omega)).mp hc_105) hb0
                · skip
                  exfalso; omega
        · skip
          exfalso; omega
      · skip
        exfalso; omega
  · rw [if_neg hs]
    refine ⟨_, hleft, XRun.of h (fun d => ?_)⟩
    refine MetA.of rfl (by decide +kernel) (Nat.le_of_ble_eq_true rfl) ?_
    refine ev_iload_n i_Pr_remainder_0 rfl ?_
    refine ev_if_lt_N i_Pr_remainder_1 (by omega) (fun hc_1 => ?_) (fun hc_1 => ?_)
    · skip
      exfalso; omega
    · skip
      refine ev_iload_n i_Pr_remainder_4 rfl ?_
      refine ev_iconstN (v := 2) i_Pr_remainder_5 (by decide) ?_
      refine ev_icmp_ltN i_Pr_remainder_6 (by omega) (by omega) (fun hc_6 => ?_) (fun hc_6 => ?_)
      · skip
        refine ev_aload_n i_Pr_remainder_20 rfl ?_
        refine ev_get i_Pr_remainder_21 h.1 rfl ?_
        refine ev_iload_n i_Pr_remainder_24 rfl ?_
        refine ev_ialdN i_Pr_remainder_25 rg hr (by decide) ?_
        rw [(rz row hr).1]
        refine ev_ist_4 i_Pr_remainder_26 rfl ?_
        refine ev_iload i_Pr_remainder_28 rfl ?_
        refine ev_if_neN i_Pr_remainder_30 (by omega) (fun hc_30 => ?_) (fun hc_30 => ?_)
        · skip
          refine ev_iload_n i_Pr_remainder_44 rfl ?_
          refine ev_if_lt_N i_Pr_remainder_45 (by omega) (fun hc_45 => ?_) (fun hc_45 => ?_)
          · skip
            exfalso; omega
          · skip
            refine ev_iload_n i_Pr_remainder_48 rfl ?_
            refine ev_iload i_Pr_remainder_49 rfl ?_
            refine ev_icmp_geN i_Pr_remainder_51 (by omega) (by omega) (fun hc_51 => ?_) (fun hc_51 => ?_)
            · skip
              exfalso; omega
            · skip
              refine ev_iload_n i_Pr_remainder_54 rfl ?_
              refine ev_if_lt_N i_Pr_remainder_55 (by omega) (fun hc_55 => ?_) (fun hc_55 => ?_)
              · skip
                exfalso; omega
              · skip
                refine ev_iload_n i_Pr_remainder_58 rfl ?_
                refine ev_iload i_Pr_remainder_59 rfl ?_
                refine ev_icmp_ltN i_Pr_remainder_61 (by omega) (by omega) (fun hc_61 => ?_) (fun hc_61 => ?_)
                · skip
                  refine ev_aload_n i_Pr_remainder_75 rfl ?_
                  refine ev_get i_Pr_remainder_76 h.1 rfl ?_
                  refine ev_iload_n i_Pr_remainder_79 rfl ?_
                  refine ev_qqaldN i_Pr_remainder_80 ra hr (by decide) rf ?_
                  refine ev_iload_n i_Pr_remainder_81 rfl ?_
                  refine ev_daldN i_Pr_remainder_82 hz1 (by omega) (by decide) ?_
                  rw [hz2 i hi]
                  refine ev_callS1 i_Pr_remainder_83 rfl (Nat.le_of_ble_eq_true rfl) (x_whole da (by omega)) ?_
                  refine ev_lst_5 i_Pr_remainder_86 rfl ?_
                  refine ev_aload_n i_Pr_remainder_88 rfl ?_
                  refine ev_get i_Pr_remainder_89 h.1 rfl ?_
                  refine ev_iload_n i_Pr_remainder_92 rfl ?_
                  refine ev_qqaldN i_Pr_remainder_93 ra hr (by decide) rf ?_
                  refine ev_iload_n i_Pr_remainder_94 rfl ?_
                  refine ev_daldN i_Pr_remainder_95 hz1 (by omega) (by decide) ?_
                  rw [hz2 j hj]
                  refine ev_callS1 i_Pr_remainder_96 rfl (Nat.le_of_ble_eq_true rfl) (x_whole db (by omega)) ?_
                  refine ev_lst_7 i_Pr_remainder_99 rfl ?_
                  refine ev_lload i_Pr_remainder_101 rfl ?_
                  refine ev_lconst (v := 0) i_Pr_remainder_103 (by decide) ?_
                  refine ev_lif_ne i_Pr_remainder_104 i_Pr_remainder_105 (fun hc_105 => ?_) (fun hc_105 => ?_)
                  · skip
                    refine ev_lload i_Pr_remainder_119 rfl ?_
                    refine ev_callS1 i_Pr_remainder_121 rfl (Nat.le_of_ble_eq_true rfl) (x_absJ (by omega)) ?_
                    refine ev_lload i_Pr_remainder_124 rfl ?_
                    refine ev_callS1 i_Pr_remainder_126 rfl (Nat.le_of_ble_eq_true rfl) (x_absJ (by omega)) ?_
                    refine ev_lrem i_Pr_remainder_129 (fun q => hb0 (by have := nL_inj (b := 0) (by omega) (by decide) q; omega)) ?_
                    rw [nL_mod (by omega) (by omega)]
                    refine ev_l2d i_Pr_remainder_130 ?_
                    refine ev_LdcD i_Pr_remainder_131 ?_
                    refine ev_ddiv i_Pr_remainder_134 hleft.n64 ?_
                    refine ev_dst_9 i_Pr_remainder_135 rfl ?_
                    refine ev_lload i_Pr_remainder_137 rfl ?_
                    refine ev_lconst (v := 0) i_Pr_remainder_139 (by decide) ?_
                    refine ev_lif_ge i_Pr_remainder_140 i_Pr_remainder_141 (fun hc_141 => ?_) (fun hc_141 => ?_)
                    · skip
                      refine ev_dload i_Pr_remainder_150 rfl ?_
                      exact ev_dret i_Pr_remainder_152 rfl
                    · skip
                      exact absurd ((ofI_lt (by omega)).mp hc_141) hs
                  · skip
                    exact absurd ((ofI_z (by omega)).mp hc_105) hb0
                · skip
                  exfalso; omega
        · skip
          exfalso; omega
      · skip
        exfalso; omega
theorem x_rem_4 {scr : Scr} {l : Launch} {S : Sto} {σ : Sg} {row i j : Nat} {ka kb : Int} (h : XInv σ S) (hr : row < 2) (hi : i < (σ.2.2.2.2.2 row).1) (hj : j < (σ.2.2.2.2.2 row).1) (da : DV ((σ.2.2.2.2.2 row).2 i) ka) (db : DV ((σ.2.2.2.2.2 row).2 j) kb) (ba : ka.natAbs ≤ 2 ^ 27) (bb : kb.natAbs ≤ 2 ^ 27) (hb0 : kb = 0) : XThr scr l 6 M_Pr_remainder [.ref 0, .int (nI row), .int (nI i), .int (nI j)] S xAri σ := by
  obtain ⟨fa, gs, ra, rf0, rf1, rr, rg, rz⟩ := id h.2.2.2.2.2.2.2.2.2.2.2.2
  have rf : fa row = some (102 + row) := by
    rcases (show row = 0 ∨ row = 1 by omega) with rfl | rfl
    · exact rf0
    · exact rf1
  obtain ⟨hz, hz1, hz2⟩ := rr row hr
  have h122 := (rz row hr).2
  refine XThr.of h (fun d => ?_)
  refine MetA.of rfl (by decide +kernel) (Nat.le_of_ble_eq_true rfl) ?_
  refine ev_iload_n i_Pr_remainder_0 rfl ?_
  refine ev_if_lt_N i_Pr_remainder_1 (by omega) (fun hc_1 => ?_) (fun hc_1 => ?_)
  · skip
    exfalso; omega
  · skip
    refine ev_iload_n i_Pr_remainder_4 rfl ?_
    refine ev_iconstN (v := 2) i_Pr_remainder_5 (by decide) ?_
    refine ev_icmp_ltN i_Pr_remainder_6 (by omega) (by omega) (fun hc_6 => ?_) (fun hc_6 => ?_)
    · skip
      refine ev_aload_n i_Pr_remainder_20 rfl ?_
      refine ev_get i_Pr_remainder_21 h.1 rfl ?_
      refine ev_iload_n i_Pr_remainder_24 rfl ?_
      refine ev_ialdN i_Pr_remainder_25 rg hr (by decide) ?_
      rw [(rz row hr).1]
      refine ev_ist_4 i_Pr_remainder_26 rfl ?_
      refine ev_iload i_Pr_remainder_28 rfl ?_
      refine ev_if_neN i_Pr_remainder_30 (by omega) (fun hc_30 => ?_) (fun hc_30 => ?_)
      · skip
        refine ev_iload_n i_Pr_remainder_44 rfl ?_
        refine ev_if_lt_N i_Pr_remainder_45 (by omega) (fun hc_45 => ?_) (fun hc_45 => ?_)
        · skip
          exfalso; omega
        · skip
          refine ev_iload_n i_Pr_remainder_48 rfl ?_
          refine ev_iload i_Pr_remainder_49 rfl ?_
          refine ev_icmp_geN i_Pr_remainder_51 (by omega) (by omega) (fun hc_51 => ?_) (fun hc_51 => ?_)
          · skip
            exfalso; omega
          · skip
            refine ev_iload_n i_Pr_remainder_54 rfl ?_
            refine ev_if_lt_N i_Pr_remainder_55 (by omega) (fun hc_55 => ?_) (fun hc_55 => ?_)
            · skip
              exfalso; omega
            · skip
              refine ev_iload_n i_Pr_remainder_58 rfl ?_
              refine ev_iload i_Pr_remainder_59 rfl ?_
              refine ev_icmp_ltN i_Pr_remainder_61 (by omega) (by omega) (fun hc_61 => ?_) (fun hc_61 => ?_)
              · skip
                refine ev_aload_n i_Pr_remainder_75 rfl ?_
                refine ev_get i_Pr_remainder_76 h.1 rfl ?_
                refine ev_iload_n i_Pr_remainder_79 rfl ?_
                refine ev_qqaldN i_Pr_remainder_80 ra hr (by decide) rf ?_
                refine ev_iload_n i_Pr_remainder_81 rfl ?_
                refine ev_daldN i_Pr_remainder_82 hz1 (by omega) (by decide) ?_
                rw [hz2 i hi]
                refine ev_callS1 i_Pr_remainder_83 rfl (Nat.le_of_ble_eq_true rfl) (x_whole da (by omega)) ?_
                refine ev_lst_5 i_Pr_remainder_86 rfl ?_
                refine ev_aload_n i_Pr_remainder_88 rfl ?_
                refine ev_get i_Pr_remainder_89 h.1 rfl ?_
                refine ev_iload_n i_Pr_remainder_92 rfl ?_
                refine ev_qqaldN i_Pr_remainder_93 ra hr (by decide) rf ?_
                refine ev_iload_n i_Pr_remainder_94 rfl ?_
                refine ev_daldN i_Pr_remainder_95 hz1 (by omega) (by decide) ?_
                rw [hz2 j hj]
                refine ev_callS1 i_Pr_remainder_96 rfl (Nat.le_of_ble_eq_true rfl) (x_whole db (by omega)) ?_
                refine ev_lst_7 i_Pr_remainder_99 rfl ?_
                refine ev_lload i_Pr_remainder_101 rfl ?_
                refine ev_lconst (v := 0) i_Pr_remainder_103 (by decide) ?_
                refine ev_lif_ne i_Pr_remainder_104 i_Pr_remainder_105 (fun hc_105 => ?_) (fun hc_105 => ?_)
                · skip
                  exact absurd ((ofI_z (by omega)).mpr hb0) hc_105
                · skip
                  exact ev_throw i_Pr_remainder_108 ex_Ari rfl rfl (Nat.le_of_ble_eq_true rfl)
              · skip
                exfalso; omega
      · skip
        exfalso; omega
    · skip
      exfalso; omega
theorem x_rem_1 {scr : Scr} {l : Launch} {S : Sto} {σ : Sg} {q y z : Int32} (h : XInv σ S) (hq : ¬ inR 2 q) : XThr scr l 6 M_Pr_remainder [.ref 0, .int q, .int y, .int z] S xIae σ := by
  refine XThr.of h (fun d => ?_)
  refine MetA.of rfl (by decide +kernel) (Nat.le_of_ble_eq_true rfl) ?_
  refine ev_iload_n i_Pr_remainder_0 rfl ?_
  refine ev_if_lt i_Pr_remainder_1 (fun hc_1 => ?_) (fun hc_1 => ?_)
  · skip
    exact ev_throw i_Pr_remainder_9 ex_Iae rfl rfl (Nat.le_of_ble_eq_true rfl)
  · skip
    refine ev_iload_n i_Pr_remainder_4 rfl ?_
    refine ev_iconstN (v := 2) i_Pr_remainder_5 (by decide) ?_
    refine ev_icmp_lt i_Pr_remainder_6 (fun hc_6 => ?_) (fun hc_6 => ?_)
    · skip
      exact absurd ⟨hc_1, hc_6⟩ hq
    · skip
      exact ev_throw i_Pr_remainder_9 ex_Iae rfl rfl (Nat.le_of_ble_eq_true rfl)
theorem x_rem_2 {scr : Scr} {l : Launch} {S : Sto} {σ : Sg} {row : Nat} {y z : Int32} (h : XInv σ S) (hr : row < 2) (h0 : (σ.2.2.2.2.2 row).1 = 0) : XThr scr l 6 M_Pr_remainder [.ref 0, .int (nI row), .int y, .int z] S xIse σ := by
  obtain ⟨fa, gs, ra, rf0, rf1, rr, rg, rz⟩ := id h.2.2.2.2.2.2.2.2.2.2.2.2
  have rf : fa row = some (102 + row) := by
    rcases (show row = 0 ∨ row = 1 by omega) with rfl | rfl
    · exact rf0
    · exact rf1
  obtain ⟨hz, hz1, hz2⟩ := rr row hr
  have h122 := (rz row hr).2
  refine XThr.of h (fun d => ?_)
  refine MetA.of rfl (by decide +kernel) (Nat.le_of_ble_eq_true rfl) ?_
  refine ev_iload_n i_Pr_remainder_0 rfl ?_
  refine ev_if_lt_N i_Pr_remainder_1 (by omega) (fun hc_1 => ?_) (fun hc_1 => ?_)
  · skip
    exfalso; omega
  · skip
    refine ev_iload_n i_Pr_remainder_4 rfl ?_
    refine ev_iconstN (v := 2) i_Pr_remainder_5 (by decide) ?_
    refine ev_icmp_ltN i_Pr_remainder_6 (by omega) (by omega) (fun hc_6 => ?_) (fun hc_6 => ?_)
    · skip
      refine ev_aload_n i_Pr_remainder_20 rfl ?_
      refine ev_get i_Pr_remainder_21 h.1 rfl ?_
      refine ev_iload_n i_Pr_remainder_24 rfl ?_
      refine ev_ialdN i_Pr_remainder_25 rg hr (by decide) ?_
      rw [(rz row hr).1]
      refine ev_ist_4 i_Pr_remainder_26 rfl ?_
      refine ev_iload i_Pr_remainder_28 rfl ?_
      refine ev_if_neN i_Pr_remainder_30 (by omega) (fun hc_30 => ?_) (fun hc_30 => ?_)
      · skip
        exfalso; omega
      · skip
        exact ev_throw i_Pr_remainder_33 ex_Ise rfl rfl (Nat.le_of_ble_eq_true rfl)
    · skip
      exfalso; omega
theorem x_rem_3 {scr : Scr} {l : Launch} {S : Sto} {σ : Sg} {row : Nat} {y z : Int32} (h : XInv σ S) (hr : row < 2) (h0 : (σ.2.2.2.2.2 row).1 ≠ 0) (hq : ¬ (inR (σ.2.2.2.2.2 row).1 y ∧ inR (σ.2.2.2.2.2 row).1 z)) : XThr scr l 6 M_Pr_remainder [.ref 0, .int (nI row), .int y, .int z] S xIob σ := by
  obtain ⟨fa, gs, ra, rf0, rf1, rr, rg, rz⟩ := id h.2.2.2.2.2.2.2.2.2.2.2.2
  have rf : fa row = some (102 + row) := by
    rcases (show row = 0 ∨ row = 1 by omega) with rfl | rfl
    · exact rf0
    · exact rf1
  obtain ⟨hz, hz1, hz2⟩ := rr row hr
  have h122 := (rz row hr).2
  refine XThr.of h (fun d => ?_)
  refine MetA.of rfl (by decide +kernel) (Nat.le_of_ble_eq_true rfl) ?_
  refine ev_iload_n i_Pr_remainder_0 rfl ?_
  refine ev_if_lt_N i_Pr_remainder_1 (by omega) (fun hc_1 => ?_) (fun hc_1 => ?_)
  · skip
    exfalso; omega
  · skip
    refine ev_iload_n i_Pr_remainder_4 rfl ?_
    refine ev_iconstN (v := 2) i_Pr_remainder_5 (by decide) ?_
    refine ev_icmp_ltN i_Pr_remainder_6 (by omega) (by omega) (fun hc_6 => ?_) (fun hc_6 => ?_)
    · skip
      refine ev_aload_n i_Pr_remainder_20 rfl ?_
      refine ev_get i_Pr_remainder_21 h.1 rfl ?_
      refine ev_iload_n i_Pr_remainder_24 rfl ?_
      refine ev_ialdN i_Pr_remainder_25 rg hr (by decide) ?_
      rw [(rz row hr).1]
      refine ev_ist_4 i_Pr_remainder_26 rfl ?_
      refine ev_iload i_Pr_remainder_28 rfl ?_
      refine ev_if_neN i_Pr_remainder_30 (by omega) (fun hc_30 => ?_) (fun hc_30 => ?_)
      · skip
        refine ev_iload_n i_Pr_remainder_44 rfl ?_
        refine ev_if_lt i_Pr_remainder_45 (fun hc_45 => ?_) (fun hc_45 => ?_)
        · skip
          exact ev_throw i_Pr_remainder_64 ex_Iob rfl rfl (Nat.le_of_ble_eq_true rfl)
        · skip
          refine ev_iload_n i_Pr_remainder_48 rfl ?_
          refine ev_iload i_Pr_remainder_49 rfl ?_
          refine ev_icmp_ge i_Pr_remainder_51 (fun hc_51 => ?_) (fun hc_51 => ?_)
          · skip
            exact ev_throw i_Pr_remainder_64 ex_Iob rfl rfl (Nat.le_of_ble_eq_true rfl)
          · skip
            refine ev_iload_n i_Pr_remainder_54 rfl ?_
            refine ev_if_lt i_Pr_remainder_55 (fun hc_55 => ?_) (fun hc_55 => ?_)
            · skip
              exact ev_throw i_Pr_remainder_64 ex_Iob rfl rfl (Nat.le_of_ble_eq_true rfl)
            · skip
              refine ev_iload_n i_Pr_remainder_58 rfl ?_
              refine ev_iload i_Pr_remainder_59 rfl ?_
              refine ev_icmp_lt i_Pr_remainder_61 (fun hc_61 => ?_) (fun hc_61 => ?_)
              · skip
                exact absurd ⟨⟨hc_45, Int32.not_le.mp hc_51⟩, hc_55, hc_61⟩ hq
              · skip
                exact ev_throw i_Pr_remainder_64 ex_Iob rfl rfl (Nat.le_of_ble_eq_true rfl)
      · skip
        exfalso; omega
    · skip
      exfalso; omega

/-! the joint state; the wrappers -/
def Jn (σ : Sg) (S : Sto) : Prop := XInv σ S ∧ (∃ th, MInv th σ S) ∧ RowM σ.2.2.2.2.2 S ∧ (∃ g, S.1[134]? = some (aJ 1 g)) ∧ ∃ g, S.1[135]? = some (aD 1 g)
def Cost (S S2 : Sto) : Prop := S2.1.length = S.1.length ∧ S2.2.1 ≤ S.2.1 + 1 ∧ S2.2.2 ≤ S.2.2 + 6
abbrev bL (b : Bool) : Int64 := if b = true then 1 else 0
def PI (k : Nat) (v : Option Value) (S : Sto) : Prop := ∃ x, v = some (.int x) ∧ (k = 0 → ∃ g, S.1[134]? = some (aJ 1 g) ∧ g 0 = x.toInt64)
def PZ (k : Nat) (v : Option Value) (S : Sto) : Prop := ∃ b, v = some (.int (nI (bI b))) ∧ (k = 0 → ∃ g, S.1[134]? = some (aJ 1 g) ∧ g 0 = bL b)
def PJ (k : Nat) (v : Option Value) (S : Sto) : Prop := ∃ x, v = some (.long x) ∧ (k = 0 → ∃ g, S.1[134]? = some (aJ 1 g) ∧ g 0 = x)
def PD (k : Nat) (v : Option Value) (S : Sto) : Prop := ∃ x, v = some (.double x) ∧ ∃ g, S.1[135]? = some (aD 1 g) ∧ (k = 0 → ∃ n, DV (g 0) n ∧ DV x n)
def PV (k : Nat) (v : Option Value) (S : Sto) : Prop := v = none
def StepR (scr : Scr) (l : Launch) (Mw Mm : Mth) (as aw : List Value) (S : Sto) (P : Nat → Option Value → Sto → Prop) : Prop := ∃ (k : Nat) (v : Option Value) (S1 S2 : Sto) (σ' : Sg), k < 5 ∧ (∀ d, MetA scr l (d + 12) Mw aw S (.inl (some (.int (nI k))), S1)) ∧ (∃ fs, S1.1[105]? = some (oB 14 fs)) ∧ (∀ d, MetA scr l (d + 12) Mm (.ref 105 :: as) S1 (.inl v, S2)) ∧ Jn σ' S2 ∧ MInv k σ' S2 ∧ Cost S S2 ∧ P k v S2
def MR2 (scr : Scr) (l : Launch) (K : Nat) (M : Mth) (as : List Value) (S : Sto) (v : Option Value) (k : Nat) (σ' : Sg) : Prop := ∃ S2, (∀ d, MetA scr l (d + K) M as S (.inl v, S2)) ∧ MInv k σ' S2 ∧ RowM σ'.2.2.2.2.2 S2 ∧ Fr mK2 S S2
theorem MRun.up {scr : Scr} {l : Launch} {K : Nat} {M : Mth} {as : List Value} {S : Sto} {v : Option Value} {k : Nat} {σ σ' : Sg} (h : MRun scr l K M as S v k σ') (hr : RowM σ.2.2.2.2.2 S) (e : σ'.2.2.2.2.2 = σ.2.2.2.2.2) : MR2 scr l K M as S v k σ' := by
  obtain ⟨S2, m2, i2, f2⟩ := h
  refine ⟨S2, m2, i2, ?_, f2.mono (fun k q => by rw [List.mem_range'_1] at q ⊢; omega)⟩
  rw [e]
  exact hr.fr f2 (fun k q => by rw [List.mem_range'_1] at q; omega)
theorem MetA.up {scr : Scr} {l : Launch} {K : Nat} {M : Mth} {as : List Value} {S : Sto} {r : Res} (h : ∀ d, MetA scr l (d + K) M as S r) (K2 : Nat) (hK : K ≤ K2) : ∀ d, MetA scr l (d + K2) M as S r := fun d => by
  have := h (d + (K2 - K))
  rw [show d + (K2 - K) + K = d + K2 by omega] at this
  exact this
theorem MInv.obj14 {th : Nat} {σ : Sg} {S : Sto} (h : MInv th σ S) : ∃ fs, S.1[105]? = some (oB 14 fs) := by
  obtain ⟨dr, mo, sc, h0⟩ := h.get
  exact ⟨_, h0⟩
theorem x_not_m {k : Nat} (h : k ∈ mK2) : 105 ≤ k ∧ k < 134 := by rw [List.mem_range'_1] at h; omega
theorem x_lt {k : Nat} (h : k ∈ xK) : k < 105 := by rw [List.mem_range'_1] at h; omega
theorem MInv.fr2 {th : Nat} {σ : Sg} {S S1 : Sto} (h : MInv th σ S) (hn : ∀ j, 105 ≤ j → j < 134 → S1.1[j]? = S.1[j]?) (hl : S1.1.length = S.1.length) : MInv th σ S1 := by
  have hF : Fr ((List.range' 0 105) ++ List.range' 134 S.1.length) (S.1, (0, 0)) (S1.1, (0, 0)) := ⟨hl, rfl, fun j hj => by
    by_cases q : 105 ≤ j ∧ j < 134
    · exact hn j q.1 q.2
    · have q1 : S.1.length ≤ j := by
        rw [List.mem_append, List.mem_range'_1, List.mem_range'_1] at hj
        omega
      show S1.1[j]? = S.1[j]?
      rw [List.getElem?_eq_none q1, List.getElem?_eq_none (by omega)]⟩
  have hk : ∀ k, 105 ≤ k → k < 134 → k ∉ ((List.range' 0 105) ++ List.range' 134 S.1.length) := fun k q1 q2 z => by
    rw [List.mem_append, List.mem_range'_1, List.mem_range'_1] at z
    omega
  have h : MInv th σ (S.1, (0, 0)) := h
  obtain ⟨⟨dr, mo, sc, h0⟩, h1, h2, h3, h4, h5⟩ := h
  show MInv th σ (S1.1, (0, 0))
  exact ⟨⟨dr, mo, sc, hF.at h0 (hk _ (by omega) (by omega))⟩, h1.fr hF (hk _ (by omega) (by omega)), h2.fr hF ⟨hk _ (by omega) (by omega), hk _ (by omega) (by omega), hk _ (by omega) (by omega), hk _ (by omega) (by omega)⟩, h3.fr hF ⟨hk _ (by omega) (by omega), hk _ (by omega) (by omega), hk _ (by omega) (by omega), hk _ (by omega) (by omega)⟩, h4.fr hF (hk _ (by omega) (by omega)), h5.fr hF (fun k a b => hk k (by omega) (by omega))⟩
theorem RowM.fr2 {R : Rows} {S S1 : Sto} (h : RowM R S) (hn : ∀ j, 105 ≤ j → j < 134 → S1.1[j]? = S.1[j]?) : RowM R S1 := by
  obtain ⟨⟨gz, z1, z2⟩, ⟨fl, gb, b1, b2⟩, fe, e1, e2⟩ := h
  exact ⟨⟨gz, (hn _ (by omega) (by omega)).trans z1, z2⟩, ⟨fl, gb, (hn _ (by omega) (by omega)).trans b1, b2⟩, fe, (hn _ (by omega) (by omega)).trans e1, e2⟩
/-- behind x's call (its store T, no cell of m's touched), then m's -/
theorem StepR.fin {scr : Scr} {l : Launch} {Mw Mm : Mth} {as aw : List Value} {S T : Sto} {P : Nat → Option Value → Sto → Prop} {σ σ' : Sg} {k K2 : Nat} {v2 : Option Value} (h : Jn σ S) (hk : k < 5) (hw : ∀ d, MetA scr l (d + 12) Mw aw S (.inl (some (.int (nI k))), T)) (hX : XInv σ' T) (hF : ∀ j, 105 ≤ j → j < 134 → T.1[j]? = S.1[j]?) (hl : T.1.length = S.1.length) (hc : T.2.1 ≤ S.2.1 + 1 ∧ T.2.2 ≤ S.2.2 + 6) (h134 : ∃ g, T.1[134]? = some (aJ 1 g)) (h135 : ∃ g, T.1[135]? = some (aD 1 g)) (hK : K2 ≤ 12)
    (hm : ∀ S th, MInv th σ S → RowM σ.2.2.2.2.2 S → MR2 scr l K2 Mm (.ref 105 :: as) S v2 k σ') (hP : ∀ S2 : Sto, S2.1[134]? = T.1[134]? → S2.1[135]? = T.1[135]? → P k v2 S2) : StepR scr l Mw Mm as aw S P := by
  obtain ⟨hx, ⟨th, hmi⟩, hr, -, -⟩ := h
  have mT := hmi.fr2 hF hl
  obtain ⟨S2, m2, i2, r2, f2⟩ := hm T th mT (hr.fr2 hF)
  have e4 : S2.1[134]? = T.1[134]? := f2.2.2 _ (fun q => by have := x_not_m q; omega)
  have e5 : S2.1[135]? = T.1[135]? := f2.2.2 _ (fun q => by have := x_not_m q; omega)
  refine ⟨k, v2, T, S2, σ', hk, hw, mT.obj14, MetA.up m2 12 hK, ⟨hX.fr f2 (fun k q => (x_not_m q).1), ⟨k, i2⟩, r2, ?_, ?_⟩, i2, ⟨f2.1.trans hl, ?_, ?_⟩, hP S2 e4 e5⟩
  · rw [e4]; exact h134
  · rw [e5]; exact h135
  · rw [f2.2.1]; exact hc.1
  · rw [f2.2.1]; exact hc.2
abbrev XR (scr : Scr) (l : Launch) (K : Nat) (M : Mth) (as : List Value) (S : Sto) (v : Option Value) (σ' : Sg) : Prop := ∃ S1, (∀ d, MetA scr l (d + K) M as S (.inl v, S1)) ∧ XInv σ' S1 ∧ Fr xK S S1
theorem StepR.okL {scr : Scr} {l : Launch} {Mx Mw Mm : Mth} {as aw : List Value} {S : Sto} {P : Nat → Option Value → Sto → Prop} {σ σ' : Sg} {K1 K2 : Nat} {v v2 : Option Value} {y : Int64} (h : Jn σ S) (hx : XR scr l K1 Mx (.ref 0 :: as) S v σ') (hw : ∀ (d : Nat) (S1 : Sto) (g : Nat → Int64) (b : Bool), S.1[0]? = some (xObj b) → S1.1[134]? = some (aJ 1 g) → MetA scr l d Mx (.ref 0 :: as) S (.inl v, S1) → MetA scr l (d + 1) Mw aw S (.inl (some (.int (nI 0))), S1.put 134 (aJ 1 (vp_updL g 0 y)))) (hK1 : K1 ≤ 11) (hK : K2 ≤ 12)
    (hm : ∀ S th, MInv th σ S → RowM σ.2.2.2.2.2 S → MR2 scr l K2 Mm (.ref 105 :: as) S v2 0 σ') (hP : ∀ (S2 : Sto) (g : Nat → Int64), S2.1[134]? = some (aJ 1 g) → g 0 = y → P 0 v2 S2) : StepR scr l Mw Mm as aw S P := by
  obtain ⟨S1, m1, x1, f1⟩ := hx
  obtain ⟨g, hg⟩ := h.2.2.2.1
  obtain ⟨g2, hg2⟩ := h.2.2.2.2
  have hg1 : S1.1[134]? = some (aJ 1 g) := f1.at hg (fun q => by have := x_lt q; omega)
  have hg3 : S1.1[135]? = some (aD 1 g2) := f1.at hg2 (fun q => by have := x_lt q; omega)
  have e4 : (S1.put 134 (aJ 1 (vp_updL g 0 y))).1[134]? = some (aJ 1 (vp_updL g 0 y)) := put_self hg1
  refine StepR.fin h (by omega) (fun d => hw _ S1 g _ h.1.1 hg1 (MetA.up m1 11 hK1 d)) (x1.fr (Fr.put (K := [134]) S1 _ (by simp)) (by simp)) (fun j q1 q2 => ?_) (List.length_set.trans f1.1) ?_ ⟨_, e4⟩ ⟨g2, put_at hg3 (by decide)⟩ hK hm (fun S2 q4 q5 => hP S2 _ (q4.trans e4) (by unfold vp_updL; simp))
  · exact (put_ne (by omega)).trans (f1.2.2 j (fun q => by have := x_lt q; omega))
  · show S1.2.1 ≤ _ ∧ S1.2.2 ≤ _
    rw [f1.2.1]
    omega
theorem StepR.okD {scr : Scr} {l : Launch} {Mx Mw Mm : Mth} {as aw : List Value} {S : Sto} {P : Nat → Option Value → Sto → Prop} {σ σ' : Sg} {K1 K2 : Nat} {v v2 : Option Value} {y : UInt64} (h : Jn σ S) (hx : XR scr l K1 Mx (.ref 0 :: as) S v σ') (hw : ∀ (d : Nat) (S1 : Sto) (g : Nat → UInt64) (b : Bool), S.1[0]? = some (xObj b) → S1.1[135]? = some (aD 1 g) → MetA scr l d Mx (.ref 0 :: as) S (.inl v, S1) → MetA scr l (d + 1) Mw aw S (.inl (some (.int (nI 0))), S1.put 135 (aD 1 (vf_upd g 0 y)))) (hK1 : K1 ≤ 11) (hK : K2 ≤ 12)
    (hm : ∀ S th, MInv th σ S → RowM σ.2.2.2.2.2 S → MR2 scr l K2 Mm (.ref 105 :: as) S v2 0 σ') (hP : ∀ (S2 : Sto) (g : Nat → UInt64), S2.1[135]? = some (aD 1 g) → g 0 = y → P 0 v2 S2) : StepR scr l Mw Mm as aw S P := by
  obtain ⟨S1, m1, x1, f1⟩ := hx
  obtain ⟨g, hg⟩ := h.2.2.2.2
  obtain ⟨g2, hg2⟩ := h.2.2.2.1
  have hg1 : S1.1[135]? = some (aD 1 g) := f1.at hg (fun q => by have := x_lt q; omega)
  have hg3 : S1.1[134]? = some (aJ 1 g2) := f1.at hg2 (fun q => by have := x_lt q; omega)
  have e4 : (S1.put 135 (aD 1 (vf_upd g 0 y))).1[135]? = some (aD 1 (vf_upd g 0 y)) := put_self hg1
  refine StepR.fin h (by omega) (fun d => hw _ S1 g _ h.1.1 hg1 (MetA.up m1 11 hK1 d)) (x1.fr (Fr.put (K := [135]) S1 _ (by simp)) (by simp)) (fun j q1 q2 => ?_) (List.length_set.trans f1.1) ?_ ⟨g2, put_at hg3 (by decide)⟩ ⟨_, e4⟩ hK hm (fun S2 q4 q5 => hP S2 _ (q5.trans e4) (updD_at _ _ _))
  · exact (put_ne (by omega)).trans (f1.2.2 j (fun q => by have := x_lt q; omega))
  · show S1.2.1 ≤ _ ∧ S1.2.2 ≤ _
    rw [f1.2.1]
    omega
theorem StepR.okV {scr : Scr} {l : Launch} {Mx Mw Mm : Mth} {as aw : List Value} {S : Sto} {P : Nat → Option Value → Sto → Prop} {σ σ' : Sg} {K1 K2 : Nat} {v v2 : Option Value} (h : Jn σ S) (hx : XR scr l K1 Mx (.ref 0 :: as) S v σ') (hw : ∀ (d : Nat) (S1 : Sto) (b : Bool), S.1[0]? = some (xObj b) → MetA scr l d Mx (.ref 0 :: as) S (.inl v, S1) → MetA scr l (d + 1) Mw aw S (.inl (some (.int (nI 0))), S1)) (hK1 : K1 ≤ 11) (hK : K2 ≤ 12)
    (hm : ∀ S th, MInv th σ S → RowM σ.2.2.2.2.2 S → MR2 scr l K2 Mm (.ref 105 :: as) S v2 0 σ') (hP : ∀ S2 : Sto, P 0 v2 S2) : StepR scr l Mw Mm as aw S P := by
  obtain ⟨S1, m1, x1, f1⟩ := hx
  obtain ⟨g, hg⟩ := h.2.2.2.2
  obtain ⟨g2, hg2⟩ := h.2.2.2.1
  have hg1 : S1.1[135]? = some (aD 1 g) := f1.at hg (fun q => by have := x_lt q; omega)
  have hg3 : S1.1[134]? = some (aJ 1 g2) := f1.at hg2 (fun q => by have := x_lt q; omega)
  refine StepR.fin h (by omega) (fun d => hw _ S1 _ h.1.1 (MetA.up m1 11 hK1 d)) x1 (fun j q1 q2 => f1.2.2 j (fun q => by have := x_lt q; omega)) f1.1 ?_ ⟨g2, hg3⟩ ⟨g, hg1⟩ hK hm (fun S2 _ _ => hP S2)
  rw [f1.2.1]
  omega
theorem StepR.thr {scr : Scr} {l : Launch} {Mx Mw Mm : Mth} {as aw : List Value} {S : Sto} {P : Nat → Option Value → Sto → Prop} {σ : Sg} {E : String} {k K1 K2 : Nat} {v2 : Option Value} (h : Jn σ S) (hx : XThr scr l K1 Mx (.ref 0 :: as) S E σ) (hk : k < 5) (hw : ∀ (d : Nat) (S1 : Sto) (b : Bool), S.1[0]? = some (xObj b) → MetA scr l d Mx (.ref 0 :: as) S (.inr E, S1) → MetA scr l (d + 1) Mw aw S (.inl (some (.int (nI k))), S1)) (hK1 : K1 ≤ 11) (hK : K2 ≤ 12)
    (hm : ∀ S th, MInv th σ S → RowM σ.2.2.2.2.2 S → MRun scr l K2 Mm (.ref 105 :: as) S v2 k σ) (hP : ∀ S2 : Sto, (∃ g, S2.1[135]? = some (aD 1 g)) → P k v2 S2) : StepR scr l Mw Mm as aw S P := by
  obtain ⟨S1, m1, x1, f1⟩ := hx
  obtain ⟨g, hg⟩ := h.2.2.2.2
  obtain ⟨g2, hg2⟩ := h.2.2.2.1
  have hg1 : S1.1[135]? = some (aD 1 g) := f1.at hg (fun q => by have := x_lt q; omega)
  have hg3 : S1.1[134]? = some (aJ 1 g2) := f1.at hg2 (fun q => by have := x_lt q; omega)
  refine StepR.fin (T := S1.thrown) h hk (fun d => hw _ _ _ h.1.1 (MetA.up m1 11 hK1 d)) x1 (fun j q1 q2 => f1.2.2 j (fun q => by have := x_lt q; omega)) f1.1 ?_ ⟨g2, hg3⟩ ⟨g, hg1⟩ hK (fun S th q1 q2 => (hm S th q1 q2).up q2 rfl) (fun S2 _ q5 => hP S2 ⟨g, q5.trans hg1⟩)
  show S1.2.1 + 1 ≤ _ ∧ S1.2.2 + 6 ≤ _
  rw [f1.2.1]
  omega
theorem ev_callVc0 {scr : Scr} {l : Launch} {d : Nat} {M M' : Mth} {pc hpc ci : Nat} {L : List (Option Value)} {st : List Value} {S S1 : Sto} {r : Res} {E0 : String} {b : Nat} {fs : List Value} (h : iCallV M pc M' 0 ci) (hlen : L.length = M.2.2.1) (hb : S.1[b]? = some (oB ci fs)) (hcat : (st.map fun v => v.category).sum ≤ 8) (hM : MetA scr l d M' (.ref b :: []) S (.inr E0, S1)) (hk : iCatch M pc hpc E0) (k : Ev scr l (d + 1) M hpc L [.retAddr 0] S1 r) : Ev scr l (d + 1) M pc L (.ref b :: st) S r := ev_callVc (as := []) h hlen hb rfl hcat hM hk k
theorem ev_callVc1 {scr : Scr} {l : Launch} {d : Nat} {M M' : Mth} {pc hpc ci : Nat} {L : List (Option Value)} {st : List Value} {S S1 : Sto} {r : Res} {E0 : String} {b : Nat} {fs : List Value} {x1 : Value} (h : iCallV M pc M' 1 ci) (hlen : L.length = M.2.2.1) (hb : S.1[b]? = some (oB ci fs)) (hcat : (st.map fun v => v.category).sum ≤ 8) (hM : MetA scr l d M' (.ref b :: [x1]) S (.inr E0, S1)) (hk : iCatch M pc hpc E0) (k : Ev scr l (d + 1) M hpc L [.retAddr 0] S1 r) : Ev scr l (d + 1) M pc L (x1 :: .ref b :: st) S r := ev_callVc (as := [x1]) h hlen hb rfl hcat hM hk k
theorem ev_callVc2 {scr : Scr} {l : Launch} {d : Nat} {M M' : Mth} {pc hpc ci : Nat} {L : List (Option Value)} {st : List Value} {S S1 : Sto} {r : Res} {E0 : String} {b : Nat} {fs : List Value} {x1 x2 : Value} (h : iCallV M pc M' 2 ci) (hlen : L.length = M.2.2.1) (hb : S.1[b]? = some (oB ci fs)) (hcat : (st.map fun v => v.category).sum ≤ 8) (hM : MetA scr l d M' (.ref b :: [x1, x2]) S (.inr E0, S1)) (hk : iCatch M pc hpc E0) (k : Ev scr l (d + 1) M hpc L [.retAddr 0] S1 r) : Ev scr l (d + 1) M pc L (x2 :: x1 :: .ref b :: st) S r := ev_callVc (as := [x1, x2]) h hlen hb rfl hcat hM hk k
theorem ev_callVc3 {scr : Scr} {l : Launch} {d : Nat} {M M' : Mth} {pc hpc ci : Nat} {L : List (Option Value)} {st : List Value} {S S1 : Sto} {r : Res} {E0 : String} {b : Nat} {fs : List Value} {x1 x2 x3 : Value} (h : iCallV M pc M' 3 ci) (hlen : L.length = M.2.2.1) (hb : S.1[b]? = some (oB ci fs)) (hcat : (st.map fun v => v.category).sum ≤ 8) (hM : MetA scr l d M' (.ref b :: [x1, x2, x3]) S (.inr E0, S1)) (hk : iCatch M pc hpc E0) (k : Ev scr l (d + 1) M hpc L [.retAddr 0] S1 r) : Ev scr l (d + 1) M pc L (x3 :: x2 :: x1 :: .ref b :: st) S r := ev_callVc (as := [x1, x2, x3]) h hlen hb rfl hcat hM hk k
theorem lw_appendCharacter {scr : Scr} {l : Launch} {S S1 : Sto} {d : Nat} {b : Bool} {x0 : Int32} {v : Int32} (h0 : S.1[0]? = some (xObj b)) {g : Nat → Int64} (ho : S1.1[134]? = some (aJ 1 g)) (hm : MetA scr l d M_Pr_appendCharacter [.ref 0, .int x0] S (.inl (some (.int v)), S1)) : MetA scr l (d + 1) M_Lw_appendCharacter [.ref 0, .int x0, .ref 134] S (.inl (some (.int (nI 0))), S1.put 134 (aJ 1 (vp_updL g 0 v.toInt64))) := by
  refine MetA.ofH (by decide) (by decide +kernel) (Nat.le_of_ble_eq_true rfl) ?_
  refine ev_aload_n i_Lw_appendCharacter_0 rfl ?_
  refine ev_iconstN (v := 0) i_Lw_appendCharacter_1 (by decide) ?_
  refine ev_aload_n i_Lw_appendCharacter_2 rfl ?_
  refine ev_iload_n i_Lw_appendCharacter_3 rfl ?_
  refine ev_callV1 i_Lw_appendCharacter_4 rfl h0 (Nat.le_of_ble_eq_true rfl) hm ?_
  refine ev_i2l i_Lw_appendCharacter_7 ?_
  refine ev_lastN i_Lw_appendCharacter_8 ho (by decide) (by decide) ?_
  refine ev_goto i_Lw_appendCharacter_9 ?_
  refine ev_iconstN (v := 0) i_Lw_appendCharacter_18 (by decide) ?_
  exact ev_iret i_Lw_appendCharacter_19 rfl (by first | rfl | decide)
theorem lw_appendCharacter_1 {scr : Scr} {l : Launch} {S S1 : Sto} {d : Nat} {b : Bool} {x0 : Int32} (h0 : S.1[0]? = some (xObj b)) (hm : MetA scr l d M_Pr_appendCharacter [.ref 0, .int x0] S (.inr "java/lang/IllegalArgumentException", S1)) : MetA scr l (d + 1) M_Lw_appendCharacter [.ref 0, .int x0, .ref 134] S (.inl (some (.int (nI 1))), S1) := by
  refine MetA.ofH (by decide) (by decide +kernel) (Nat.le_of_ble_eq_true rfl) ?_
  refine ev_aload_n i_Lw_appendCharacter_0 rfl ?_
  refine ev_iconstN (v := 0) i_Lw_appendCharacter_1 (by decide) ?_
  refine ev_aload_n i_Lw_appendCharacter_2 rfl ?_
  refine ev_iload_n i_Lw_appendCharacter_3 rfl ?_
  refine ev_callVc1 i_Lw_appendCharacter_4 rfl h0 (Nat.le_of_ble_eq_true rfl) hm ct_Lw_appendCharacter_1 ?_
  refine ev_astQ_n i_Lw_appendCharacter_12 (Nat.le_of_ble_eq_true rfl) ?_
  refine ev_iconstN (v := 1) i_Lw_appendCharacter_13 (by decide) ?_
  exact ev_iret i_Lw_appendCharacter_14 rfl (by first | rfl | decide)
theorem lw_appendCharacter_2 {scr : Scr} {l : Launch} {S S1 : Sto} {d : Nat} {b : Bool} {x0 : Int32} (h0 : S.1[0]? = some (xObj b)) (hm : MetA scr l d M_Pr_appendCharacter [.ref 0, .int x0] S (.inr "java/lang/IllegalStateException", S1)) : MetA scr l (d + 1) M_Lw_appendCharacter [.ref 0, .int x0, .ref 134] S (.inl (some (.int (nI 2))), S1) := by
  refine MetA.ofH (by decide) (by decide +kernel) (Nat.le_of_ble_eq_true rfl) ?_
  refine ev_aload_n i_Lw_appendCharacter_0 rfl ?_
  refine ev_iconstN (v := 0) i_Lw_appendCharacter_1 (by decide) ?_
  refine ev_aload_n i_Lw_appendCharacter_2 rfl ?_
  refine ev_iload_n i_Lw_appendCharacter_3 rfl ?_
  refine ev_callVc1 i_Lw_appendCharacter_4 rfl h0 (Nat.le_of_ble_eq_true rfl) hm ct_Lw_appendCharacter_2 ?_
  refine ev_astQ_n i_Lw_appendCharacter_15 (Nat.le_of_ble_eq_true rfl) ?_
  refine ev_iconstN (v := 2) i_Lw_appendCharacter_16 (by decide) ?_
  exact ev_iret i_Lw_appendCharacter_17 rfl (by first | rfl | decide)
theorem lw_setProduction {scr : Scr} {l : Launch} {S S1 : Sto} {d : Nat} {b : Bool} {x0 x1 : Int32} {v : Int32} (h0 : S.1[0]? = some (xObj b)) {g : Nat → Int64} (ho : S1.1[134]? = some (aJ 1 g)) (hm : MetA scr l d M_Pr_setProduction [.ref 0, .int x0, .int x1] S (.inl (some (.int v)), S1)) : MetA scr l (d + 1) M_Lw_setProduction [.ref 0, .int x0, .int x1, .ref 134] S (.inl (some (.int (nI 0))), S1.put 134 (aJ 1 (vp_updL g 0 v.toInt64))) := by
  refine MetA.ofH (by decide) (by decide +kernel) (Nat.le_of_ble_eq_true rfl) ?_
  refine ev_aload_n i_Lw_setProduction_0 rfl ?_
  refine ev_iconstN (v := 0) i_Lw_setProduction_1 (by decide) ?_
  refine ev_aload_n i_Lw_setProduction_2 rfl ?_
  refine ev_iload_n i_Lw_setProduction_3 rfl ?_
  refine ev_iload_n i_Lw_setProduction_4 rfl ?_
  refine ev_callV2 i_Lw_setProduction_5 rfl h0 (Nat.le_of_ble_eq_true rfl) hm ?_
  refine ev_i2l i_Lw_setProduction_8 ?_
  refine ev_lastN i_Lw_setProduction_9 ho (by decide) (by decide) ?_
  refine ev_goto i_Lw_setProduction_10 ?_
  refine ev_iconstN (v := 0) i_Lw_setProduction_21 (by decide) ?_
  exact ev_iret i_Lw_setProduction_22 rfl (by first | rfl | decide)
theorem lw_setProduction_1 {scr : Scr} {l : Launch} {S S1 : Sto} {d : Nat} {b : Bool} {x0 x1 : Int32} (h0 : S.1[0]? = some (xObj b)) (hm : MetA scr l d M_Pr_setProduction [.ref 0, .int x0, .int x1] S (.inr "java/lang/IndexOutOfBoundsException", S1)) : MetA scr l (d + 1) M_Lw_setProduction [.ref 0, .int x0, .int x1, .ref 134] S (.inl (some (.int (nI 1))), S1) := by
  refine MetA.ofH (by decide) (by decide +kernel) (Nat.le_of_ble_eq_true rfl) ?_
  refine ev_aload_n i_Lw_setProduction_0 rfl ?_
  refine ev_iconstN (v := 0) i_Lw_setProduction_1 (by decide) ?_
  refine ev_aload_n i_Lw_setProduction_2 rfl ?_
  refine ev_iload_n i_Lw_setProduction_3 rfl ?_
  refine ev_iload_n i_Lw_setProduction_4 rfl ?_
  refine ev_callVc2 i_Lw_setProduction_5 rfl h0 (Nat.le_of_ble_eq_true rfl) hm ct_Lw_setProduction_1 ?_
  refine ev_astQ i_Lw_setProduction_13 (Nat.le_of_ble_eq_true rfl) ?_
  refine ev_iconstN (v := 1) i_Lw_setProduction_15 (by decide) ?_
  exact ev_iret i_Lw_setProduction_16 rfl (by first | rfl | decide)
theorem lw_setProduction_2 {scr : Scr} {l : Launch} {S S1 : Sto} {d : Nat} {b : Bool} {x0 x1 : Int32} (h0 : S.1[0]? = some (xObj b)) (hm : MetA scr l d M_Pr_setProduction [.ref 0, .int x0, .int x1] S (.inr "java/lang/IllegalArgumentException", S1)) : MetA scr l (d + 1) M_Lw_setProduction [.ref 0, .int x0, .int x1, .ref 134] S (.inl (some (.int (nI 2))), S1) := by
  refine MetA.ofH (by decide) (by decide +kernel) (Nat.le_of_ble_eq_true rfl) ?_
  refine ev_aload_n i_Lw_setProduction_0 rfl ?_
  refine ev_iconstN (v := 0) i_Lw_setProduction_1 (by decide) ?_
  refine ev_aload_n i_Lw_setProduction_2 rfl ?_
  refine ev_iload_n i_Lw_setProduction_3 rfl ?_
  refine ev_iload_n i_Lw_setProduction_4 rfl ?_
  refine ev_callVc2 i_Lw_setProduction_5 rfl h0 (Nat.le_of_ble_eq_true rfl) hm ct_Lw_setProduction_2 ?_
  refine ev_astQ i_Lw_setProduction_17 (Nat.le_of_ble_eq_true rfl) ?_
  refine ev_iconstN (v := 2) i_Lw_setProduction_19 (by decide) ?_
  exact ev_iret i_Lw_setProduction_20 rfl (by first | rfl | decide)
theorem lw_addProduction {scr : Scr} {l : Launch} {S S1 : Sto} {d : Nat} {b : Bool} {x0 x1 : Int32} {v : Int32} (h0 : S.1[0]? = some (xObj b)) {g : Nat → Int64} (ho : S1.1[134]? = some (aJ 1 g)) (hm : MetA scr l d M_Pr_addProduction [.ref 0, .int x0, .int x1] S (.inl (some (.int v)), S1)) : MetA scr l (d + 1) M_Lw_addProduction [.ref 0, .int x0, .int x1, .ref 134] S (.inl (some (.int (nI 0))), S1.put 134 (aJ 1 (vp_updL g 0 v.toInt64))) := by
  refine MetA.ofH (by decide) (by decide +kernel) (Nat.le_of_ble_eq_true rfl) ?_
  refine ev_aload_n i_Lw_addProduction_0 rfl ?_
  refine ev_iconstN (v := 0) i_Lw_addProduction_1 (by decide) ?_
  refine ev_aload_n i_Lw_addProduction_2 rfl ?_
  refine ev_iload_n i_Lw_addProduction_3 rfl ?_
  refine ev_iload_n i_Lw_addProduction_4 rfl ?_
  refine ev_callV2 i_Lw_addProduction_5 rfl h0 (Nat.le_of_ble_eq_true rfl) hm ?_
  refine ev_i2l i_Lw_addProduction_8 ?_
  refine ev_lastN i_Lw_addProduction_9 ho (by decide) (by decide) ?_
  refine ev_goto i_Lw_addProduction_10 ?_
  refine ev_iconstN (v := 0) i_Lw_addProduction_25 (by decide) ?_
  exact ev_iret i_Lw_addProduction_26 rfl (by first | rfl | decide)
theorem lw_addProduction_1 {scr : Scr} {l : Launch} {S S1 : Sto} {d : Nat} {b : Bool} {x0 x1 : Int32} (h0 : S.1[0]? = some (xObj b)) (hm : MetA scr l d M_Pr_addProduction [.ref 0, .int x0, .int x1] S (.inr "java/lang/IndexOutOfBoundsException", S1)) : MetA scr l (d + 1) M_Lw_addProduction [.ref 0, .int x0, .int x1, .ref 134] S (.inl (some (.int (nI 1))), S1) := by
  refine MetA.ofH (by decide) (by decide +kernel) (Nat.le_of_ble_eq_true rfl) ?_
  refine ev_aload_n i_Lw_addProduction_0 rfl ?_
  refine ev_iconstN (v := 0) i_Lw_addProduction_1 (by decide) ?_
  refine ev_aload_n i_Lw_addProduction_2 rfl ?_
  refine ev_iload_n i_Lw_addProduction_3 rfl ?_
  refine ev_iload_n i_Lw_addProduction_4 rfl ?_
  refine ev_callVc2 i_Lw_addProduction_5 rfl h0 (Nat.le_of_ble_eq_true rfl) hm ct_Lw_addProduction_1 ?_
  refine ev_astQ i_Lw_addProduction_13 (Nat.le_of_ble_eq_true rfl) ?_
  refine ev_iconstN (v := 1) i_Lw_addProduction_15 (by decide) ?_
  exact ev_iret i_Lw_addProduction_16 rfl (by first | rfl | decide)
theorem lw_addProduction_2 {scr : Scr} {l : Launch} {S S1 : Sto} {d : Nat} {b : Bool} {x0 x1 : Int32} (h0 : S.1[0]? = some (xObj b)) (hm : MetA scr l d M_Pr_addProduction [.ref 0, .int x0, .int x1] S (.inr "java/lang/IllegalArgumentException", S1)) : MetA scr l (d + 1) M_Lw_addProduction [.ref 0, .int x0, .int x1, .ref 134] S (.inl (some (.int (nI 2))), S1) := by
  refine MetA.ofH (by decide) (by decide +kernel) (Nat.le_of_ble_eq_true rfl) ?_
  refine ev_aload_n i_Lw_addProduction_0 rfl ?_
  refine ev_iconstN (v := 0) i_Lw_addProduction_1 (by decide) ?_
  refine ev_aload_n i_Lw_addProduction_2 rfl ?_
  refine ev_iload_n i_Lw_addProduction_3 rfl ?_
  refine ev_iload_n i_Lw_addProduction_4 rfl ?_
  refine ev_callVc2 i_Lw_addProduction_5 rfl h0 (Nat.le_of_ble_eq_true rfl) hm ct_Lw_addProduction_2 ?_
  refine ev_astQ i_Lw_addProduction_17 (Nat.le_of_ble_eq_true rfl) ?_
  refine ev_iconstN (v := 2) i_Lw_addProduction_19 (by decide) ?_
  exact ev_iret i_Lw_addProduction_20 rfl (by first | rfl | decide)
theorem lw_addProduction_3 {scr : Scr} {l : Launch} {S S1 : Sto} {d : Nat} {b : Bool} {x0 x1 : Int32} (h0 : S.1[0]? = some (xObj b)) (hm : MetA scr l d M_Pr_addProduction [.ref 0, .int x0, .int x1] S (.inr "java/lang/IllegalStateException", S1)) : MetA scr l (d + 1) M_Lw_addProduction [.ref 0, .int x0, .int x1, .ref 134] S (.inl (some (.int (nI 3))), S1) := by
  refine MetA.ofH (by decide) (by decide +kernel) (Nat.le_of_ble_eq_true rfl) ?_
  refine ev_aload_n i_Lw_addProduction_0 rfl ?_
  refine ev_iconstN (v := 0) i_Lw_addProduction_1 (by decide) ?_
  refine ev_aload_n i_Lw_addProduction_2 rfl ?_
  refine ev_iload_n i_Lw_addProduction_3 rfl ?_
  refine ev_iload_n i_Lw_addProduction_4 rfl ?_
  refine ev_callVc2 i_Lw_addProduction_5 rfl h0 (Nat.le_of_ble_eq_true rfl) hm ct_Lw_addProduction_3 ?_
  refine ev_astQ i_Lw_addProduction_21 (Nat.le_of_ble_eq_true rfl) ?_
  refine ev_iconstN (v := 3) i_Lw_addProduction_23 (by decide) ?_
  exact ev_iret i_Lw_addProduction_24 rfl (by first | rfl | decide)
theorem lw_productionCount {scr : Scr} {l : Launch} {S S1 : Sto} {d : Nat} {b : Bool} {x0 x1 : Int32} {v : Int32} (h0 : S.1[0]? = some (xObj b)) {g : Nat → Int64} (ho : S1.1[134]? = some (aJ 1 g)) (hm : MetA scr l d M_Pr_productionCount [.ref 0, .int x0, .int x1] S (.inl (some (.int v)), S1)) : MetA scr l (d + 1) M_Lw_productionCount [.ref 0, .int x0, .int x1, .ref 134] S (.inl (some (.int (nI 0))), S1.put 134 (aJ 1 (vp_updL g 0 v.toInt64))) := by
  refine MetA.ofH (by decide) (by decide +kernel) (Nat.le_of_ble_eq_true rfl) ?_
  refine ev_aload_n i_Lw_productionCount_0 rfl ?_
  refine ev_iconstN (v := 0) i_Lw_productionCount_1 (by decide) ?_
  refine ev_aload_n i_Lw_productionCount_2 rfl ?_
  refine ev_iload_n i_Lw_productionCount_3 rfl ?_
  refine ev_iload_n i_Lw_productionCount_4 rfl ?_
  refine ev_callV2 i_Lw_productionCount_5 rfl h0 (Nat.le_of_ble_eq_true rfl) hm ?_
  refine ev_i2l i_Lw_productionCount_8 ?_
  refine ev_lastN i_Lw_productionCount_9 ho (by decide) (by decide) ?_
  refine ev_goto i_Lw_productionCount_10 ?_
  refine ev_iconstN (v := 0) i_Lw_productionCount_17 (by decide) ?_
  exact ev_iret i_Lw_productionCount_18 rfl (by first | rfl | decide)
theorem lw_productionCount_1 {scr : Scr} {l : Launch} {S S1 : Sto} {d : Nat} {b : Bool} {x0 x1 : Int32} (h0 : S.1[0]? = some (xObj b)) (hm : MetA scr l d M_Pr_productionCount [.ref 0, .int x0, .int x1] S (.inr "java/lang/IndexOutOfBoundsException", S1)) : MetA scr l (d + 1) M_Lw_productionCount [.ref 0, .int x0, .int x1, .ref 134] S (.inl (some (.int (nI 1))), S1) := by
  refine MetA.ofH (by decide) (by decide +kernel) (Nat.le_of_ble_eq_true rfl) ?_
  refine ev_aload_n i_Lw_productionCount_0 rfl ?_
  refine ev_iconstN (v := 0) i_Lw_productionCount_1 (by decide) ?_
  refine ev_aload_n i_Lw_productionCount_2 rfl ?_
  refine ev_iload_n i_Lw_productionCount_3 rfl ?_
  refine ev_iload_n i_Lw_productionCount_4 rfl ?_
  refine ev_callVc2 i_Lw_productionCount_5 rfl h0 (Nat.le_of_ble_eq_true rfl) hm ct_Lw_productionCount_1 ?_
  refine ev_astQ i_Lw_productionCount_13 (Nat.le_of_ble_eq_true rfl) ?_
  refine ev_iconstN (v := 1) i_Lw_productionCount_15 (by decide) ?_
  exact ev_iret i_Lw_productionCount_16 rfl (by first | rfl | decide)
theorem lw_setContextRule {scr : Scr} {l : Launch} {S S1 : Sto} {d : Nat} {b : Bool} {x0 x1 x2 : Int32} {z : Bool} (h0 : S.1[0]? = some (xObj b)) {g : Nat → Int64} (ho : S1.1[134]? = some (aJ 1 g)) (hm : MetA scr l d M_Pr_setContextRule [.ref 0, .int x0, .int x1, .int x2] S (.inl (some (.int (nI (bI z)))), S1)) : MetA scr l (d + 1) M_Lw_setContextRule [.ref 0, .int x0, .int x1, .int x2, .ref 134] S (.inl (some (.int (nI 0))), S1.put 134 (aJ 1 (vp_updL g 0 (bL z)))) := by
  cases z with
  | true =>
    rw [show bI true = 1 from rfl] at hm
    show MetA _ _ _ _ _ _ (_, S1.put 134 (aJ 1 (vp_updL g 0 1)))
    refine MetA.ofH (by decide) (by decide +kernel) (Nat.le_of_ble_eq_true rfl) ?_
    refine ev_aload i_Lw_setContextRule_0 rfl ?_
    refine ev_iconstN (v := 0) i_Lw_setContextRule_2 (by decide) ?_
    refine ev_aload_n i_Lw_setContextRule_3 rfl ?_
    refine ev_iload_n i_Lw_setContextRule_4 rfl ?_
    refine ev_iload_n i_Lw_setContextRule_5 rfl ?_
    refine ev_iload_n i_Lw_setContextRule_6 rfl ?_
    refine ev_callV3 i_Lw_setContextRule_7 rfl h0 (Nat.le_of_ble_eq_true rfl) hm ?_
    refine ev_if_eqN i_Lw_setContextRule_10 (by omega) (fun hc_10 => ?_) (fun hc_10 => ?_)
    · skip
      exfalso; omega
    · skip
      refine ev_lconst (v := 1) i_Lw_setContextRule_13 (by decide) ?_
      refine ev_goto i_Lw_setContextRule_14 ?_
      refine ev_lastN i_Lw_setContextRule_18 ho (by decide) (by decide) ?_
      refine ev_goto i_Lw_setContextRule_19 ?_
      refine ev_iconstN (v := 0) i_Lw_setContextRule_34 (by decide) ?_
      exact ev_iret i_Lw_setContextRule_35 rfl (by first | rfl | decide)
  | false =>
    rw [show bI false = 0 from rfl] at hm
    show MetA _ _ _ _ _ _ (_, S1.put 134 (aJ 1 (vp_updL g 0 0)))
    refine MetA.ofH (by decide) (by decide +kernel) (Nat.le_of_ble_eq_true rfl) ?_
    refine ev_aload i_Lw_setContextRule_0 rfl ?_
    refine ev_iconstN (v := 0) i_Lw_setContextRule_2 (by decide) ?_
    refine ev_aload_n i_Lw_setContextRule_3 rfl ?_
    refine ev_iload_n i_Lw_setContextRule_4 rfl ?_
    refine ev_iload_n i_Lw_setContextRule_5 rfl ?_
    refine ev_iload_n i_Lw_setContextRule_6 rfl ?_
    refine ev_callV3 i_Lw_setContextRule_7 rfl h0 (Nat.le_of_ble_eq_true rfl) hm ?_
    refine ev_if_eqN i_Lw_setContextRule_10 (by omega) (fun hc_10 => ?_) (fun hc_10 => ?_)
    · skip
      refine ev_lconst (v := 0) i_Lw_setContextRule_17 (by decide) ?_
      refine ev_lastN i_Lw_setContextRule_18 ho (by decide) (by decide) ?_
      refine ev_goto i_Lw_setContextRule_19 ?_
      refine ev_iconstN (v := 0) i_Lw_setContextRule_34 (by decide) ?_
      exact ev_iret i_Lw_setContextRule_35 rfl (by first | rfl | decide)
    · skip
      exfalso; omega
theorem lw_setContextRule_1 {scr : Scr} {l : Launch} {S S1 : Sto} {d : Nat} {b : Bool} {x0 x1 x2 : Int32} (h0 : S.1[0]? = some (xObj b)) (hm : MetA scr l d M_Pr_setContextRule [.ref 0, .int x0, .int x1, .int x2] S (.inr "java/lang/IndexOutOfBoundsException", S1)) : MetA scr l (d + 1) M_Lw_setContextRule [.ref 0, .int x0, .int x1, .int x2, .ref 134] S (.inl (some (.int (nI 1))), S1) := by
  refine MetA.ofH (by decide) (by decide +kernel) (Nat.le_of_ble_eq_true rfl) ?_
  refine ev_aload i_Lw_setContextRule_0 rfl ?_
  refine ev_iconstN (v := 0) i_Lw_setContextRule_2 (by decide) ?_
  refine ev_aload_n i_Lw_setContextRule_3 rfl ?_
  refine ev_iload_n i_Lw_setContextRule_4 rfl ?_
  refine ev_iload_n i_Lw_setContextRule_5 rfl ?_
  refine ev_iload_n i_Lw_setContextRule_6 rfl ?_
  refine ev_callVc3 i_Lw_setContextRule_7 rfl h0 (Nat.le_of_ble_eq_true rfl) hm ct_Lw_setContextRule_1 ?_
  refine ev_astQ i_Lw_setContextRule_22 (Nat.le_of_ble_eq_true rfl) ?_
  refine ev_iconstN (v := 1) i_Lw_setContextRule_24 (by decide) ?_
  exact ev_iret i_Lw_setContextRule_25 rfl (by first | rfl | decide)
theorem lw_setContextRule_2 {scr : Scr} {l : Launch} {S S1 : Sto} {d : Nat} {b : Bool} {x0 x1 x2 : Int32} (h0 : S.1[0]? = some (xObj b)) (hm : MetA scr l d M_Pr_setContextRule [.ref 0, .int x0, .int x1, .int x2] S (.inr "java/lang/IllegalArgumentException", S1)) : MetA scr l (d + 1) M_Lw_setContextRule [.ref 0, .int x0, .int x1, .int x2, .ref 134] S (.inl (some (.int (nI 2))), S1) := by
  refine MetA.ofH (by decide) (by decide +kernel) (Nat.le_of_ble_eq_true rfl) ?_
  refine ev_aload i_Lw_setContextRule_0 rfl ?_
  refine ev_iconstN (v := 0) i_Lw_setContextRule_2 (by decide) ?_
  refine ev_aload_n i_Lw_setContextRule_3 rfl ?_
  refine ev_iload_n i_Lw_setContextRule_4 rfl ?_
  refine ev_iload_n i_Lw_setContextRule_5 rfl ?_
  refine ev_iload_n i_Lw_setContextRule_6 rfl ?_
  refine ev_callVc3 i_Lw_setContextRule_7 rfl h0 (Nat.le_of_ble_eq_true rfl) hm ct_Lw_setContextRule_2 ?_
  refine ev_astQ i_Lw_setContextRule_26 (Nat.le_of_ble_eq_true rfl) ?_
  refine ev_iconstN (v := 2) i_Lw_setContextRule_28 (by decide) ?_
  exact ev_iret i_Lw_setContextRule_29 rfl (by first | rfl | decide)
theorem lw_setContextRule_3 {scr : Scr} {l : Launch} {S S1 : Sto} {d : Nat} {b : Bool} {x0 x1 x2 : Int32} (h0 : S.1[0]? = some (xObj b)) (hm : MetA scr l d M_Pr_setContextRule [.ref 0, .int x0, .int x1, .int x2] S (.inr "java/lang/IllegalStateException", S1)) : MetA scr l (d + 1) M_Lw_setContextRule [.ref 0, .int x0, .int x1, .int x2, .ref 134] S (.inl (some (.int (nI 3))), S1) := by
  refine MetA.ofH (by decide) (by decide +kernel) (Nat.le_of_ble_eq_true rfl) ?_
  refine ev_aload i_Lw_setContextRule_0 rfl ?_
  refine ev_iconstN (v := 0) i_Lw_setContextRule_2 (by decide) ?_
  refine ev_aload_n i_Lw_setContextRule_3 rfl ?_
  refine ev_iload_n i_Lw_setContextRule_4 rfl ?_
  refine ev_iload_n i_Lw_setContextRule_5 rfl ?_
  refine ev_iload_n i_Lw_setContextRule_6 rfl ?_
  refine ev_callVc3 i_Lw_setContextRule_7 rfl h0 (Nat.le_of_ble_eq_true rfl) hm ct_Lw_setContextRule_3 ?_
  refine ev_astQ i_Lw_setContextRule_30 (Nat.le_of_ble_eq_true rfl) ?_
  refine ev_iconstN (v := 3) i_Lw_setContextRule_32 (by decide) ?_
  exact ev_iret i_Lw_setContextRule_33 rfl (by first | rfl | decide)
theorem lw_removeContextRule {scr : Scr} {l : Launch} {S S1 : Sto} {d : Nat} {b : Bool} {x0 x1 x2 : Int32} {z : Bool} (h0 : S.1[0]? = some (xObj b)) {g : Nat → Int64} (ho : S1.1[134]? = some (aJ 1 g)) (hm : MetA scr l d M_Pr_removeContextRule [.ref 0, .int x0, .int x1, .int x2] S (.inl (some (.int (nI (bI z)))), S1)) : MetA scr l (d + 1) M_Lw_removeContextRule [.ref 0, .int x0, .int x1, .int x2, .ref 134] S (.inl (some (.int (nI 0))), S1.put 134 (aJ 1 (vp_updL g 0 (bL z)))) := by
  cases z with
  | true =>
    rw [show bI true = 1 from rfl] at hm
    show MetA _ _ _ _ _ _ (_, S1.put 134 (aJ 1 (vp_updL g 0 1)))
    refine MetA.ofH (by decide) (by decide +kernel) (Nat.le_of_ble_eq_true rfl) ?_
    refine ev_aload i_Lw_removeContextRule_0 rfl ?_
    refine ev_iconstN (v := 0) i_Lw_removeContextRule_2 (by decide) ?_
    refine ev_aload_n i_Lw_removeContextRule_3 rfl ?_
    refine ev_iload_n i_Lw_removeContextRule_4 rfl ?_
    refine ev_iload_n i_Lw_removeContextRule_5 rfl ?_
    refine ev_iload_n i_Lw_removeContextRule_6 rfl ?_
    refine ev_callV3 i_Lw_removeContextRule_7 rfl h0 (Nat.le_of_ble_eq_true rfl) hm ?_
    refine ev_if_eqN i_Lw_removeContextRule_10 (by omega) (fun hc_10 => ?_) (fun hc_10 => ?_)
    · skip
      exfalso; omega
    · skip
      refine ev_lconst (v := 1) i_Lw_removeContextRule_13 (by decide) ?_
      refine ev_goto i_Lw_removeContextRule_14 ?_
      refine ev_lastN i_Lw_removeContextRule_18 ho (by decide) (by decide) ?_
      refine ev_goto i_Lw_removeContextRule_19 ?_
      refine ev_iconstN (v := 0) i_Lw_removeContextRule_26 (by decide) ?_
      exact ev_iret i_Lw_removeContextRule_27 rfl (by first | rfl | decide)
  | false =>
    rw [show bI false = 0 from rfl] at hm
    show MetA _ _ _ _ _ _ (_, S1.put 134 (aJ 1 (vp_updL g 0 0)))
    refine MetA.ofH (by decide) (by decide +kernel) (Nat.le_of_ble_eq_true rfl) ?_
    refine ev_aload i_Lw_removeContextRule_0 rfl ?_
    refine ev_iconstN (v := 0) i_Lw_removeContextRule_2 (by decide) ?_
    refine ev_aload_n i_Lw_removeContextRule_3 rfl ?_
    refine ev_iload_n i_Lw_removeContextRule_4 rfl ?_
    refine ev_iload_n i_Lw_removeContextRule_5 rfl ?_
    refine ev_iload_n i_Lw_removeContextRule_6 rfl ?_
    refine ev_callV3 i_Lw_removeContextRule_7 rfl h0 (Nat.le_of_ble_eq_true rfl) hm ?_
    refine ev_if_eqN i_Lw_removeContextRule_10 (by omega) (fun hc_10 => ?_) (fun hc_10 => ?_)
    · skip
      refine ev_lconst (v := 0) i_Lw_removeContextRule_17 (by decide) ?_
      refine ev_lastN i_Lw_removeContextRule_18 ho (by decide) (by decide) ?_
      refine ev_goto i_Lw_removeContextRule_19 ?_
      refine ev_iconstN (v := 0) i_Lw_removeContextRule_26 (by decide) ?_
      exact ev_iret i_Lw_removeContextRule_27 rfl (by first | rfl | decide)
    · skip
      exfalso; omega
theorem lw_removeContextRule_1 {scr : Scr} {l : Launch} {S S1 : Sto} {d : Nat} {b : Bool} {x0 x1 x2 : Int32} (h0 : S.1[0]? = some (xObj b)) (hm : MetA scr l d M_Pr_removeContextRule [.ref 0, .int x0, .int x1, .int x2] S (.inr "java/lang/IndexOutOfBoundsException", S1)) : MetA scr l (d + 1) M_Lw_removeContextRule [.ref 0, .int x0, .int x1, .int x2, .ref 134] S (.inl (some (.int (nI 1))), S1) := by
  refine MetA.ofH (by decide) (by decide +kernel) (Nat.le_of_ble_eq_true rfl) ?_
  refine ev_aload i_Lw_removeContextRule_0 rfl ?_
  refine ev_iconstN (v := 0) i_Lw_removeContextRule_2 (by decide) ?_
  refine ev_aload_n i_Lw_removeContextRule_3 rfl ?_
  refine ev_iload_n i_Lw_removeContextRule_4 rfl ?_
  refine ev_iload_n i_Lw_removeContextRule_5 rfl ?_
  refine ev_iload_n i_Lw_removeContextRule_6 rfl ?_
  refine ev_callVc3 i_Lw_removeContextRule_7 rfl h0 (Nat.le_of_ble_eq_true rfl) hm ct_Lw_removeContextRule_1 ?_
  refine ev_astQ i_Lw_removeContextRule_22 (Nat.le_of_ble_eq_true rfl) ?_
  refine ev_iconstN (v := 1) i_Lw_removeContextRule_24 (by decide) ?_
  exact ev_iret i_Lw_removeContextRule_25 rfl (by first | rfl | decide)
theorem lw_isDeterministic {scr : Scr} {l : Launch} {S S1 : Sto} {d : Nat} {b : Bool} {x0 : Int32} {z : Bool} (h0 : S.1[0]? = some (xObj b)) {g : Nat → Int64} (ho : S1.1[134]? = some (aJ 1 g)) (hm : MetA scr l d M_Pr_isDeterministic [.ref 0, .int x0] S (.inl (some (.int (nI (bI z)))), S1)) : MetA scr l (d + 1) M_Lw_isDeterministic [.ref 0, .int x0, .ref 134] S (.inl (some (.int (nI 0))), S1.put 134 (aJ 1 (vp_updL g 0 (bL z)))) := by
  cases z with
  | true =>
    rw [show bI true = 1 from rfl] at hm
    show MetA _ _ _ _ _ _ (_, S1.put 134 (aJ 1 (vp_updL g 0 1)))
    refine MetA.ofH (by decide) (by decide +kernel) (Nat.le_of_ble_eq_true rfl) ?_
    refine ev_aload_n i_Lw_isDeterministic_0 rfl ?_
    refine ev_iconstN (v := 0) i_Lw_isDeterministic_1 (by decide) ?_
    refine ev_aload_n i_Lw_isDeterministic_2 rfl ?_
    refine ev_iload_n i_Lw_isDeterministic_3 rfl ?_
    refine ev_callV1 i_Lw_isDeterministic_4 rfl h0 (Nat.le_of_ble_eq_true rfl) hm ?_
    refine ev_if_eqN i_Lw_isDeterministic_7 (by omega) (fun hc_7 => ?_) (fun hc_7 => ?_)
    · skip
      exfalso; omega
    · skip
      refine ev_lconst (v := 1) i_Lw_isDeterministic_10 (by decide) ?_
      refine ev_goto i_Lw_isDeterministic_11 ?_
      refine ev_lastN i_Lw_isDeterministic_15 ho (by decide) (by decide) ?_
      refine ev_goto i_Lw_isDeterministic_16 ?_
      refine ev_iconstN (v := 0) i_Lw_isDeterministic_22 (by decide) ?_
      exact ev_iret i_Lw_isDeterministic_23 rfl (by first | rfl | decide)
  | false =>
    rw [show bI false = 0 from rfl] at hm
    show MetA _ _ _ _ _ _ (_, S1.put 134 (aJ 1 (vp_updL g 0 0)))
    refine MetA.ofH (by decide) (by decide +kernel) (Nat.le_of_ble_eq_true rfl) ?_
    refine ev_aload_n i_Lw_isDeterministic_0 rfl ?_
    refine ev_iconstN (v := 0) i_Lw_isDeterministic_1 (by decide) ?_
    refine ev_aload_n i_Lw_isDeterministic_2 rfl ?_
    refine ev_iload_n i_Lw_isDeterministic_3 rfl ?_
    refine ev_callV1 i_Lw_isDeterministic_4 rfl h0 (Nat.le_of_ble_eq_true rfl) hm ?_
    refine ev_if_eqN i_Lw_isDeterministic_7 (by omega) (fun hc_7 => ?_) (fun hc_7 => ?_)
    · skip
      refine ev_lconst (v := 0) i_Lw_isDeterministic_14 (by decide) ?_
      refine ev_lastN i_Lw_isDeterministic_15 ho (by decide) (by decide) ?_
      refine ev_goto i_Lw_isDeterministic_16 ?_
      refine ev_iconstN (v := 0) i_Lw_isDeterministic_22 (by decide) ?_
      exact ev_iret i_Lw_isDeterministic_23 rfl (by first | rfl | decide)
    · skip
      exfalso; omega
theorem lw_isDeterministic_1 {scr : Scr} {l : Launch} {S S1 : Sto} {d : Nat} {b : Bool} {x0 : Int32} (h0 : S.1[0]? = some (xObj b)) (hm : MetA scr l d M_Pr_isDeterministic [.ref 0, .int x0] S (.inr "java/lang/IndexOutOfBoundsException", S1)) : MetA scr l (d + 1) M_Lw_isDeterministic [.ref 0, .int x0, .ref 134] S (.inl (some (.int (nI 1))), S1) := by
  refine MetA.ofH (by decide) (by decide +kernel) (Nat.le_of_ble_eq_true rfl) ?_
  refine ev_aload_n i_Lw_isDeterministic_0 rfl ?_
  refine ev_iconstN (v := 0) i_Lw_isDeterministic_1 (by decide) ?_
  refine ev_aload_n i_Lw_isDeterministic_2 rfl ?_
  refine ev_iload_n i_Lw_isDeterministic_3 rfl ?_
  refine ev_callVc1 i_Lw_isDeterministic_4 rfl h0 (Nat.le_of_ble_eq_true rfl) hm ct_Lw_isDeterministic_1 ?_
  refine ev_astQ_n i_Lw_isDeterministic_19 (Nat.le_of_ble_eq_true rfl) ?_
  refine ev_iconstN (v := 1) i_Lw_isDeterministic_20 (by decide) ?_
  exact ev_iret i_Lw_isDeterministic_21 rfl (by first | rfl | decide)
theorem lw_isPlain {scr : Scr} {l : Launch} {S S1 : Sto} {d : Nat} {b : Bool} {x0 : Int32} {z : Bool} (h0 : S.1[0]? = some (xObj b)) {g : Nat → Int64} (ho : S1.1[134]? = some (aJ 1 g)) (hm : MetA scr l d M_Pr_isPlain [.ref 0, .int x0] S (.inl (some (.int (nI (bI z)))), S1)) : MetA scr l (d + 1) M_Lw_isPlain [.ref 0, .int x0, .ref 134] S (.inl (some (.int (nI 0))), S1.put 134 (aJ 1 (vp_updL g 0 (bL z)))) := by
  cases z with
  | true =>
    rw [show bI true = 1 from rfl] at hm
    show MetA _ _ _ _ _ _ (_, S1.put 134 (aJ 1 (vp_updL g 0 1)))
    refine MetA.ofH (by decide) (by decide +kernel) (Nat.le_of_ble_eq_true rfl) ?_
    refine ev_aload_n i_Lw_isPlain_0 rfl ?_
    refine ev_iconstN (v := 0) i_Lw_isPlain_1 (by decide) ?_
    refine ev_aload_n i_Lw_isPlain_2 rfl ?_
    refine ev_iload_n i_Lw_isPlain_3 rfl ?_
    refine ev_callV1 i_Lw_isPlain_4 rfl h0 (Nat.le_of_ble_eq_true rfl) hm ?_
    refine ev_if_eqN i_Lw_isPlain_7 (by omega) (fun hc_7 => ?_) (fun hc_7 => ?_)
    · skip
      exfalso; omega
    · skip
      refine ev_lconst (v := 1) i_Lw_isPlain_10 (by decide) ?_
      refine ev_goto i_Lw_isPlain_11 ?_
      refine ev_lastN i_Lw_isPlain_15 ho (by decide) (by decide) ?_
      refine ev_goto i_Lw_isPlain_16 ?_
      refine ev_iconstN (v := 0) i_Lw_isPlain_22 (by decide) ?_
      exact ev_iret i_Lw_isPlain_23 rfl (by first | rfl | decide)
  | false =>
    rw [show bI false = 0 from rfl] at hm
    show MetA _ _ _ _ _ _ (_, S1.put 134 (aJ 1 (vp_updL g 0 0)))
    refine MetA.ofH (by decide) (by decide +kernel) (Nat.le_of_ble_eq_true rfl) ?_
    refine ev_aload_n i_Lw_isPlain_0 rfl ?_
    refine ev_iconstN (v := 0) i_Lw_isPlain_1 (by decide) ?_
    refine ev_aload_n i_Lw_isPlain_2 rfl ?_
    refine ev_iload_n i_Lw_isPlain_3 rfl ?_
    refine ev_callV1 i_Lw_isPlain_4 rfl h0 (Nat.le_of_ble_eq_true rfl) hm ?_
    refine ev_if_eqN i_Lw_isPlain_7 (by omega) (fun hc_7 => ?_) (fun hc_7 => ?_)
    · skip
      refine ev_lconst (v := 0) i_Lw_isPlain_14 (by decide) ?_
      refine ev_lastN i_Lw_isPlain_15 ho (by decide) (by decide) ?_
      refine ev_goto i_Lw_isPlain_16 ?_
      refine ev_iconstN (v := 0) i_Lw_isPlain_22 (by decide) ?_
      exact ev_iret i_Lw_isPlain_23 rfl (by first | rfl | decide)
    · skip
      exfalso; omega
theorem lw_isPlain_1 {scr : Scr} {l : Launch} {S S1 : Sto} {d : Nat} {b : Bool} {x0 : Int32} (h0 : S.1[0]? = some (xObj b)) (hm : MetA scr l d M_Pr_isPlain [.ref 0, .int x0] S (.inr "java/lang/IndexOutOfBoundsException", S1)) : MetA scr l (d + 1) M_Lw_isPlain [.ref 0, .int x0, .ref 134] S (.inl (some (.int (nI 1))), S1) := by
  refine MetA.ofH (by decide) (by decide +kernel) (Nat.le_of_ble_eq_true rfl) ?_
  refine ev_aload_n i_Lw_isPlain_0 rfl ?_
  refine ev_iconstN (v := 0) i_Lw_isPlain_1 (by decide) ?_
  refine ev_aload_n i_Lw_isPlain_2 rfl ?_
  refine ev_iload_n i_Lw_isPlain_3 rfl ?_
  refine ev_callVc1 i_Lw_isPlain_4 rfl h0 (Nat.le_of_ble_eq_true rfl) hm ct_Lw_isPlain_1 ?_
  refine ev_astQ_n i_Lw_isPlain_19 (Nat.le_of_ble_eq_true rfl) ?_
  refine ev_iconstN (v := 1) i_Lw_isPlain_20 (by decide) ?_
  exact ev_iret i_Lw_isPlain_21 rfl (by first | rfl | decide)
theorem lw_setWord {scr : Scr} {l : Launch} {S S1 : Sto} {d : Nat} {b : Bool} {v : Int32} (h0 : S.1[0]? = some (xObj b)) {g : Nat → Int64} (ho : S1.1[134]? = some (aJ 1 g)) (hm : MetA scr l d M_Pr_setWord [.ref 0] S (.inl (some (.int v)), S1)) : MetA scr l (d + 1) M_Lw_setWord [.ref 0, .ref 134] S (.inl (some (.int (nI 0))), S1.put 134 (aJ 1 (vp_updL g 0 v.toInt64))) := by
  refine MetA.ofH (by decide) (by decide +kernel) (Nat.le_of_ble_eq_true rfl) ?_
  refine ev_aload_n i_Lw_setWord_0 rfl ?_
  refine ev_iconstN (v := 0) i_Lw_setWord_1 (by decide) ?_
  refine ev_aload_n i_Lw_setWord_2 rfl ?_
  refine ev_callV0 i_Lw_setWord_3 rfl h0 (Nat.le_of_ble_eq_true rfl) hm ?_
  refine ev_i2l i_Lw_setWord_6 ?_
  refine ev_lastN i_Lw_setWord_7 ho (by decide) (by decide) ?_
  refine ev_goto i_Lw_setWord_8 ?_
  refine ev_iconstN (v := 0) i_Lw_setWord_14 (by decide) ?_
  exact ev_iret i_Lw_setWord_15 rfl (by first | rfl | decide)
theorem lw_setWord_1 {scr : Scr} {l : Launch} {S S1 : Sto} {d : Nat} {b : Bool} (h0 : S.1[0]? = some (xObj b)) (hm : MetA scr l d M_Pr_setWord [.ref 0] S (.inr "java/lang/IllegalArgumentException", S1)) : MetA scr l (d + 1) M_Lw_setWord [.ref 0, .ref 134] S (.inl (some (.int (nI 1))), S1) := by
  refine MetA.ofH (by decide) (by decide +kernel) (Nat.le_of_ble_eq_true rfl) ?_
  refine ev_aload_n i_Lw_setWord_0 rfl ?_
  refine ev_iconstN (v := 0) i_Lw_setWord_1 (by decide) ?_
  refine ev_aload_n i_Lw_setWord_2 rfl ?_
  refine ev_callVc0 i_Lw_setWord_3 rfl h0 (Nat.le_of_ble_eq_true rfl) hm ct_Lw_setWord_1 ?_
  refine ev_astQ_n i_Lw_setWord_11 (Nat.le_of_ble_eq_true rfl) ?_
  refine ev_iconstN (v := 1) i_Lw_setWord_12 (by decide) ?_
  exact ev_iret i_Lw_setWord_13 rfl (by first | rfl | decide)
theorem lw_setTarget {scr : Scr} {l : Launch} {S S1 : Sto} {d : Nat} {b : Bool} {v : Int32} (h0 : S.1[0]? = some (xObj b)) {g : Nat → Int64} (ho : S1.1[134]? = some (aJ 1 g)) (hm : MetA scr l d M_Pr_setTarget [.ref 0] S (.inl (some (.int v)), S1)) : MetA scr l (d + 1) M_Lw_setTarget [.ref 0, .ref 134] S (.inl (some (.int (nI 0))), S1.put 134 (aJ 1 (vp_updL g 0 v.toInt64))) := by
  refine MetA.ofH (by decide) (by decide +kernel) (Nat.le_of_ble_eq_true rfl) ?_
  refine ev_aload_n i_Lw_setTarget_0 rfl ?_
  refine ev_iconstN (v := 0) i_Lw_setTarget_1 (by decide) ?_
  refine ev_aload_n i_Lw_setTarget_2 rfl ?_
  refine ev_callV0 i_Lw_setTarget_3 rfl h0 (Nat.le_of_ble_eq_true rfl) hm ?_
  refine ev_i2l i_Lw_setTarget_6 ?_
  refine ev_lastN i_Lw_setTarget_7 ho (by decide) (by decide) ?_
  refine ev_goto i_Lw_setTarget_8 ?_
  refine ev_iconstN (v := 0) i_Lw_setTarget_14 (by decide) ?_
  exact ev_iret i_Lw_setTarget_15 rfl (by first | rfl | decide)
theorem lw_setTarget_1 {scr : Scr} {l : Launch} {S S1 : Sto} {d : Nat} {b : Bool} (h0 : S.1[0]? = some (xObj b)) (hm : MetA scr l d M_Pr_setTarget [.ref 0] S (.inr "java/lang/IllegalArgumentException", S1)) : MetA scr l (d + 1) M_Lw_setTarget [.ref 0, .ref 134] S (.inl (some (.int (nI 1))), S1) := by
  refine MetA.ofH (by decide) (by decide +kernel) (Nat.le_of_ble_eq_true rfl) ?_
  refine ev_aload_n i_Lw_setTarget_0 rfl ?_
  refine ev_iconstN (v := 0) i_Lw_setTarget_1 (by decide) ?_
  refine ev_aload_n i_Lw_setTarget_2 rfl ?_
  refine ev_callVc0 i_Lw_setTarget_3 rfl h0 (Nat.le_of_ble_eq_true rfl) hm ct_Lw_setTarget_1 ?_
  refine ev_astQ_n i_Lw_setTarget_11 (Nat.le_of_ble_eq_true rfl) ?_
  refine ev_iconstN (v := 1) i_Lw_setTarget_12 (by decide) ?_
  exact ev_iret i_Lw_setTarget_13 rfl (by first | rfl | decide)
theorem lw_wordLetter {scr : Scr} {l : Launch} {S S1 : Sto} {d : Nat} {b : Bool} {x0 : Int32} {v : Int32} (h0 : S.1[0]? = some (xObj b)) {g : Nat → Int64} (ho : S1.1[134]? = some (aJ 1 g)) (hm : MetA scr l d M_Pr_wordLetter [.ref 0, .int x0] S (.inl (some (.int v)), S1)) : MetA scr l (d + 1) M_Lw_wordLetter [.ref 0, .int x0, .ref 134] S (.inl (some (.int (nI 0))), S1.put 134 (aJ 1 (vp_updL g 0 v.toInt64))) := by
  refine MetA.ofH (by decide) (by decide +kernel) (Nat.le_of_ble_eq_true rfl) ?_
  refine ev_aload_n i_Lw_wordLetter_0 rfl ?_
  refine ev_iconstN (v := 0) i_Lw_wordLetter_1 (by decide) ?_
  refine ev_aload_n i_Lw_wordLetter_2 rfl ?_
  refine ev_iload_n i_Lw_wordLetter_3 rfl ?_
  refine ev_callV1 i_Lw_wordLetter_4 rfl h0 (Nat.le_of_ble_eq_true rfl) hm ?_
  refine ev_i2l i_Lw_wordLetter_7 ?_
  refine ev_lastN i_Lw_wordLetter_8 ho (by decide) (by decide) ?_
  refine ev_goto i_Lw_wordLetter_9 ?_
  refine ev_iconstN (v := 0) i_Lw_wordLetter_15 (by decide) ?_
  exact ev_iret i_Lw_wordLetter_16 rfl (by first | rfl | decide)
theorem lw_wordLetter_1 {scr : Scr} {l : Launch} {S S1 : Sto} {d : Nat} {b : Bool} {x0 : Int32} (h0 : S.1[0]? = some (xObj b)) (hm : MetA scr l d M_Pr_wordLetter [.ref 0, .int x0] S (.inr "java/lang/IndexOutOfBoundsException", S1)) : MetA scr l (d + 1) M_Lw_wordLetter [.ref 0, .int x0, .ref 134] S (.inl (some (.int (nI 1))), S1) := by
  refine MetA.ofH (by decide) (by decide +kernel) (Nat.le_of_ble_eq_true rfl) ?_
  refine ev_aload_n i_Lw_wordLetter_0 rfl ?_
  refine ev_iconstN (v := 0) i_Lw_wordLetter_1 (by decide) ?_
  refine ev_aload_n i_Lw_wordLetter_2 rfl ?_
  refine ev_iload_n i_Lw_wordLetter_3 rfl ?_
  refine ev_callVc1 i_Lw_wordLetter_4 rfl h0 (Nat.le_of_ble_eq_true rfl) hm ct_Lw_wordLetter_1 ?_
  refine ev_astQ_n i_Lw_wordLetter_12 (Nat.le_of_ble_eq_true rfl) ?_
  refine ev_iconstN (v := 1) i_Lw_wordLetter_13 (by decide) ?_
  exact ev_iret i_Lw_wordLetter_14 rfl (by first | rfl | decide)
theorem lw_step {scr : Scr} {l : Launch} {S S1 : Sto} {d : Nat} {b : Bool} {x0 x1 : Int32} {v : Int32} (h0 : S.1[0]? = some (xObj b)) {g : Nat → Int64} (ho : S1.1[134]? = some (aJ 1 g)) (hm : MetA scr l d M_Pr_step [.ref 0, .int x0, .int x1] S (.inl (some (.int v)), S1)) : MetA scr l (d + 1) M_Lw_step [.ref 0, .int x0, .int x1, .ref 134] S (.inl (some (.int (nI 0))), S1.put 134 (aJ 1 (vp_updL g 0 v.toInt64))) := by
  refine MetA.ofH (by decide) (by decide +kernel) (Nat.le_of_ble_eq_true rfl) ?_
  refine ev_aload_n i_Lw_step_0 rfl ?_
  refine ev_iconstN (v := 0) i_Lw_step_1 (by decide) ?_
  refine ev_aload_n i_Lw_step_2 rfl ?_
  refine ev_iload_n i_Lw_step_3 rfl ?_
  refine ev_iload_n i_Lw_step_4 rfl ?_
  refine ev_callV2 i_Lw_step_5 rfl h0 (Nat.le_of_ble_eq_true rfl) hm ?_
  refine ev_i2l i_Lw_step_8 ?_
  refine ev_lastN i_Lw_step_9 ho (by decide) (by decide) ?_
  refine ev_goto i_Lw_step_10 ?_
  refine ev_iconstN (v := 0) i_Lw_step_21 (by decide) ?_
  exact ev_iret i_Lw_step_22 rfl (by first | rfl | decide)
theorem lw_step_1 {scr : Scr} {l : Launch} {S S1 : Sto} {d : Nat} {b : Bool} {x0 x1 : Int32} (h0 : S.1[0]? = some (xObj b)) (hm : MetA scr l d M_Pr_step [.ref 0, .int x0, .int x1] S (.inr "java/lang/IndexOutOfBoundsException", S1)) : MetA scr l (d + 1) M_Lw_step [.ref 0, .int x0, .int x1, .ref 134] S (.inl (some (.int (nI 1))), S1) := by
  refine MetA.ofH (by decide) (by decide +kernel) (Nat.le_of_ble_eq_true rfl) ?_
  refine ev_aload_n i_Lw_step_0 rfl ?_
  refine ev_iconstN (v := 0) i_Lw_step_1 (by decide) ?_
  refine ev_aload_n i_Lw_step_2 rfl ?_
  refine ev_iload_n i_Lw_step_3 rfl ?_
  refine ev_iload_n i_Lw_step_4 rfl ?_
  refine ev_callVc2 i_Lw_step_5 rfl h0 (Nat.le_of_ble_eq_true rfl) hm ct_Lw_step_1 ?_
  refine ev_astQ i_Lw_step_13 (Nat.le_of_ble_eq_true rfl) ?_
  refine ev_iconstN (v := 1) i_Lw_step_15 (by decide) ?_
  exact ev_iret i_Lw_step_16 rfl (by first | rfl | decide)
theorem lw_step_2 {scr : Scr} {l : Launch} {S S1 : Sto} {d : Nat} {b : Bool} {x0 x1 : Int32} (h0 : S.1[0]? = some (xObj b)) (hm : MetA scr l d M_Pr_step [.ref 0, .int x0, .int x1] S (.inr "java/lang/IllegalStateException", S1)) : MetA scr l (d + 1) M_Lw_step [.ref 0, .int x0, .int x1, .ref 134] S (.inl (some (.int (nI 2))), S1) := by
  refine MetA.ofH (by decide) (by decide +kernel) (Nat.le_of_ble_eq_true rfl) ?_
  refine ev_aload_n i_Lw_step_0 rfl ?_
  refine ev_iconstN (v := 0) i_Lw_step_1 (by decide) ?_
  refine ev_aload_n i_Lw_step_2 rfl ?_
  refine ev_iload_n i_Lw_step_3 rfl ?_
  refine ev_iload_n i_Lw_step_4 rfl ?_
  refine ev_callVc2 i_Lw_step_5 rfl h0 (Nat.le_of_ble_eq_true rfl) hm ct_Lw_step_2 ?_
  refine ev_astQ i_Lw_step_17 (Nat.le_of_ble_eq_true rfl) ?_
  refine ev_iconstN (v := 2) i_Lw_step_19 (by decide) ?_
  exact ev_iret i_Lw_step_20 rfl (by first | rfl | decide)
theorem lw_lengthAfter {scr : Scr} {l : Launch} {S S1 : Sto} {d : Nat} {b : Bool} {x0 x1 : Int32} {v : Int64} (h0 : S.1[0]? = some (xObj b)) {g : Nat → Int64} (ho : S1.1[134]? = some (aJ 1 g)) (hm : MetA scr l d M_Pr_lengthAfter [.ref 0, .int x0, .int x1] S (.inl (some (.long v)), S1)) : MetA scr l (d + 1) M_Lw_lengthAfter [.ref 0, .int x0, .int x1, .ref 134] S (.inl (some (.int (nI 0))), S1.put 134 (aJ 1 (vp_updL g 0 v))) := by
  refine MetA.ofH (by decide) (by decide +kernel) (Nat.le_of_ble_eq_true rfl) ?_
  refine ev_aload_n i_Lw_lengthAfter_0 rfl ?_
  refine ev_iconstN (v := 0) i_Lw_lengthAfter_1 (by decide) ?_
  refine ev_aload_n i_Lw_lengthAfter_2 rfl ?_
  refine ev_iload_n i_Lw_lengthAfter_3 rfl ?_
  refine ev_iload_n i_Lw_lengthAfter_4 rfl ?_
  refine ev_callV2 i_Lw_lengthAfter_5 rfl h0 (Nat.le_of_ble_eq_true rfl) hm ?_
  refine ev_lastN i_Lw_lengthAfter_8 ho (by decide) (by decide) ?_
  refine ev_goto i_Lw_lengthAfter_9 ?_
  refine ev_iconstN (v := 0) i_Lw_lengthAfter_28 (by decide) ?_
  exact ev_iret i_Lw_lengthAfter_29 rfl (by first | rfl | decide)
theorem lw_lengthAfter_1 {scr : Scr} {l : Launch} {S S1 : Sto} {d : Nat} {b : Bool} {x0 x1 : Int32} (h0 : S.1[0]? = some (xObj b)) (hm : MetA scr l d M_Pr_lengthAfter [.ref 0, .int x0, .int x1] S (.inr "java/lang/IndexOutOfBoundsException", S1)) : MetA scr l (d + 1) M_Lw_lengthAfter [.ref 0, .int x0, .int x1, .ref 134] S (.inl (some (.int (nI 1))), S1) := by
  refine MetA.ofH (by decide) (by decide +kernel) (Nat.le_of_ble_eq_true rfl) ?_
  refine ev_aload_n i_Lw_lengthAfter_0 rfl ?_
  refine ev_iconstN (v := 0) i_Lw_lengthAfter_1 (by decide) ?_
  refine ev_aload_n i_Lw_lengthAfter_2 rfl ?_
  refine ev_iload_n i_Lw_lengthAfter_3 rfl ?_
  refine ev_iload_n i_Lw_lengthAfter_4 rfl ?_
  refine ev_callVc2 i_Lw_lengthAfter_5 rfl h0 (Nat.le_of_ble_eq_true rfl) hm ct_Lw_lengthAfter_1 ?_
  refine ev_astQ i_Lw_lengthAfter_12 (Nat.le_of_ble_eq_true rfl) ?_
  refine ev_iconstN (v := 1) i_Lw_lengthAfter_14 (by decide) ?_
  exact ev_iret i_Lw_lengthAfter_15 rfl (by first | rfl | decide)
theorem lw_lengthAfter_2 {scr : Scr} {l : Launch} {S S1 : Sto} {d : Nat} {b : Bool} {x0 x1 : Int32} (h0 : S.1[0]? = some (xObj b)) (hm : MetA scr l d M_Pr_lengthAfter [.ref 0, .int x0, .int x1] S (.inr "java/lang/IllegalArgumentException", S1)) : MetA scr l (d + 1) M_Lw_lengthAfter [.ref 0, .int x0, .int x1, .ref 134] S (.inl (some (.int (nI 2))), S1) := by
  refine MetA.ofH (by decide) (by decide +kernel) (Nat.le_of_ble_eq_true rfl) ?_
  refine ev_aload_n i_Lw_lengthAfter_0 rfl ?_
  refine ev_iconstN (v := 0) i_Lw_lengthAfter_1 (by decide) ?_
  refine ev_aload_n i_Lw_lengthAfter_2 rfl ?_
  refine ev_iload_n i_Lw_lengthAfter_3 rfl ?_
  refine ev_iload_n i_Lw_lengthAfter_4 rfl ?_
  refine ev_callVc2 i_Lw_lengthAfter_5 rfl h0 (Nat.le_of_ble_eq_true rfl) hm ct_Lw_lengthAfter_2 ?_
  refine ev_astQ i_Lw_lengthAfter_16 (Nat.le_of_ble_eq_true rfl) ?_
  refine ev_iconstN (v := 2) i_Lw_lengthAfter_18 (by decide) ?_
  exact ev_iret i_Lw_lengthAfter_19 rfl (by first | rfl | decide)
theorem lw_lengthAfter_3 {scr : Scr} {l : Launch} {S S1 : Sto} {d : Nat} {b : Bool} {x0 x1 : Int32} (h0 : S.1[0]? = some (xObj b)) (hm : MetA scr l d M_Pr_lengthAfter [.ref 0, .int x0, .int x1] S (.inr "java/lang/IllegalStateException", S1)) : MetA scr l (d + 1) M_Lw_lengthAfter [.ref 0, .int x0, .int x1, .ref 134] S (.inl (some (.int (nI 3))), S1) := by
  refine MetA.ofH (by decide) (by decide +kernel) (Nat.le_of_ble_eq_true rfl) ?_
  refine ev_aload_n i_Lw_lengthAfter_0 rfl ?_
  refine ev_iconstN (v := 0) i_Lw_lengthAfter_1 (by decide) ?_
  refine ev_aload_n i_Lw_lengthAfter_2 rfl ?_
  refine ev_iload_n i_Lw_lengthAfter_3 rfl ?_
  refine ev_iload_n i_Lw_lengthAfter_4 rfl ?_
  refine ev_callVc2 i_Lw_lengthAfter_5 rfl h0 (Nat.le_of_ble_eq_true rfl) hm ct_Lw_lengthAfter_3 ?_
  refine ev_astQ i_Lw_lengthAfter_20 (Nat.le_of_ble_eq_true rfl) ?_
  refine ev_iconstN (v := 3) i_Lw_lengthAfter_22 (by decide) ?_
  exact ev_iret i_Lw_lengthAfter_23 rfl (by first | rfl | decide)
theorem lw_lengthAfter_4 {scr : Scr} {l : Launch} {S S1 : Sto} {d : Nat} {b : Bool} {x0 x1 : Int32} (h0 : S.1[0]? = some (xObj b)) (hm : MetA scr l d M_Pr_lengthAfter [.ref 0, .int x0, .int x1] S (.inr "java/lang/ArithmeticException", S1)) : MetA scr l (d + 1) M_Lw_lengthAfter [.ref 0, .int x0, .int x1, .ref 134] S (.inl (some (.int (nI 4))), S1) := by
  refine MetA.ofH (by decide) (by decide +kernel) (Nat.le_of_ble_eq_true rfl) ?_
  refine ev_aload_n i_Lw_lengthAfter_0 rfl ?_
  refine ev_iconstN (v := 0) i_Lw_lengthAfter_1 (by decide) ?_
  refine ev_aload_n i_Lw_lengthAfter_2 rfl ?_
  refine ev_iload_n i_Lw_lengthAfter_3 rfl ?_
  refine ev_iload_n i_Lw_lengthAfter_4 rfl ?_
  refine ev_callVc2 i_Lw_lengthAfter_5 rfl h0 (Nat.le_of_ble_eq_true rfl) hm ct_Lw_lengthAfter_4 ?_
  refine ev_astQ i_Lw_lengthAfter_24 (Nat.le_of_ble_eq_true rfl) ?_
  refine ev_iconstN (v := 4) i_Lw_lengthAfter_26 (by decide) ?_
  exact ev_iret i_Lw_lengthAfter_27 rfl (by first | rfl | decide)
theorem lw_countAfter {scr : Scr} {l : Launch} {S S1 : Sto} {d : Nat} {b : Bool} {x0 x1 x2 : Int32} {v : Int64} (h0 : S.1[0]? = some (xObj b)) {g : Nat → Int64} (ho : S1.1[134]? = some (aJ 1 g)) (hm : MetA scr l d M_Pr_countAfter [.ref 0, .int x0, .int x1, .int x2] S (.inl (some (.long v)), S1)) : MetA scr l (d + 1) M_Lw_countAfter [.ref 0, .int x0, .int x1, .int x2, .ref 134] S (.inl (some (.int (nI 0))), S1.put 134 (aJ 1 (vp_updL g 0 v))) := by
  refine MetA.ofH (by decide) (by decide +kernel) (Nat.le_of_ble_eq_true rfl) ?_
  refine ev_aload i_Lw_countAfter_0 rfl ?_
  refine ev_iconstN (v := 0) i_Lw_countAfter_2 (by decide) ?_
  refine ev_aload_n i_Lw_countAfter_3 rfl ?_
  refine ev_iload_n i_Lw_countAfter_4 rfl ?_
  refine ev_iload_n i_Lw_countAfter_5 rfl ?_
  refine ev_iload_n i_Lw_countAfter_6 rfl ?_
  refine ev_callV3 i_Lw_countAfter_7 rfl h0 (Nat.le_of_ble_eq_true rfl) hm ?_
  refine ev_lastN i_Lw_countAfter_10 ho (by decide) (by decide) ?_
  refine ev_goto i_Lw_countAfter_11 ?_
  refine ev_iconstN (v := 0) i_Lw_countAfter_30 (by decide) ?_
  exact ev_iret i_Lw_countAfter_31 rfl (by first | rfl | decide)
theorem lw_countAfter_1 {scr : Scr} {l : Launch} {S S1 : Sto} {d : Nat} {b : Bool} {x0 x1 x2 : Int32} (h0 : S.1[0]? = some (xObj b)) (hm : MetA scr l d M_Pr_countAfter [.ref 0, .int x0, .int x1, .int x2] S (.inr "java/lang/IndexOutOfBoundsException", S1)) : MetA scr l (d + 1) M_Lw_countAfter [.ref 0, .int x0, .int x1, .int x2, .ref 134] S (.inl (some (.int (nI 1))), S1) := by
  refine MetA.ofH (by decide) (by decide +kernel) (Nat.le_of_ble_eq_true rfl) ?_
  refine ev_aload i_Lw_countAfter_0 rfl ?_
  refine ev_iconstN (v := 0) i_Lw_countAfter_2 (by decide) ?_
  refine ev_aload_n i_Lw_countAfter_3 rfl ?_
  refine ev_iload_n i_Lw_countAfter_4 rfl ?_
  refine ev_iload_n i_Lw_countAfter_5 rfl ?_
  refine ev_iload_n i_Lw_countAfter_6 rfl ?_
  refine ev_callVc3 i_Lw_countAfter_7 rfl h0 (Nat.le_of_ble_eq_true rfl) hm ct_Lw_countAfter_1 ?_
  refine ev_astQ i_Lw_countAfter_14 (Nat.le_of_ble_eq_true rfl) ?_
  refine ev_iconstN (v := 1) i_Lw_countAfter_16 (by decide) ?_
  exact ev_iret i_Lw_countAfter_17 rfl (by first | rfl | decide)
theorem lw_countAfter_2 {scr : Scr} {l : Launch} {S S1 : Sto} {d : Nat} {b : Bool} {x0 x1 x2 : Int32} (h0 : S.1[0]? = some (xObj b)) (hm : MetA scr l d M_Pr_countAfter [.ref 0, .int x0, .int x1, .int x2] S (.inr "java/lang/IllegalArgumentException", S1)) : MetA scr l (d + 1) M_Lw_countAfter [.ref 0, .int x0, .int x1, .int x2, .ref 134] S (.inl (some (.int (nI 2))), S1) := by
  refine MetA.ofH (by decide) (by decide +kernel) (Nat.le_of_ble_eq_true rfl) ?_
  refine ev_aload i_Lw_countAfter_0 rfl ?_
  refine ev_iconstN (v := 0) i_Lw_countAfter_2 (by decide) ?_
  refine ev_aload_n i_Lw_countAfter_3 rfl ?_
  refine ev_iload_n i_Lw_countAfter_4 rfl ?_
  refine ev_iload_n i_Lw_countAfter_5 rfl ?_
  refine ev_iload_n i_Lw_countAfter_6 rfl ?_
  refine ev_callVc3 i_Lw_countAfter_7 rfl h0 (Nat.le_of_ble_eq_true rfl) hm ct_Lw_countAfter_2 ?_
  refine ev_astQ i_Lw_countAfter_18 (Nat.le_of_ble_eq_true rfl) ?_
  refine ev_iconstN (v := 2) i_Lw_countAfter_20 (by decide) ?_
  exact ev_iret i_Lw_countAfter_21 rfl (by first | rfl | decide)
theorem lw_countAfter_3 {scr : Scr} {l : Launch} {S S1 : Sto} {d : Nat} {b : Bool} {x0 x1 x2 : Int32} (h0 : S.1[0]? = some (xObj b)) (hm : MetA scr l d M_Pr_countAfter [.ref 0, .int x0, .int x1, .int x2] S (.inr "java/lang/IllegalStateException", S1)) : MetA scr l (d + 1) M_Lw_countAfter [.ref 0, .int x0, .int x1, .int x2, .ref 134] S (.inl (some (.int (nI 3))), S1) := by
  refine MetA.ofH (by decide) (by decide +kernel) (Nat.le_of_ble_eq_true rfl) ?_
  refine ev_aload i_Lw_countAfter_0 rfl ?_
  refine ev_iconstN (v := 0) i_Lw_countAfter_2 (by decide) ?_
  refine ev_aload_n i_Lw_countAfter_3 rfl ?_
  refine ev_iload_n i_Lw_countAfter_4 rfl ?_
  refine ev_iload_n i_Lw_countAfter_5 rfl ?_
  refine ev_iload_n i_Lw_countAfter_6 rfl ?_
  refine ev_callVc3 i_Lw_countAfter_7 rfl h0 (Nat.le_of_ble_eq_true rfl) hm ct_Lw_countAfter_3 ?_
  refine ev_astQ i_Lw_countAfter_22 (Nat.le_of_ble_eq_true rfl) ?_
  refine ev_iconstN (v := 3) i_Lw_countAfter_24 (by decide) ?_
  exact ev_iret i_Lw_countAfter_25 rfl (by first | rfl | decide)
theorem lw_countAfter_4 {scr : Scr} {l : Launch} {S S1 : Sto} {d : Nat} {b : Bool} {x0 x1 x2 : Int32} (h0 : S.1[0]? = some (xObj b)) (hm : MetA scr l d M_Pr_countAfter [.ref 0, .int x0, .int x1, .int x2] S (.inr "java/lang/ArithmeticException", S1)) : MetA scr l (d + 1) M_Lw_countAfter [.ref 0, .int x0, .int x1, .int x2, .ref 134] S (.inl (some (.int (nI 4))), S1) := by
  refine MetA.ofH (by decide) (by decide +kernel) (Nat.le_of_ble_eq_true rfl) ?_
  refine ev_aload i_Lw_countAfter_0 rfl ?_
  refine ev_iconstN (v := 0) i_Lw_countAfter_2 (by decide) ?_
  refine ev_aload_n i_Lw_countAfter_3 rfl ?_
  refine ev_iload_n i_Lw_countAfter_4 rfl ?_
  refine ev_iload_n i_Lw_countAfter_5 rfl ?_
  refine ev_iload_n i_Lw_countAfter_6 rfl ?_
  refine ev_callVc3 i_Lw_countAfter_7 rfl h0 (Nat.le_of_ble_eq_true rfl) hm ct_Lw_countAfter_4 ?_
  refine ev_astQ i_Lw_countAfter_26 (Nat.le_of_ble_eq_true rfl) ?_
  refine ev_iconstN (v := 4) i_Lw_countAfter_28 (by decide) ?_
  exact ev_iret i_Lw_countAfter_29 rfl (by first | rfl | decide)
theorem lw_growthKind {scr : Scr} {l : Launch} {S S1 : Sto} {d : Nat} {b : Bool} {x0 : Int32} {v : Int32} (h0 : S.1[0]? = some (xObj b)) {g : Nat → Int64} (ho : S1.1[134]? = some (aJ 1 g)) (hm : MetA scr l d M_Pr_growthKind [.ref 0, .int x0] S (.inl (some (.int v)), S1)) : MetA scr l (d + 1) M_Lw_growthKind [.ref 0, .int x0, .ref 134] S (.inl (some (.int (nI 0))), S1.put 134 (aJ 1 (vp_updL g 0 v.toInt64))) := by
  refine MetA.ofH (by decide) (by decide +kernel) (Nat.le_of_ble_eq_true rfl) ?_
  refine ev_aload_n i_Lw_growthKind_0 rfl ?_
  refine ev_iconstN (v := 0) i_Lw_growthKind_1 (by decide) ?_
  refine ev_aload_n i_Lw_growthKind_2 rfl ?_
  refine ev_iload_n i_Lw_growthKind_3 rfl ?_
  refine ev_callV1 i_Lw_growthKind_4 rfl h0 (Nat.le_of_ble_eq_true rfl) hm ?_
  refine ev_i2l i_Lw_growthKind_7 ?_
  refine ev_lastN i_Lw_growthKind_8 ho (by decide) (by decide) ?_
  refine ev_goto i_Lw_growthKind_9 ?_
  refine ev_iconstN (v := 0) i_Lw_growthKind_18 (by decide) ?_
  exact ev_iret i_Lw_growthKind_19 rfl (by first | rfl | decide)
theorem lw_growthKind_1 {scr : Scr} {l : Launch} {S S1 : Sto} {d : Nat} {b : Bool} {x0 : Int32} (h0 : S.1[0]? = some (xObj b)) (hm : MetA scr l d M_Pr_growthKind [.ref 0, .int x0] S (.inr "java/lang/IndexOutOfBoundsException", S1)) : MetA scr l (d + 1) M_Lw_growthKind [.ref 0, .int x0, .ref 134] S (.inl (some (.int (nI 1))), S1) := by
  refine MetA.ofH (by decide) (by decide +kernel) (Nat.le_of_ble_eq_true rfl) ?_
  refine ev_aload_n i_Lw_growthKind_0 rfl ?_
  refine ev_iconstN (v := 0) i_Lw_growthKind_1 (by decide) ?_
  refine ev_aload_n i_Lw_growthKind_2 rfl ?_
  refine ev_iload_n i_Lw_growthKind_3 rfl ?_
  refine ev_callVc1 i_Lw_growthKind_4 rfl h0 (Nat.le_of_ble_eq_true rfl) hm ct_Lw_growthKind_1 ?_
  refine ev_astQ_n i_Lw_growthKind_12 (Nat.le_of_ble_eq_true rfl) ?_
  refine ev_iconstN (v := 1) i_Lw_growthKind_13 (by decide) ?_
  exact ev_iret i_Lw_growthKind_14 rfl (by first | rfl | decide)
theorem lw_growthKind_2 {scr : Scr} {l : Launch} {S S1 : Sto} {d : Nat} {b : Bool} {x0 : Int32} (h0 : S.1[0]? = some (xObj b)) (hm : MetA scr l d M_Pr_growthKind [.ref 0, .int x0] S (.inr "java/lang/IllegalStateException", S1)) : MetA scr l (d + 1) M_Lw_growthKind [.ref 0, .int x0, .ref 134] S (.inl (some (.int (nI 2))), S1) := by
  refine MetA.ofH (by decide) (by decide +kernel) (Nat.le_of_ble_eq_true rfl) ?_
  refine ev_aload_n i_Lw_growthKind_0 rfl ?_
  refine ev_iconstN (v := 0) i_Lw_growthKind_1 (by decide) ?_
  refine ev_aload_n i_Lw_growthKind_2 rfl ?_
  refine ev_iload_n i_Lw_growthKind_3 rfl ?_
  refine ev_callVc1 i_Lw_growthKind_4 rfl h0 (Nat.le_of_ble_eq_true rfl) hm ct_Lw_growthKind_2 ?_
  refine ev_astQ_n i_Lw_growthKind_15 (Nat.le_of_ble_eq_true rfl) ?_
  refine ev_iconstN (v := 2) i_Lw_growthKind_16 (by decide) ?_
  exact ev_iret i_Lw_growthKind_17 rfl (by first | rfl | decide)
theorem lw_growthDegree {scr : Scr} {l : Launch} {S S1 : Sto} {d : Nat} {b : Bool} {x0 : Int32} {v : Int32} (h0 : S.1[0]? = some (xObj b)) {g : Nat → Int64} (ho : S1.1[134]? = some (aJ 1 g)) (hm : MetA scr l d M_Pr_growthDegree [.ref 0, .int x0] S (.inl (some (.int v)), S1)) : MetA scr l (d + 1) M_Lw_growthDegree [.ref 0, .int x0, .ref 134] S (.inl (some (.int (nI 0))), S1.put 134 (aJ 1 (vp_updL g 0 v.toInt64))) := by
  refine MetA.ofH (by decide) (by decide +kernel) (Nat.le_of_ble_eq_true rfl) ?_
  refine ev_aload_n i_Lw_growthDegree_0 rfl ?_
  refine ev_iconstN (v := 0) i_Lw_growthDegree_1 (by decide) ?_
  refine ev_aload_n i_Lw_growthDegree_2 rfl ?_
  refine ev_iload_n i_Lw_growthDegree_3 rfl ?_
  refine ev_callV1 i_Lw_growthDegree_4 rfl h0 (Nat.le_of_ble_eq_true rfl) hm ?_
  refine ev_i2l i_Lw_growthDegree_7 ?_
  refine ev_lastN i_Lw_growthDegree_8 ho (by decide) (by decide) ?_
  refine ev_goto i_Lw_growthDegree_9 ?_
  refine ev_iconstN (v := 0) i_Lw_growthDegree_21 (by decide) ?_
  exact ev_iret i_Lw_growthDegree_22 rfl (by first | rfl | decide)
theorem lw_growthDegree_1 {scr : Scr} {l : Launch} {S S1 : Sto} {d : Nat} {b : Bool} {x0 : Int32} (h0 : S.1[0]? = some (xObj b)) (hm : MetA scr l d M_Pr_growthDegree [.ref 0, .int x0] S (.inr "java/lang/IndexOutOfBoundsException", S1)) : MetA scr l (d + 1) M_Lw_growthDegree [.ref 0, .int x0, .ref 134] S (.inl (some (.int (nI 1))), S1) := by
  refine MetA.ofH (by decide) (by decide +kernel) (Nat.le_of_ble_eq_true rfl) ?_
  refine ev_aload_n i_Lw_growthDegree_0 rfl ?_
  refine ev_iconstN (v := 0) i_Lw_growthDegree_1 (by decide) ?_
  refine ev_aload_n i_Lw_growthDegree_2 rfl ?_
  refine ev_iload_n i_Lw_growthDegree_3 rfl ?_
  refine ev_callVc1 i_Lw_growthDegree_4 rfl h0 (Nat.le_of_ble_eq_true rfl) hm ct_Lw_growthDegree_1 ?_
  refine ev_astQ_n i_Lw_growthDegree_12 (Nat.le_of_ble_eq_true rfl) ?_
  refine ev_iconstN (v := 1) i_Lw_growthDegree_13 (by decide) ?_
  exact ev_iret i_Lw_growthDegree_14 rfl (by first | rfl | decide)
theorem lw_growthDegree_2 {scr : Scr} {l : Launch} {S S1 : Sto} {d : Nat} {b : Bool} {x0 : Int32} (h0 : S.1[0]? = some (xObj b)) (hm : MetA scr l d M_Pr_growthDegree [.ref 0, .int x0] S (.inr "java/lang/IllegalStateException", S1)) : MetA scr l (d + 1) M_Lw_growthDegree [.ref 0, .int x0, .ref 134] S (.inl (some (.int (nI 2))), S1) := by
  refine MetA.ofH (by decide) (by decide +kernel) (Nat.le_of_ble_eq_true rfl) ?_
  refine ev_aload_n i_Lw_growthDegree_0 rfl ?_
  refine ev_iconstN (v := 0) i_Lw_growthDegree_1 (by decide) ?_
  refine ev_aload_n i_Lw_growthDegree_2 rfl ?_
  refine ev_iload_n i_Lw_growthDegree_3 rfl ?_
  refine ev_callVc1 i_Lw_growthDegree_4 rfl h0 (Nat.le_of_ble_eq_true rfl) hm ct_Lw_growthDegree_2 ?_
  refine ev_astQ_n i_Lw_growthDegree_15 (Nat.le_of_ble_eq_true rfl) ?_
  refine ev_iconstN (v := 2) i_Lw_growthDegree_16 (by decide) ?_
  exact ev_iret i_Lw_growthDegree_17 rfl (by first | rfl | decide)
theorem lw_growthDegree_3 {scr : Scr} {l : Launch} {S S1 : Sto} {d : Nat} {b : Bool} {x0 : Int32} (h0 : S.1[0]? = some (xObj b)) (hm : MetA scr l d M_Pr_growthDegree [.ref 0, .int x0] S (.inr "java/lang/ArithmeticException", S1)) : MetA scr l (d + 1) M_Lw_growthDegree [.ref 0, .int x0, .ref 134] S (.inl (some (.int (nI 3))), S1) := by
  refine MetA.ofH (by decide) (by decide +kernel) (Nat.le_of_ble_eq_true rfl) ?_
  refine ev_aload_n i_Lw_growthDegree_0 rfl ?_
  refine ev_iconstN (v := 0) i_Lw_growthDegree_1 (by decide) ?_
  refine ev_aload_n i_Lw_growthDegree_2 rfl ?_
  refine ev_iload_n i_Lw_growthDegree_3 rfl ?_
  refine ev_callVc1 i_Lw_growthDegree_4 rfl h0 (Nat.le_of_ble_eq_true rfl) hm ct_Lw_growthDegree_3 ?_
  refine ev_astQ_n i_Lw_growthDegree_18 (Nat.le_of_ble_eq_true rfl) ?_
  refine ev_iconstN (v := 3) i_Lw_growthDegree_19 (by decide) ?_
  exact ev_iret i_Lw_growthDegree_20 rfl (by first | rfl | decide)
theorem lw_recurrenceOrder {scr : Scr} {l : Launch} {S S1 : Sto} {d : Nat} {b : Bool} {x0 : Int32} {v : Int32} (h0 : S.1[0]? = some (xObj b)) {g : Nat → Int64} (ho : S1.1[134]? = some (aJ 1 g)) (hm : MetA scr l d M_Pr_recurrenceOrder [.ref 0, .int x0] S (.inl (some (.int v)), S1)) : MetA scr l (d + 1) M_Lw_recurrenceOrder [.ref 0, .int x0, .ref 134] S (.inl (some (.int (nI 0))), S1.put 134 (aJ 1 (vp_updL g 0 v.toInt64))) := by
  refine MetA.ofH (by decide) (by decide +kernel) (Nat.le_of_ble_eq_true rfl) ?_
  refine ev_aload_n i_Lw_recurrenceOrder_0 rfl ?_
  refine ev_iconstN (v := 0) i_Lw_recurrenceOrder_1 (by decide) ?_
  refine ev_aload_n i_Lw_recurrenceOrder_2 rfl ?_
  refine ev_iload_n i_Lw_recurrenceOrder_3 rfl ?_
  refine ev_callV1 i_Lw_recurrenceOrder_4 rfl h0 (Nat.le_of_ble_eq_true rfl) hm ?_
  refine ev_i2l i_Lw_recurrenceOrder_7 ?_
  refine ev_lastN i_Lw_recurrenceOrder_8 ho (by decide) (by decide) ?_
  refine ev_goto i_Lw_recurrenceOrder_9 ?_
  refine ev_iconstN (v := 0) i_Lw_recurrenceOrder_18 (by decide) ?_
  exact ev_iret i_Lw_recurrenceOrder_19 rfl (by first | rfl | decide)
theorem lw_recurrenceOrder_1 {scr : Scr} {l : Launch} {S S1 : Sto} {d : Nat} {b : Bool} {x0 : Int32} (h0 : S.1[0]? = some (xObj b)) (hm : MetA scr l d M_Pr_recurrenceOrder [.ref 0, .int x0] S (.inr "java/lang/IndexOutOfBoundsException", S1)) : MetA scr l (d + 1) M_Lw_recurrenceOrder [.ref 0, .int x0, .ref 134] S (.inl (some (.int (nI 1))), S1) := by
  refine MetA.ofH (by decide) (by decide +kernel) (Nat.le_of_ble_eq_true rfl) ?_
  refine ev_aload_n i_Lw_recurrenceOrder_0 rfl ?_
  refine ev_iconstN (v := 0) i_Lw_recurrenceOrder_1 (by decide) ?_
  refine ev_aload_n i_Lw_recurrenceOrder_2 rfl ?_
  refine ev_iload_n i_Lw_recurrenceOrder_3 rfl ?_
  refine ev_callVc1 i_Lw_recurrenceOrder_4 rfl h0 (Nat.le_of_ble_eq_true rfl) hm ct_Lw_recurrenceOrder_1 ?_
  refine ev_astQ_n i_Lw_recurrenceOrder_12 (Nat.le_of_ble_eq_true rfl) ?_
  refine ev_iconstN (v := 1) i_Lw_recurrenceOrder_13 (by decide) ?_
  exact ev_iret i_Lw_recurrenceOrder_14 rfl (by first | rfl | decide)
theorem lw_recurrenceOrder_2 {scr : Scr} {l : Launch} {S S1 : Sto} {d : Nat} {b : Bool} {x0 : Int32} (h0 : S.1[0]? = some (xObj b)) (hm : MetA scr l d M_Pr_recurrenceOrder [.ref 0, .int x0] S (.inr "java/lang/IllegalStateException", S1)) : MetA scr l (d + 1) M_Lw_recurrenceOrder [.ref 0, .int x0, .ref 134] S (.inl (some (.int (nI 2))), S1) := by
  refine MetA.ofH (by decide) (by decide +kernel) (Nat.le_of_ble_eq_true rfl) ?_
  refine ev_aload_n i_Lw_recurrenceOrder_0 rfl ?_
  refine ev_iconstN (v := 0) i_Lw_recurrenceOrder_1 (by decide) ?_
  refine ev_aload_n i_Lw_recurrenceOrder_2 rfl ?_
  refine ev_iload_n i_Lw_recurrenceOrder_3 rfl ?_
  refine ev_callVc1 i_Lw_recurrenceOrder_4 rfl h0 (Nat.le_of_ble_eq_true rfl) hm ct_Lw_recurrenceOrder_2 ?_
  refine ev_astQ_n i_Lw_recurrenceOrder_15 (Nat.le_of_ble_eq_true rfl) ?_
  refine ev_iconstN (v := 2) i_Lw_recurrenceOrder_16 (by decide) ?_
  exact ev_iret i_Lw_recurrenceOrder_17 rfl (by first | rfl | decide)
theorem lw_recurrenceCoefficient {scr : Scr} {l : Launch} {S S1 : Sto} {d : Nat} {b : Bool} {x0 x1 : Int32} {v : Int32} (h0 : S.1[0]? = some (xObj b)) {g : Nat → Int64} (ho : S1.1[134]? = some (aJ 1 g)) (hm : MetA scr l d M_Pr_recurrenceCoefficient [.ref 0, .int x0, .int x1] S (.inl (some (.int v)), S1)) : MetA scr l (d + 1) M_Lw_recurrenceCoefficient [.ref 0, .int x0, .int x1, .ref 134] S (.inl (some (.int (nI 0))), S1.put 134 (aJ 1 (vp_updL g 0 v.toInt64))) := by
  refine MetA.ofH (by decide) (by decide +kernel) (Nat.le_of_ble_eq_true rfl) ?_
  refine ev_aload_n i_Lw_recurrenceCoefficient_0 rfl ?_
  refine ev_iconstN (v := 0) i_Lw_recurrenceCoefficient_1 (by decide) ?_
  refine ev_aload_n i_Lw_recurrenceCoefficient_2 rfl ?_
  refine ev_iload_n i_Lw_recurrenceCoefficient_3 rfl ?_
  refine ev_iload_n i_Lw_recurrenceCoefficient_4 rfl ?_
  refine ev_callV2 i_Lw_recurrenceCoefficient_5 rfl h0 (Nat.le_of_ble_eq_true rfl) hm ?_
  refine ev_i2l i_Lw_recurrenceCoefficient_8 ?_
  refine ev_lastN i_Lw_recurrenceCoefficient_9 ho (by decide) (by decide) ?_
  refine ev_goto i_Lw_recurrenceCoefficient_10 ?_
  refine ev_iconstN (v := 0) i_Lw_recurrenceCoefficient_25 (by decide) ?_
  exact ev_iret i_Lw_recurrenceCoefficient_26 rfl (by first | rfl | decide)
theorem lw_recurrenceCoefficient_1 {scr : Scr} {l : Launch} {S S1 : Sto} {d : Nat} {b : Bool} {x0 x1 : Int32} (h0 : S.1[0]? = some (xObj b)) (hm : MetA scr l d M_Pr_recurrenceCoefficient [.ref 0, .int x0, .int x1] S (.inr "java/lang/IndexOutOfBoundsException", S1)) : MetA scr l (d + 1) M_Lw_recurrenceCoefficient [.ref 0, .int x0, .int x1, .ref 134] S (.inl (some (.int (nI 1))), S1) := by
  refine MetA.ofH (by decide) (by decide +kernel) (Nat.le_of_ble_eq_true rfl) ?_
  refine ev_aload_n i_Lw_recurrenceCoefficient_0 rfl ?_
  refine ev_iconstN (v := 0) i_Lw_recurrenceCoefficient_1 (by decide) ?_
  refine ev_aload_n i_Lw_recurrenceCoefficient_2 rfl ?_
  refine ev_iload_n i_Lw_recurrenceCoefficient_3 rfl ?_
  refine ev_iload_n i_Lw_recurrenceCoefficient_4 rfl ?_
  refine ev_callVc2 i_Lw_recurrenceCoefficient_5 rfl h0 (Nat.le_of_ble_eq_true rfl) hm ct_Lw_recurrenceCoefficient_1 ?_
  refine ev_astQ i_Lw_recurrenceCoefficient_13 (Nat.le_of_ble_eq_true rfl) ?_
  refine ev_iconstN (v := 1) i_Lw_recurrenceCoefficient_15 (by decide) ?_
  exact ev_iret i_Lw_recurrenceCoefficient_16 rfl (by first | rfl | decide)
theorem lw_recurrenceCoefficient_2 {scr : Scr} {l : Launch} {S S1 : Sto} {d : Nat} {b : Bool} {x0 x1 : Int32} (h0 : S.1[0]? = some (xObj b)) (hm : MetA scr l d M_Pr_recurrenceCoefficient [.ref 0, .int x0, .int x1] S (.inr "java/lang/IllegalStateException", S1)) : MetA scr l (d + 1) M_Lw_recurrenceCoefficient [.ref 0, .int x0, .int x1, .ref 134] S (.inl (some (.int (nI 2))), S1) := by
  refine MetA.ofH (by decide) (by decide +kernel) (Nat.le_of_ble_eq_true rfl) ?_
  refine ev_aload_n i_Lw_recurrenceCoefficient_0 rfl ?_
  refine ev_iconstN (v := 0) i_Lw_recurrenceCoefficient_1 (by decide) ?_
  refine ev_aload_n i_Lw_recurrenceCoefficient_2 rfl ?_
  refine ev_iload_n i_Lw_recurrenceCoefficient_3 rfl ?_
  refine ev_iload_n i_Lw_recurrenceCoefficient_4 rfl ?_
  refine ev_callVc2 i_Lw_recurrenceCoefficient_5 rfl h0 (Nat.le_of_ble_eq_true rfl) hm ct_Lw_recurrenceCoefficient_2 ?_
  refine ev_astQ i_Lw_recurrenceCoefficient_17 (Nat.le_of_ble_eq_true rfl) ?_
  refine ev_iconstN (v := 2) i_Lw_recurrenceCoefficient_19 (by decide) ?_
  exact ev_iret i_Lw_recurrenceCoefficient_20 rfl (by first | rfl | decide)
theorem lw_recurrenceCoefficient_3 {scr : Scr} {l : Launch} {S S1 : Sto} {d : Nat} {b : Bool} {x0 x1 : Int32} (h0 : S.1[0]? = some (xObj b)) (hm : MetA scr l d M_Pr_recurrenceCoefficient [.ref 0, .int x0, .int x1] S (.inr "java/util/NoSuchElementException", S1)) : MetA scr l (d + 1) M_Lw_recurrenceCoefficient [.ref 0, .int x0, .int x1, .ref 134] S (.inl (some (.int (nI 3))), S1) := by
  refine MetA.ofH (by decide) (by decide +kernel) (Nat.le_of_ble_eq_true rfl) ?_
  refine ev_aload_n i_Lw_recurrenceCoefficient_0 rfl ?_
  refine ev_iconstN (v := 0) i_Lw_recurrenceCoefficient_1 (by decide) ?_
  refine ev_aload_n i_Lw_recurrenceCoefficient_2 rfl ?_
  refine ev_iload_n i_Lw_recurrenceCoefficient_3 rfl ?_
  refine ev_iload_n i_Lw_recurrenceCoefficient_4 rfl ?_
  refine ev_callVc2 i_Lw_recurrenceCoefficient_5 rfl h0 (Nat.le_of_ble_eq_true rfl) hm ct_Lw_recurrenceCoefficient_3 ?_
  refine ev_astQ i_Lw_recurrenceCoefficient_21 (Nat.le_of_ble_eq_true rfl) ?_
  refine ev_iconstN (v := 3) i_Lw_recurrenceCoefficient_23 (by decide) ?_
  exact ev_iret i_Lw_recurrenceCoefficient_24 rfl (by first | rfl | decide)
theorem lw_isAdult {scr : Scr} {l : Launch} {S S1 : Sto} {d : Nat} {b : Bool} {x0 : Int32} {z : Bool} (h0 : S.1[0]? = some (xObj b)) {g : Nat → Int64} (ho : S1.1[134]? = some (aJ 1 g)) (hm : MetA scr l d M_Pr_isAdult [.ref 0, .int x0] S (.inl (some (.int (nI (bI z)))), S1)) : MetA scr l (d + 1) M_Lw_isAdult [.ref 0, .int x0, .ref 134] S (.inl (some (.int (nI 0))), S1.put 134 (aJ 1 (vp_updL g 0 (bL z)))) := by
  cases z with
  | true =>
    rw [show bI true = 1 from rfl] at hm
    show MetA _ _ _ _ _ _ (_, S1.put 134 (aJ 1 (vp_updL g 0 1)))
    refine MetA.ofH (by decide) (by decide +kernel) (Nat.le_of_ble_eq_true rfl) ?_
    refine ev_aload_n i_Lw_isAdult_0 rfl ?_
    refine ev_iconstN (v := 0) i_Lw_isAdult_1 (by decide) ?_
    refine ev_aload_n i_Lw_isAdult_2 rfl ?_
    refine ev_iload_n i_Lw_isAdult_3 rfl ?_
    refine ev_callV1 i_Lw_isAdult_4 rfl h0 (Nat.le_of_ble_eq_true rfl) hm ?_
    refine ev_if_eqN i_Lw_isAdult_7 (by omega) (fun hc_7 => ?_) (fun hc_7 => ?_)
    · skip
      exfalso; omega
    · skip
      refine ev_lconst (v := 1) i_Lw_isAdult_10 (by decide) ?_
      refine ev_goto i_Lw_isAdult_11 ?_
      refine ev_lastN i_Lw_isAdult_15 ho (by decide) (by decide) ?_
      refine ev_goto i_Lw_isAdult_16 ?_
      refine ev_iconstN (v := 0) i_Lw_isAdult_22 (by decide) ?_
      exact ev_iret i_Lw_isAdult_23 rfl (by first | rfl | decide)
  | false =>
    rw [show bI false = 0 from rfl] at hm
    show MetA _ _ _ _ _ _ (_, S1.put 134 (aJ 1 (vp_updL g 0 0)))
    refine MetA.ofH (by decide) (by decide +kernel) (Nat.le_of_ble_eq_true rfl) ?_
    refine ev_aload_n i_Lw_isAdult_0 rfl ?_
    refine ev_iconstN (v := 0) i_Lw_isAdult_1 (by decide) ?_
    refine ev_aload_n i_Lw_isAdult_2 rfl ?_
    refine ev_iload_n i_Lw_isAdult_3 rfl ?_
    refine ev_callV1 i_Lw_isAdult_4 rfl h0 (Nat.le_of_ble_eq_true rfl) hm ?_
    refine ev_if_eqN i_Lw_isAdult_7 (by omega) (fun hc_7 => ?_) (fun hc_7 => ?_)
    · skip
      refine ev_lconst (v := 0) i_Lw_isAdult_14 (by decide) ?_
      refine ev_lastN i_Lw_isAdult_15 ho (by decide) (by decide) ?_
      refine ev_goto i_Lw_isAdult_16 ?_
      refine ev_iconstN (v := 0) i_Lw_isAdult_22 (by decide) ?_
      exact ev_iret i_Lw_isAdult_23 rfl (by first | rfl | decide)
    · skip
      exfalso; omega
theorem lw_isAdult_1 {scr : Scr} {l : Launch} {S S1 : Sto} {d : Nat} {b : Bool} {x0 : Int32} (h0 : S.1[0]? = some (xObj b)) (hm : MetA scr l d M_Pr_isAdult [.ref 0, .int x0] S (.inr "java/lang/IndexOutOfBoundsException", S1)) : MetA scr l (d + 1) M_Lw_isAdult [.ref 0, .int x0, .ref 134] S (.inl (some (.int (nI 1))), S1) := by
  refine MetA.ofH (by decide) (by decide +kernel) (Nat.le_of_ble_eq_true rfl) ?_
  refine ev_aload_n i_Lw_isAdult_0 rfl ?_
  refine ev_iconstN (v := 0) i_Lw_isAdult_1 (by decide) ?_
  refine ev_aload_n i_Lw_isAdult_2 rfl ?_
  refine ev_iload_n i_Lw_isAdult_3 rfl ?_
  refine ev_callVc1 i_Lw_isAdult_4 rfl h0 (Nat.le_of_ble_eq_true rfl) hm ct_Lw_isAdult_1 ?_
  refine ev_astQ_n i_Lw_isAdult_19 (Nat.le_of_ble_eq_true rfl) ?_
  refine ev_iconstN (v := 1) i_Lw_isAdult_20 (by decide) ?_
  exact ev_iret i_Lw_isAdult_21 rfl (by first | rfl | decide)
theorem lw_stepsToAdult {scr : Scr} {l : Launch} {S S1 : Sto} {d : Nat} {b : Bool} {x0 x1 : Int32} {v : Int32} (h0 : S.1[0]? = some (xObj b)) {g : Nat → Int64} (ho : S1.1[134]? = some (aJ 1 g)) (hm : MetA scr l d M_Pr_stepsToAdult [.ref 0, .int x0, .int x1] S (.inl (some (.int v)), S1)) : MetA scr l (d + 1) M_Lw_stepsToAdult [.ref 0, .int x0, .int x1, .ref 134] S (.inl (some (.int (nI 0))), S1.put 134 (aJ 1 (vp_updL g 0 v.toInt64))) := by
  refine MetA.ofH (by decide) (by decide +kernel) (Nat.le_of_ble_eq_true rfl) ?_
  refine ev_aload_n i_Lw_stepsToAdult_0 rfl ?_
  refine ev_iconstN (v := 0) i_Lw_stepsToAdult_1 (by decide) ?_
  refine ev_aload_n i_Lw_stepsToAdult_2 rfl ?_
  refine ev_iload_n i_Lw_stepsToAdult_3 rfl ?_
  refine ev_iload_n i_Lw_stepsToAdult_4 rfl ?_
  refine ev_callV2 i_Lw_stepsToAdult_5 rfl h0 (Nat.le_of_ble_eq_true rfl) hm ?_
  refine ev_i2l i_Lw_stepsToAdult_8 ?_
  refine ev_lastN i_Lw_stepsToAdult_9 ho (by decide) (by decide) ?_
  refine ev_goto i_Lw_stepsToAdult_10 ?_
  refine ev_iconstN (v := 0) i_Lw_stepsToAdult_29 (by decide) ?_
  exact ev_iret i_Lw_stepsToAdult_30 rfl (by first | rfl | decide)
theorem lw_stepsToAdult_1 {scr : Scr} {l : Launch} {S S1 : Sto} {d : Nat} {b : Bool} {x0 x1 : Int32} (h0 : S.1[0]? = some (xObj b)) (hm : MetA scr l d M_Pr_stepsToAdult [.ref 0, .int x0, .int x1] S (.inr "java/lang/IndexOutOfBoundsException", S1)) : MetA scr l (d + 1) M_Lw_stepsToAdult [.ref 0, .int x0, .int x1, .ref 134] S (.inl (some (.int (nI 1))), S1) := by
  refine MetA.ofH (by decide) (by decide +kernel) (Nat.le_of_ble_eq_true rfl) ?_
  refine ev_aload_n i_Lw_stepsToAdult_0 rfl ?_
  refine ev_iconstN (v := 0) i_Lw_stepsToAdult_1 (by decide) ?_
  refine ev_aload_n i_Lw_stepsToAdult_2 rfl ?_
  refine ev_iload_n i_Lw_stepsToAdult_3 rfl ?_
  refine ev_iload_n i_Lw_stepsToAdult_4 rfl ?_
  refine ev_callVc2 i_Lw_stepsToAdult_5 rfl h0 (Nat.le_of_ble_eq_true rfl) hm ct_Lw_stepsToAdult_1 ?_
  refine ev_astQ i_Lw_stepsToAdult_13 (Nat.le_of_ble_eq_true rfl) ?_
  refine ev_iconstN (v := 1) i_Lw_stepsToAdult_15 (by decide) ?_
  exact ev_iret i_Lw_stepsToAdult_16 rfl (by first | rfl | decide)
theorem lw_stepsToAdult_2 {scr : Scr} {l : Launch} {S S1 : Sto} {d : Nat} {b : Bool} {x0 x1 : Int32} (h0 : S.1[0]? = some (xObj b)) (hm : MetA scr l d M_Pr_stepsToAdult [.ref 0, .int x0, .int x1] S (.inr "java/lang/IllegalArgumentException", S1)) : MetA scr l (d + 1) M_Lw_stepsToAdult [.ref 0, .int x0, .int x1, .ref 134] S (.inl (some (.int (nI 2))), S1) := by
  refine MetA.ofH (by decide) (by decide +kernel) (Nat.le_of_ble_eq_true rfl) ?_
  refine ev_aload_n i_Lw_stepsToAdult_0 rfl ?_
  refine ev_iconstN (v := 0) i_Lw_stepsToAdult_1 (by decide) ?_
  refine ev_aload_n i_Lw_stepsToAdult_2 rfl ?_
  refine ev_iload_n i_Lw_stepsToAdult_3 rfl ?_
  refine ev_iload_n i_Lw_stepsToAdult_4 rfl ?_
  refine ev_callVc2 i_Lw_stepsToAdult_5 rfl h0 (Nat.le_of_ble_eq_true rfl) hm ct_Lw_stepsToAdult_2 ?_
  refine ev_astQ i_Lw_stepsToAdult_17 (Nat.le_of_ble_eq_true rfl) ?_
  refine ev_iconstN (v := 2) i_Lw_stepsToAdult_19 (by decide) ?_
  exact ev_iret i_Lw_stepsToAdult_20 rfl (by first | rfl | decide)
theorem lw_stepsToAdult_3 {scr : Scr} {l : Launch} {S S1 : Sto} {d : Nat} {b : Bool} {x0 x1 : Int32} (h0 : S.1[0]? = some (xObj b)) (hm : MetA scr l d M_Pr_stepsToAdult [.ref 0, .int x0, .int x1] S (.inr "java/lang/IllegalStateException", S1)) : MetA scr l (d + 1) M_Lw_stepsToAdult [.ref 0, .int x0, .int x1, .ref 134] S (.inl (some (.int (nI 3))), S1) := by
  refine MetA.ofH (by decide) (by decide +kernel) (Nat.le_of_ble_eq_true rfl) ?_
  refine ev_aload_n i_Lw_stepsToAdult_0 rfl ?_
  refine ev_iconstN (v := 0) i_Lw_stepsToAdult_1 (by decide) ?_
  refine ev_aload_n i_Lw_stepsToAdult_2 rfl ?_
  refine ev_iload_n i_Lw_stepsToAdult_3 rfl ?_
  refine ev_iload_n i_Lw_stepsToAdult_4 rfl ?_
  refine ev_callVc2 i_Lw_stepsToAdult_5 rfl h0 (Nat.le_of_ble_eq_true rfl) hm ct_Lw_stepsToAdult_3 ?_
  refine ev_astQ i_Lw_stepsToAdult_21 (Nat.le_of_ble_eq_true rfl) ?_
  refine ev_iconstN (v := 3) i_Lw_stepsToAdult_23 (by decide) ?_
  exact ev_iret i_Lw_stepsToAdult_24 rfl (by first | rfl | decide)
theorem lw_stepsToAdult_4 {scr : Scr} {l : Launch} {S S1 : Sto} {d : Nat} {b : Bool} {x0 x1 : Int32} (h0 : S.1[0]? = some (xObj b)) (hm : MetA scr l d M_Pr_stepsToAdult [.ref 0, .int x0, .int x1] S (.inr "java/util/NoSuchElementException", S1)) : MetA scr l (d + 1) M_Lw_stepsToAdult [.ref 0, .int x0, .int x1, .ref 134] S (.inl (some (.int (nI 4))), S1) := by
  refine MetA.ofH (by decide) (by decide +kernel) (Nat.le_of_ble_eq_true rfl) ?_
  refine ev_aload_n i_Lw_stepsToAdult_0 rfl ?_
  refine ev_iconstN (v := 0) i_Lw_stepsToAdult_1 (by decide) ?_
  refine ev_aload_n i_Lw_stepsToAdult_2 rfl ?_
  refine ev_iload_n i_Lw_stepsToAdult_3 rfl ?_
  refine ev_iload_n i_Lw_stepsToAdult_4 rfl ?_
  refine ev_callVc2 i_Lw_stepsToAdult_5 rfl h0 (Nat.le_of_ble_eq_true rfl) hm ct_Lw_stepsToAdult_4 ?_
  refine ev_astQ i_Lw_stepsToAdult_25 (Nat.le_of_ble_eq_true rfl) ?_
  refine ev_iconstN (v := 4) i_Lw_stepsToAdult_27 (by decide) ?_
  exact ev_iret i_Lw_stepsToAdult_28 rfl (by first | rfl | decide)
theorem lw_adultWords {scr : Scr} {l : Launch} {S S1 : Sto} {d : Nat} {b : Bool} {x0 x1 : Int32} {v : Int32} (h0 : S.1[0]? = some (xObj b)) {g : Nat → Int64} (ho : S1.1[134]? = some (aJ 1 g)) (hm : MetA scr l d M_Pr_adultWords [.ref 0, .int x0, .int x1] S (.inl (some (.int v)), S1)) : MetA scr l (d + 1) M_Lw_adultWords [.ref 0, .int x0, .int x1, .ref 134] S (.inl (some (.int (nI 0))), S1.put 134 (aJ 1 (vp_updL g 0 v.toInt64))) := by
  refine MetA.ofH (by decide) (by decide +kernel) (Nat.le_of_ble_eq_true rfl) ?_
  refine ev_aload_n i_Lw_adultWords_0 rfl ?_
  refine ev_iconstN (v := 0) i_Lw_adultWords_1 (by decide) ?_
  refine ev_aload_n i_Lw_adultWords_2 rfl ?_
  refine ev_iload_n i_Lw_adultWords_3 rfl ?_
  refine ev_iload_n i_Lw_adultWords_4 rfl ?_
  refine ev_callV2 i_Lw_adultWords_5 rfl h0 (Nat.le_of_ble_eq_true rfl) hm ?_
  refine ev_i2l i_Lw_adultWords_8 ?_
  refine ev_lastN i_Lw_adultWords_9 ho (by decide) (by decide) ?_
  refine ev_goto i_Lw_adultWords_10 ?_
  refine ev_iconstN (v := 0) i_Lw_adultWords_21 (by decide) ?_
  exact ev_iret i_Lw_adultWords_22 rfl (by first | rfl | decide)
theorem lw_adultWords_1 {scr : Scr} {l : Launch} {S S1 : Sto} {d : Nat} {b : Bool} {x0 x1 : Int32} (h0 : S.1[0]? = some (xObj b)) (hm : MetA scr l d M_Pr_adultWords [.ref 0, .int x0, .int x1] S (.inr "java/lang/IndexOutOfBoundsException", S1)) : MetA scr l (d + 1) M_Lw_adultWords [.ref 0, .int x0, .int x1, .ref 134] S (.inl (some (.int (nI 1))), S1) := by
  refine MetA.ofH (by decide) (by decide +kernel) (Nat.le_of_ble_eq_true rfl) ?_
  refine ev_aload_n i_Lw_adultWords_0 rfl ?_
  refine ev_iconstN (v := 0) i_Lw_adultWords_1 (by decide) ?_
  refine ev_aload_n i_Lw_adultWords_2 rfl ?_
  refine ev_iload_n i_Lw_adultWords_3 rfl ?_
  refine ev_iload_n i_Lw_adultWords_4 rfl ?_
  refine ev_callVc2 i_Lw_adultWords_5 rfl h0 (Nat.le_of_ble_eq_true rfl) hm ct_Lw_adultWords_1 ?_
  refine ev_astQ i_Lw_adultWords_13 (Nat.le_of_ble_eq_true rfl) ?_
  refine ev_iconstN (v := 1) i_Lw_adultWords_15 (by decide) ?_
  exact ev_iret i_Lw_adultWords_16 rfl (by first | rfl | decide)
theorem lw_adultWords_2 {scr : Scr} {l : Launch} {S S1 : Sto} {d : Nat} {b : Bool} {x0 x1 : Int32} (h0 : S.1[0]? = some (xObj b)) (hm : MetA scr l d M_Pr_adultWords [.ref 0, .int x0, .int x1] S (.inr "java/lang/IllegalArgumentException", S1)) : MetA scr l (d + 1) M_Lw_adultWords [.ref 0, .int x0, .int x1, .ref 134] S (.inl (some (.int (nI 2))), S1) := by
  refine MetA.ofH (by decide) (by decide +kernel) (Nat.le_of_ble_eq_true rfl) ?_
  refine ev_aload_n i_Lw_adultWords_0 rfl ?_
  refine ev_iconstN (v := 0) i_Lw_adultWords_1 (by decide) ?_
  refine ev_aload_n i_Lw_adultWords_2 rfl ?_
  refine ev_iload_n i_Lw_adultWords_3 rfl ?_
  refine ev_iload_n i_Lw_adultWords_4 rfl ?_
  refine ev_callVc2 i_Lw_adultWords_5 rfl h0 (Nat.le_of_ble_eq_true rfl) hm ct_Lw_adultWords_2 ?_
  refine ev_astQ i_Lw_adultWords_17 (Nat.le_of_ble_eq_true rfl) ?_
  refine ev_iconstN (v := 2) i_Lw_adultWords_19 (by decide) ?_
  exact ev_iret i_Lw_adultWords_20 rfl (by first | rfl | decide)
theorem lw_ways {scr : Scr} {l : Launch} {S S1 : Sto} {d : Nat} {b : Bool} {x0 : Int32} {v : Int64} (h0 : S.1[0]? = some (xObj b)) {g : Nat → Int64} (ho : S1.1[134]? = some (aJ 1 g)) (hm : MetA scr l d M_Pr_ways [.ref 0, .int x0] S (.inl (some (.long v)), S1)) : MetA scr l (d + 1) M_Lw_ways [.ref 0, .int x0, .ref 134] S (.inl (some (.int (nI 0))), S1.put 134 (aJ 1 (vp_updL g 0 v))) := by
  refine MetA.ofH (by decide) (by decide +kernel) (Nat.le_of_ble_eq_true rfl) ?_
  refine ev_aload_n i_Lw_ways_0 rfl ?_
  refine ev_iconstN (v := 0) i_Lw_ways_1 (by decide) ?_
  refine ev_aload_n i_Lw_ways_2 rfl ?_
  refine ev_iload_n i_Lw_ways_3 rfl ?_
  refine ev_callV1 i_Lw_ways_4 rfl h0 (Nat.le_of_ble_eq_true rfl) hm ?_
  refine ev_lastN i_Lw_ways_7 ho (by decide) (by decide) ?_
  refine ev_goto i_Lw_ways_8 ?_
  refine ev_iconstN (v := 0) i_Lw_ways_17 (by decide) ?_
  exact ev_iret i_Lw_ways_18 rfl (by first | rfl | decide)
theorem lw_ways_1 {scr : Scr} {l : Launch} {S S1 : Sto} {d : Nat} {b : Bool} {x0 : Int32} (h0 : S.1[0]? = some (xObj b)) (hm : MetA scr l d M_Pr_ways [.ref 0, .int x0] S (.inr "java/lang/IndexOutOfBoundsException", S1)) : MetA scr l (d + 1) M_Lw_ways [.ref 0, .int x0, .ref 134] S (.inl (some (.int (nI 1))), S1) := by
  refine MetA.ofH (by decide) (by decide +kernel) (Nat.le_of_ble_eq_true rfl) ?_
  refine ev_aload_n i_Lw_ways_0 rfl ?_
  refine ev_iconstN (v := 0) i_Lw_ways_1 (by decide) ?_
  refine ev_aload_n i_Lw_ways_2 rfl ?_
  refine ev_iload_n i_Lw_ways_3 rfl ?_
  refine ev_callVc1 i_Lw_ways_4 rfl h0 (Nat.le_of_ble_eq_true rfl) hm ct_Lw_ways_1 ?_
  refine ev_astQ_n i_Lw_ways_11 (Nat.le_of_ble_eq_true rfl) ?_
  refine ev_iconstN (v := 1) i_Lw_ways_12 (by decide) ?_
  exact ev_iret i_Lw_ways_13 rfl (by first | rfl | decide)
theorem lw_ways_2 {scr : Scr} {l : Launch} {S S1 : Sto} {d : Nat} {b : Bool} {x0 : Int32} (h0 : S.1[0]? = some (xObj b)) (hm : MetA scr l d M_Pr_ways [.ref 0, .int x0] S (.inr "java/lang/ArithmeticException", S1)) : MetA scr l (d + 1) M_Lw_ways [.ref 0, .int x0, .ref 134] S (.inl (some (.int (nI 2))), S1) := by
  refine MetA.ofH (by decide) (by decide +kernel) (Nat.le_of_ble_eq_true rfl) ?_
  refine ev_aload_n i_Lw_ways_0 rfl ?_
  refine ev_iconstN (v := 0) i_Lw_ways_1 (by decide) ?_
  refine ev_aload_n i_Lw_ways_2 rfl ?_
  refine ev_iload_n i_Lw_ways_3 rfl ?_
  refine ev_callVc1 i_Lw_ways_4 rfl h0 (Nat.le_of_ble_eq_true rfl) hm ct_Lw_ways_2 ?_
  refine ev_astQ_n i_Lw_ways_14 (Nat.le_of_ble_eq_true rfl) ?_
  refine ev_iconstN (v := 2) i_Lw_ways_15 (by decide) ?_
  exact ev_iret i_Lw_ways_16 rfl (by first | rfl | decide)
theorem lw_sequenceCount {scr : Scr} {l : Launch} {S S1 : Sto} {d : Nat} {b : Bool} {x0 : Int32} {v : Int32} (h0 : S.1[0]? = some (xObj b)) {g : Nat → Int64} (ho : S1.1[134]? = some (aJ 1 g)) (hm : MetA scr l d M_Pr_sequenceCount [.ref 0, .int x0] S (.inl (some (.int v)), S1)) : MetA scr l (d + 1) M_Lw_sequenceCount [.ref 0, .int x0, .ref 134] S (.inl (some (.int (nI 0))), S1.put 134 (aJ 1 (vp_updL g 0 v.toInt64))) := by
  refine MetA.ofH (by decide) (by decide +kernel) (Nat.le_of_ble_eq_true rfl) ?_
  refine ev_aload_n i_Lw_sequenceCount_0 rfl ?_
  refine ev_iconstN (v := 0) i_Lw_sequenceCount_1 (by decide) ?_
  refine ev_aload_n i_Lw_sequenceCount_2 rfl ?_
  refine ev_iload_n i_Lw_sequenceCount_3 rfl ?_
  refine ev_callV1 i_Lw_sequenceCount_4 rfl h0 (Nat.le_of_ble_eq_true rfl) hm ?_
  refine ev_i2l i_Lw_sequenceCount_7 ?_
  refine ev_lastN i_Lw_sequenceCount_8 ho (by decide) (by decide) ?_
  refine ev_goto i_Lw_sequenceCount_9 ?_
  refine ev_iconstN (v := 0) i_Lw_sequenceCount_18 (by decide) ?_
  exact ev_iret i_Lw_sequenceCount_19 rfl (by first | rfl | decide)
theorem lw_sequenceCount_1 {scr : Scr} {l : Launch} {S S1 : Sto} {d : Nat} {b : Bool} {x0 : Int32} (h0 : S.1[0]? = some (xObj b)) (hm : MetA scr l d M_Pr_sequenceCount [.ref 0, .int x0] S (.inr "java/lang/IllegalArgumentException", S1)) : MetA scr l (d + 1) M_Lw_sequenceCount [.ref 0, .int x0, .ref 134] S (.inl (some (.int (nI 1))), S1) := by
  refine MetA.ofH (by decide) (by decide +kernel) (Nat.le_of_ble_eq_true rfl) ?_
  refine ev_aload_n i_Lw_sequenceCount_0 rfl ?_
  refine ev_iconstN (v := 0) i_Lw_sequenceCount_1 (by decide) ?_
  refine ev_aload_n i_Lw_sequenceCount_2 rfl ?_
  refine ev_iload_n i_Lw_sequenceCount_3 rfl ?_
  refine ev_callVc1 i_Lw_sequenceCount_4 rfl h0 (Nat.le_of_ble_eq_true rfl) hm ct_Lw_sequenceCount_1 ?_
  refine ev_astQ_n i_Lw_sequenceCount_12 (Nat.le_of_ble_eq_true rfl) ?_
  refine ev_iconstN (v := 1) i_Lw_sequenceCount_13 (by decide) ?_
  exact ev_iret i_Lw_sequenceCount_14 rfl (by first | rfl | decide)
theorem lw_sequenceCount_2 {scr : Scr} {l : Launch} {S S1 : Sto} {d : Nat} {b : Bool} {x0 : Int32} (h0 : S.1[0]? = some (xObj b)) (hm : MetA scr l d M_Pr_sequenceCount [.ref 0, .int x0] S (.inr "java/lang/IllegalStateException", S1)) : MetA scr l (d + 1) M_Lw_sequenceCount [.ref 0, .int x0, .ref 134] S (.inl (some (.int (nI 2))), S1) := by
  refine MetA.ofH (by decide) (by decide +kernel) (Nat.le_of_ble_eq_true rfl) ?_
  refine ev_aload_n i_Lw_sequenceCount_0 rfl ?_
  refine ev_iconstN (v := 0) i_Lw_sequenceCount_1 (by decide) ?_
  refine ev_aload_n i_Lw_sequenceCount_2 rfl ?_
  refine ev_iload_n i_Lw_sequenceCount_3 rfl ?_
  refine ev_callVc1 i_Lw_sequenceCount_4 rfl h0 (Nat.le_of_ble_eq_true rfl) hm ct_Lw_sequenceCount_2 ?_
  refine ev_astQ_n i_Lw_sequenceCount_15 (Nat.le_of_ble_eq_true rfl) ?_
  refine ev_iconstN (v := 2) i_Lw_sequenceCount_16 (by decide) ?_
  exact ev_iret i_Lw_sequenceCount_17 rfl (by first | rfl | decide)
theorem lw_firstSequence {scr : Scr} {l : Launch} {S S1 : Sto} {d : Nat} {b : Bool} {x0 : Int32} {v : Int32} (h0 : S.1[0]? = some (xObj b)) {g : Nat → Int64} (ho : S1.1[134]? = some (aJ 1 g)) (hm : MetA scr l d M_Pr_firstSequence [.ref 0, .int x0] S (.inl (some (.int v)), S1)) : MetA scr l (d + 1) M_Lw_firstSequence [.ref 0, .int x0, .ref 134] S (.inl (some (.int (nI 0))), S1.put 134 (aJ 1 (vp_updL g 0 v.toInt64))) := by
  refine MetA.ofH (by decide) (by decide +kernel) (Nat.le_of_ble_eq_true rfl) ?_
  refine ev_aload_n i_Lw_firstSequence_0 rfl ?_
  refine ev_iconstN (v := 0) i_Lw_firstSequence_1 (by decide) ?_
  refine ev_aload_n i_Lw_firstSequence_2 rfl ?_
  refine ev_iload_n i_Lw_firstSequence_3 rfl ?_
  refine ev_callV1 i_Lw_firstSequence_4 rfl h0 (Nat.le_of_ble_eq_true rfl) hm ?_
  refine ev_i2l i_Lw_firstSequence_7 ?_
  refine ev_lastN i_Lw_firstSequence_8 ho (by decide) (by decide) ?_
  refine ev_goto i_Lw_firstSequence_9 ?_
  refine ev_iconstN (v := 0) i_Lw_firstSequence_21 (by decide) ?_
  exact ev_iret i_Lw_firstSequence_22 rfl (by first | rfl | decide)
theorem lw_firstSequence_1 {scr : Scr} {l : Launch} {S S1 : Sto} {d : Nat} {b : Bool} {x0 : Int32} (h0 : S.1[0]? = some (xObj b)) (hm : MetA scr l d M_Pr_firstSequence [.ref 0, .int x0] S (.inr "java/lang/IllegalArgumentException", S1)) : MetA scr l (d + 1) M_Lw_firstSequence [.ref 0, .int x0, .ref 134] S (.inl (some (.int (nI 1))), S1) := by
  refine MetA.ofH (by decide) (by decide +kernel) (Nat.le_of_ble_eq_true rfl) ?_
  refine ev_aload_n i_Lw_firstSequence_0 rfl ?_
  refine ev_iconstN (v := 0) i_Lw_firstSequence_1 (by decide) ?_
  refine ev_aload_n i_Lw_firstSequence_2 rfl ?_
  refine ev_iload_n i_Lw_firstSequence_3 rfl ?_
  refine ev_callVc1 i_Lw_firstSequence_4 rfl h0 (Nat.le_of_ble_eq_true rfl) hm ct_Lw_firstSequence_1 ?_
  refine ev_astQ_n i_Lw_firstSequence_12 (Nat.le_of_ble_eq_true rfl) ?_
  refine ev_iconstN (v := 1) i_Lw_firstSequence_13 (by decide) ?_
  exact ev_iret i_Lw_firstSequence_14 rfl (by first | rfl | decide)
theorem lw_firstSequence_2 {scr : Scr} {l : Launch} {S S1 : Sto} {d : Nat} {b : Bool} {x0 : Int32} (h0 : S.1[0]? = some (xObj b)) (hm : MetA scr l d M_Pr_firstSequence [.ref 0, .int x0] S (.inr "java/lang/IllegalStateException", S1)) : MetA scr l (d + 1) M_Lw_firstSequence [.ref 0, .int x0, .ref 134] S (.inl (some (.int (nI 2))), S1) := by
  refine MetA.ofH (by decide) (by decide +kernel) (Nat.le_of_ble_eq_true rfl) ?_
  refine ev_aload_n i_Lw_firstSequence_0 rfl ?_
  refine ev_iconstN (v := 0) i_Lw_firstSequence_1 (by decide) ?_
  refine ev_aload_n i_Lw_firstSequence_2 rfl ?_
  refine ev_iload_n i_Lw_firstSequence_3 rfl ?_
  refine ev_callVc1 i_Lw_firstSequence_4 rfl h0 (Nat.le_of_ble_eq_true rfl) hm ct_Lw_firstSequence_2 ?_
  refine ev_astQ_n i_Lw_firstSequence_15 (Nat.le_of_ble_eq_true rfl) ?_
  refine ev_iconstN (v := 2) i_Lw_firstSequence_16 (by decide) ?_
  exact ev_iret i_Lw_firstSequence_17 rfl (by first | rfl | decide)
theorem lw_firstSequence_3 {scr : Scr} {l : Launch} {S S1 : Sto} {d : Nat} {b : Bool} {x0 : Int32} (h0 : S.1[0]? = some (xObj b)) (hm : MetA scr l d M_Pr_firstSequence [.ref 0, .int x0] S (.inr "java/util/NoSuchElementException", S1)) : MetA scr l (d + 1) M_Lw_firstSequence [.ref 0, .int x0, .ref 134] S (.inl (some (.int (nI 3))), S1) := by
  refine MetA.ofH (by decide) (by decide +kernel) (Nat.le_of_ble_eq_true rfl) ?_
  refine ev_aload_n i_Lw_firstSequence_0 rfl ?_
  refine ev_iconstN (v := 0) i_Lw_firstSequence_1 (by decide) ?_
  refine ev_aload_n i_Lw_firstSequence_2 rfl ?_
  refine ev_iload_n i_Lw_firstSequence_3 rfl ?_
  refine ev_callVc1 i_Lw_firstSequence_4 rfl h0 (Nat.le_of_ble_eq_true rfl) hm ct_Lw_firstSequence_3 ?_
  refine ev_astQ_n i_Lw_firstSequence_18 (Nat.le_of_ble_eq_true rfl) ?_
  refine ev_iconstN (v := 3) i_Lw_firstSequence_19 (by decide) ?_
  exact ev_iret i_Lw_firstSequence_20 rfl (by first | rfl | decide)
theorem lw_setCommand {scr : Scr} {l : Launch} {S S1 : Sto} {d : Nat} {b : Bool} {x0 : Int32} (h0 : S.1[0]? = some (xObj b)) (hm : MetA scr l d M_Pr_setCommand [.ref 0, .int x0] S (.inl none, S1)) : MetA scr l (d + 1) M_Lw_setCommand [.ref 0, .int x0] S (.inl (some (.int (nI 0))), S1) := by
  refine MetA.ofH (by decide) (by decide +kernel) (Nat.le_of_ble_eq_true rfl) ?_
  refine ev_aload_n i_Lw_setCommand_0 rfl ?_
  refine ev_iload_n i_Lw_setCommand_1 rfl ?_
  refine ev_callV1 i_Lw_setCommand_2 rfl h0 (Nat.le_of_ble_eq_true rfl) hm ?_
  refine ev_goto i_Lw_setCommand_5 ?_
  refine ev_iconstN (v := 0) i_Lw_setCommand_14 (by decide) ?_
  exact ev_iret i_Lw_setCommand_15 rfl (by first | rfl | decide)
theorem lw_setCommand_1 {scr : Scr} {l : Launch} {S S1 : Sto} {d : Nat} {b : Bool} {x0 : Int32} (h0 : S.1[0]? = some (xObj b)) (hm : MetA scr l d M_Pr_setCommand [.ref 0, .int x0] S (.inr "java/lang/IndexOutOfBoundsException", S1)) : MetA scr l (d + 1) M_Lw_setCommand [.ref 0, .int x0] S (.inl (some (.int (nI 1))), S1) := by
  refine MetA.ofH (by decide) (by decide +kernel) (Nat.le_of_ble_eq_true rfl) ?_
  refine ev_aload_n i_Lw_setCommand_0 rfl ?_
  refine ev_iload_n i_Lw_setCommand_1 rfl ?_
  refine ev_callVc1 i_Lw_setCommand_2 rfl h0 (Nat.le_of_ble_eq_true rfl) hm ct_Lw_setCommand_1 ?_
  refine ev_astQ_n i_Lw_setCommand_8 (Nat.le_of_ble_eq_true rfl) ?_
  refine ev_iconstN (v := 1) i_Lw_setCommand_9 (by decide) ?_
  exact ev_iret i_Lw_setCommand_10 rfl (by first | rfl | decide)
theorem lw_setCommand_2 {scr : Scr} {l : Launch} {S S1 : Sto} {d : Nat} {b : Bool} {x0 : Int32} (h0 : S.1[0]? = some (xObj b)) (hm : MetA scr l d M_Pr_setCommand [.ref 0, .int x0] S (.inr "java/lang/IllegalArgumentException", S1)) : MetA scr l (d + 1) M_Lw_setCommand [.ref 0, .int x0] S (.inl (some (.int (nI 2))), S1) := by
  refine MetA.ofH (by decide) (by decide +kernel) (Nat.le_of_ble_eq_true rfl) ?_
  refine ev_aload_n i_Lw_setCommand_0 rfl ?_
  refine ev_iload_n i_Lw_setCommand_1 rfl ?_
  refine ev_callVc1 i_Lw_setCommand_2 rfl h0 (Nat.le_of_ble_eq_true rfl) hm ct_Lw_setCommand_2 ?_
  refine ev_astQ_n i_Lw_setCommand_11 (Nat.le_of_ble_eq_true rfl) ?_
  refine ev_iconstN (v := 2) i_Lw_setCommand_12 (by decide) ?_
  exact ev_iret i_Lw_setCommand_13 rfl (by first | rfl | decide)
theorem lw_segmentCount {scr : Scr} {l : Launch} {S S1 : Sto} {d : Nat} {b : Bool} {v : Int32} (h0 : S.1[0]? = some (xObj b)) {g : Nat → Int64} (ho : S1.1[134]? = some (aJ 1 g)) (hm : MetA scr l d M_Pr_segmentCount [.ref 0] S (.inl (some (.int v)), S1)) : MetA scr l (d + 1) M_Lw_segmentCount [.ref 0, .ref 134] S (.inl (some (.int (nI 0))), S1.put 134 (aJ 1 (vp_updL g 0 v.toInt64))) := by
  refine MetA.ofH (by decide) (by decide +kernel) (Nat.le_of_ble_eq_true rfl) ?_
  refine ev_aload_n i_Lw_segmentCount_0 rfl ?_
  refine ev_iconstN (v := 0) i_Lw_segmentCount_1 (by decide) ?_
  refine ev_aload_n i_Lw_segmentCount_2 rfl ?_
  refine ev_callV0 i_Lw_segmentCount_3 rfl h0 (Nat.le_of_ble_eq_true rfl) hm ?_
  refine ev_i2l i_Lw_segmentCount_6 ?_
  refine ev_lastN i_Lw_segmentCount_7 ho (by decide) (by decide) ?_
  refine ev_goto i_Lw_segmentCount_8 ?_
  refine ev_iconstN (v := 0) i_Lw_segmentCount_14 (by decide) ?_
  exact ev_iret i_Lw_segmentCount_15 rfl (by first | rfl | decide)
theorem lw_segmentCount_1 {scr : Scr} {l : Launch} {S S1 : Sto} {d : Nat} {b : Bool} (h0 : S.1[0]? = some (xObj b)) (hm : MetA scr l d M_Pr_segmentCount [.ref 0] S (.inr "java/lang/IllegalStateException", S1)) : MetA scr l (d + 1) M_Lw_segmentCount [.ref 0, .ref 134] S (.inl (some (.int (nI 1))), S1) := by
  refine MetA.ofH (by decide) (by decide +kernel) (Nat.le_of_ble_eq_true rfl) ?_
  refine ev_aload_n i_Lw_segmentCount_0 rfl ?_
  refine ev_iconstN (v := 0) i_Lw_segmentCount_1 (by decide) ?_
  refine ev_aload_n i_Lw_segmentCount_2 rfl ?_
  refine ev_callVc0 i_Lw_segmentCount_3 rfl h0 (Nat.le_of_ble_eq_true rfl) hm ct_Lw_segmentCount_1 ?_
  refine ev_astQ_n i_Lw_segmentCount_11 (Nat.le_of_ble_eq_true rfl) ?_
  refine ev_iconstN (v := 1) i_Lw_segmentCount_12 (by decide) ?_
  exact ev_iret i_Lw_segmentCount_13 rfl (by first | rfl | decide)
theorem lw_inkLength {scr : Scr} {l : Launch} {S S1 : Sto} {d : Nat} {b : Bool} {v : UInt64} (h0 : S.1[0]? = some (xObj b)) {g : Nat → UInt64} (ho : S1.1[135]? = some (aD 1 g)) (hm : MetA scr l d M_Pr_inkLength [.ref 0] S (.inl (some (.double v)), S1)) : MetA scr l (d + 1) M_Lw_inkLength [.ref 0, .ref 135] S (.inl (some (.int (nI 0))), S1.put 135 (aD 1 (vf_upd g 0 v))) := by
  refine MetA.ofH (by decide) (by decide +kernel) (Nat.le_of_ble_eq_true rfl) ?_
  refine ev_aload_n i_Lw_inkLength_0 rfl ?_
  refine ev_iconstN (v := 0) i_Lw_inkLength_1 (by decide) ?_
  refine ev_aload_n i_Lw_inkLength_2 rfl ?_
  refine ev_callV0 i_Lw_inkLength_3 rfl h0 (Nat.le_of_ble_eq_true rfl) hm ?_
  refine ev_dastN i_Lw_inkLength_6 ho (by decide) (by decide) ?_
  refine ev_goto i_Lw_inkLength_7 ?_
  refine ev_iconstN (v := 0) i_Lw_inkLength_13 (by decide) ?_
  exact ev_iret i_Lw_inkLength_14 rfl (by first | rfl | decide)
theorem lw_inkLength_1 {scr : Scr} {l : Launch} {S S1 : Sto} {d : Nat} {b : Bool} (h0 : S.1[0]? = some (xObj b)) (hm : MetA scr l d M_Pr_inkLength [.ref 0] S (.inr "java/lang/IllegalStateException", S1)) : MetA scr l (d + 1) M_Lw_inkLength [.ref 0, .ref 135] S (.inl (some (.int (nI 1))), S1) := by
  refine MetA.ofH (by decide) (by decide +kernel) (Nat.le_of_ble_eq_true rfl) ?_
  refine ev_aload_n i_Lw_inkLength_0 rfl ?_
  refine ev_iconstN (v := 0) i_Lw_inkLength_1 (by decide) ?_
  refine ev_aload_n i_Lw_inkLength_2 rfl ?_
  refine ev_callVc0 i_Lw_inkLength_3 rfl h0 (Nat.le_of_ble_eq_true rfl) hm ct_Lw_inkLength_1 ?_
  refine ev_astQ_n i_Lw_inkLength_10 (Nat.le_of_ble_eq_true rfl) ?_
  refine ev_iconstN (v := 1) i_Lw_inkLength_11 (by decide) ?_
  exact ev_iret i_Lw_inkLength_12 rfl (by first | rfl | decide)
theorem lw_extent {scr : Scr} {l : Launch} {S S1 : Sto} {d : Nat} {b : Bool} {x0 : Int32} {v : UInt64} (h0 : S.1[0]? = some (xObj b)) {g : Nat → UInt64} (ho : S1.1[135]? = some (aD 1 g)) (hm : MetA scr l d M_Pr_extent [.ref 0, .int x0] S (.inl (some (.double v)), S1)) : MetA scr l (d + 1) M_Lw_extent [.ref 0, .int x0, .ref 135] S (.inl (some (.int (nI 0))), S1.put 135 (aD 1 (vf_upd g 0 v))) := by
  refine MetA.ofH (by decide) (by decide +kernel) (Nat.le_of_ble_eq_true rfl) ?_
  refine ev_aload_n i_Lw_extent_0 rfl ?_
  refine ev_iconstN (v := 0) i_Lw_extent_1 (by decide) ?_
  refine ev_aload_n i_Lw_extent_2 rfl ?_
  refine ev_iload_n i_Lw_extent_3 rfl ?_
  refine ev_callV1 i_Lw_extent_4 rfl h0 (Nat.le_of_ble_eq_true rfl) hm ?_
  refine ev_dastN i_Lw_extent_7 ho (by decide) (by decide) ?_
  refine ev_goto i_Lw_extent_8 ?_
  refine ev_iconstN (v := 0) i_Lw_extent_17 (by decide) ?_
  exact ev_iret i_Lw_extent_18 rfl (by first | rfl | decide)
theorem lw_extent_1 {scr : Scr} {l : Launch} {S S1 : Sto} {d : Nat} {b : Bool} {x0 : Int32} (h0 : S.1[0]? = some (xObj b)) (hm : MetA scr l d M_Pr_extent [.ref 0, .int x0] S (.inr "java/lang/IllegalArgumentException", S1)) : MetA scr l (d + 1) M_Lw_extent [.ref 0, .int x0, .ref 135] S (.inl (some (.int (nI 1))), S1) := by
  refine MetA.ofH (by decide) (by decide +kernel) (Nat.le_of_ble_eq_true rfl) ?_
  refine ev_aload_n i_Lw_extent_0 rfl ?_
  refine ev_iconstN (v := 0) i_Lw_extent_1 (by decide) ?_
  refine ev_aload_n i_Lw_extent_2 rfl ?_
  refine ev_iload_n i_Lw_extent_3 rfl ?_
  refine ev_callVc1 i_Lw_extent_4 rfl h0 (Nat.le_of_ble_eq_true rfl) hm ct_Lw_extent_1 ?_
  refine ev_astQ_n i_Lw_extent_11 (Nat.le_of_ble_eq_true rfl) ?_
  refine ev_iconstN (v := 1) i_Lw_extent_12 (by decide) ?_
  exact ev_iret i_Lw_extent_13 rfl (by first | rfl | decide)
theorem lw_extent_2 {scr : Scr} {l : Launch} {S S1 : Sto} {d : Nat} {b : Bool} {x0 : Int32} (h0 : S.1[0]? = some (xObj b)) (hm : MetA scr l d M_Pr_extent [.ref 0, .int x0] S (.inr "java/lang/IllegalStateException", S1)) : MetA scr l (d + 1) M_Lw_extent [.ref 0, .int x0, .ref 135] S (.inl (some (.int (nI 2))), S1) := by
  refine MetA.ofH (by decide) (by decide +kernel) (Nat.le_of_ble_eq_true rfl) ?_
  refine ev_aload_n i_Lw_extent_0 rfl ?_
  refine ev_iconstN (v := 0) i_Lw_extent_1 (by decide) ?_
  refine ev_aload_n i_Lw_extent_2 rfl ?_
  refine ev_iload_n i_Lw_extent_3 rfl ?_
  refine ev_callVc1 i_Lw_extent_4 rfl h0 (Nat.le_of_ble_eq_true rfl) hm ct_Lw_extent_2 ?_
  refine ev_astQ_n i_Lw_extent_14 (Nat.le_of_ble_eq_true rfl) ?_
  refine ev_iconstN (v := 2) i_Lw_extent_15 (by decide) ?_
  exact ev_iret i_Lw_extent_16 rfl (by first | rfl | decide)
theorem lw_openDepth {scr : Scr} {l : Launch} {S S1 : Sto} {d : Nat} {b : Bool} {v : Int32} (h0 : S.1[0]? = some (xObj b)) {g : Nat → Int64} (ho : S1.1[134]? = some (aJ 1 g)) (hm : MetA scr l d M_Pr_openDepth [.ref 0] S (.inl (some (.int v)), S1)) : MetA scr l (d + 1) M_Lw_openDepth [.ref 0, .ref 134] S (.inl (some (.int (nI 0))), S1.put 134 (aJ 1 (vp_updL g 0 v.toInt64))) := by
  refine MetA.ofH (by decide) (by decide +kernel) (Nat.le_of_ble_eq_true rfl) ?_
  refine ev_aload_n i_Lw_openDepth_0 rfl ?_
  refine ev_iconstN (v := 0) i_Lw_openDepth_1 (by decide) ?_
  refine ev_aload_n i_Lw_openDepth_2 rfl ?_
  refine ev_callV0 i_Lw_openDepth_3 rfl h0 (Nat.le_of_ble_eq_true rfl) hm ?_
  refine ev_i2l i_Lw_openDepth_6 ?_
  refine ev_lastN i_Lw_openDepth_7 ho (by decide) (by decide) ?_
  refine ev_goto i_Lw_openDepth_8 ?_
  refine ev_iconstN (v := 0) i_Lw_openDepth_14 (by decide) ?_
  exact ev_iret i_Lw_openDepth_15 rfl (by first | rfl | decide)
theorem lw_openDepth_1 {scr : Scr} {l : Launch} {S S1 : Sto} {d : Nat} {b : Bool} (h0 : S.1[0]? = some (xObj b)) (hm : MetA scr l d M_Pr_openDepth [.ref 0] S (.inr "java/lang/IllegalStateException", S1)) : MetA scr l (d + 1) M_Lw_openDepth [.ref 0, .ref 134] S (.inl (some (.int (nI 1))), S1) := by
  refine MetA.ofH (by decide) (by decide +kernel) (Nat.le_of_ble_eq_true rfl) ?_
  refine ev_aload_n i_Lw_openDepth_0 rfl ?_
  refine ev_iconstN (v := 0) i_Lw_openDepth_1 (by decide) ?_
  refine ev_aload_n i_Lw_openDepth_2 rfl ?_
  refine ev_callVc0 i_Lw_openDepth_3 rfl h0 (Nat.le_of_ble_eq_true rfl) hm ct_Lw_openDepth_1 ?_
  refine ev_astQ_n i_Lw_openDepth_11 (Nat.le_of_ble_eq_true rfl) ?_
  refine ev_iconstN (v := 1) i_Lw_openDepth_12 (by decide) ?_
  exact ev_iret i_Lw_openDepth_13 rfl (by first | rfl | decide)
theorem lw_keepPoints {scr : Scr} {l : Launch} {S S1 : Sto} {d : Nat} {b : Bool} {x0 x1 : Int32} {v : Int32} (h0 : S.1[0]? = some (xObj b)) {g : Nat → Int64} (ho : S1.1[134]? = some (aJ 1 g)) (hm : MetA scr l d M_Pr_keepPoints [.ref 0, .int x0, .int x1] S (.inl (some (.int v)), S1)) : MetA scr l (d + 1) M_Lw_keepPoints [.ref 0, .int x0, .int x1, .ref 134] S (.inl (some (.int (nI 0))), S1.put 134 (aJ 1 (vp_updL g 0 v.toInt64))) := by
  refine MetA.ofH (by decide) (by decide +kernel) (Nat.le_of_ble_eq_true rfl) ?_
  refine ev_aload_n i_Lw_keepPoints_0 rfl ?_
  refine ev_iconstN (v := 0) i_Lw_keepPoints_1 (by decide) ?_
  refine ev_aload_n i_Lw_keepPoints_2 rfl ?_
  refine ev_iload_n i_Lw_keepPoints_3 rfl ?_
  refine ev_iload_n i_Lw_keepPoints_4 rfl ?_
  refine ev_callV2 i_Lw_keepPoints_5 rfl h0 (Nat.le_of_ble_eq_true rfl) hm ?_
  refine ev_i2l i_Lw_keepPoints_8 ?_
  refine ev_lastN i_Lw_keepPoints_9 ho (by decide) (by decide) ?_
  refine ev_goto i_Lw_keepPoints_10 ?_
  refine ev_iconstN (v := 0) i_Lw_keepPoints_21 (by decide) ?_
  exact ev_iret i_Lw_keepPoints_22 rfl (by first | rfl | decide)
theorem lw_keepPoints_1 {scr : Scr} {l : Launch} {S S1 : Sto} {d : Nat} {b : Bool} {x0 x1 : Int32} (h0 : S.1[0]? = some (xObj b)) (hm : MetA scr l d M_Pr_keepPoints [.ref 0, .int x0, .int x1] S (.inr "java/lang/IndexOutOfBoundsException", S1)) : MetA scr l (d + 1) M_Lw_keepPoints [.ref 0, .int x0, .int x1, .ref 134] S (.inl (some (.int (nI 1))), S1) := by
  refine MetA.ofH (by decide) (by decide +kernel) (Nat.le_of_ble_eq_true rfl) ?_
  refine ev_aload_n i_Lw_keepPoints_0 rfl ?_
  refine ev_iconstN (v := 0) i_Lw_keepPoints_1 (by decide) ?_
  refine ev_aload_n i_Lw_keepPoints_2 rfl ?_
  refine ev_iload_n i_Lw_keepPoints_3 rfl ?_
  refine ev_iload_n i_Lw_keepPoints_4 rfl ?_
  refine ev_callVc2 i_Lw_keepPoints_5 rfl h0 (Nat.le_of_ble_eq_true rfl) hm ct_Lw_keepPoints_1 ?_
  refine ev_astQ i_Lw_keepPoints_13 (Nat.le_of_ble_eq_true rfl) ?_
  refine ev_iconstN (v := 1) i_Lw_keepPoints_15 (by decide) ?_
  exact ev_iret i_Lw_keepPoints_16 rfl (by first | rfl | decide)
theorem lw_keepPoints_2 {scr : Scr} {l : Launch} {S S1 : Sto} {d : Nat} {b : Bool} {x0 x1 : Int32} (h0 : S.1[0]? = some (xObj b)) (hm : MetA scr l d M_Pr_keepPoints [.ref 0, .int x0, .int x1] S (.inr "java/lang/IllegalStateException", S1)) : MetA scr l (d + 1) M_Lw_keepPoints [.ref 0, .int x0, .int x1, .ref 134] S (.inl (some (.int (nI 2))), S1) := by
  refine MetA.ofH (by decide) (by decide +kernel) (Nat.le_of_ble_eq_true rfl) ?_
  refine ev_aload_n i_Lw_keepPoints_0 rfl ?_
  refine ev_iconstN (v := 0) i_Lw_keepPoints_1 (by decide) ?_
  refine ev_aload_n i_Lw_keepPoints_2 rfl ?_
  refine ev_iload_n i_Lw_keepPoints_3 rfl ?_
  refine ev_iload_n i_Lw_keepPoints_4 rfl ?_
  refine ev_callVc2 i_Lw_keepPoints_5 rfl h0 (Nat.le_of_ble_eq_true rfl) hm ct_Lw_keepPoints_2 ?_
  refine ev_astQ i_Lw_keepPoints_17 (Nat.le_of_ble_eq_true rfl) ?_
  refine ev_iconstN (v := 2) i_Lw_keepPoints_19 (by decide) ?_
  exact ev_iret i_Lw_keepPoints_20 rfl (by first | rfl | decide)
theorem lw_remainder {scr : Scr} {l : Launch} {S S1 : Sto} {d : Nat} {b : Bool} {x0 x1 x2 : Int32} {v : UInt64} (h0 : S.1[0]? = some (xObj b)) {g : Nat → UInt64} (ho : S1.1[135]? = some (aD 1 g)) (hm : MetA scr l d M_Pr_remainder [.ref 0, .int x0, .int x1, .int x2] S (.inl (some (.double v)), S1)) : MetA scr l (d + 1) M_Lw_remainder [.ref 0, .int x0, .int x1, .int x2, .ref 135] S (.inl (some (.int (nI 0))), S1.put 135 (aD 1 (vf_upd g 0 v))) := by
  refine MetA.ofH (by decide) (by decide +kernel) (Nat.le_of_ble_eq_true rfl) ?_
  refine ev_aload i_Lw_remainder_0 rfl ?_
  refine ev_iconstN (v := 0) i_Lw_remainder_2 (by decide) ?_
  refine ev_aload_n i_Lw_remainder_3 rfl ?_
  refine ev_iload_n i_Lw_remainder_4 rfl ?_
  refine ev_iload_n i_Lw_remainder_5 rfl ?_
  refine ev_iload_n i_Lw_remainder_6 rfl ?_
  refine ev_callV3 i_Lw_remainder_7 rfl h0 (Nat.le_of_ble_eq_true rfl) hm ?_
  refine ev_dastN i_Lw_remainder_10 ho (by decide) (by decide) ?_
  refine ev_goto i_Lw_remainder_11 ?_
  refine ev_iconstN (v := 0) i_Lw_remainder_30 (by decide) ?_
  exact ev_iret i_Lw_remainder_31 rfl (by first | rfl | decide)
theorem lw_remainder_1 {scr : Scr} {l : Launch} {S S1 : Sto} {d : Nat} {b : Bool} {x0 x1 x2 : Int32} (h0 : S.1[0]? = some (xObj b)) (hm : MetA scr l d M_Pr_remainder [.ref 0, .int x0, .int x1, .int x2] S (.inr "java/lang/IllegalArgumentException", S1)) : MetA scr l (d + 1) M_Lw_remainder [.ref 0, .int x0, .int x1, .int x2, .ref 135] S (.inl (some (.int (nI 1))), S1) := by
  refine MetA.ofH (by decide) (by decide +kernel) (Nat.le_of_ble_eq_true rfl) ?_
  refine ev_aload i_Lw_remainder_0 rfl ?_
  refine ev_iconstN (v := 0) i_Lw_remainder_2 (by decide) ?_
  refine ev_aload_n i_Lw_remainder_3 rfl ?_
  refine ev_iload_n i_Lw_remainder_4 rfl ?_
  refine ev_iload_n i_Lw_remainder_5 rfl ?_
  refine ev_iload_n i_Lw_remainder_6 rfl ?_
  refine ev_callVc3 i_Lw_remainder_7 rfl h0 (Nat.le_of_ble_eq_true rfl) hm ct_Lw_remainder_1 ?_
  refine ev_astQ i_Lw_remainder_14 (Nat.le_of_ble_eq_true rfl) ?_
  refine ev_iconstN (v := 1) i_Lw_remainder_16 (by decide) ?_
  exact ev_iret i_Lw_remainder_17 rfl (by first | rfl | decide)
theorem lw_remainder_2 {scr : Scr} {l : Launch} {S S1 : Sto} {d : Nat} {b : Bool} {x0 x1 x2 : Int32} (h0 : S.1[0]? = some (xObj b)) (hm : MetA scr l d M_Pr_remainder [.ref 0, .int x0, .int x1, .int x2] S (.inr "java/lang/IllegalStateException", S1)) : MetA scr l (d + 1) M_Lw_remainder [.ref 0, .int x0, .int x1, .int x2, .ref 135] S (.inl (some (.int (nI 2))), S1) := by
  refine MetA.ofH (by decide) (by decide +kernel) (Nat.le_of_ble_eq_true rfl) ?_
  refine ev_aload i_Lw_remainder_0 rfl ?_
  refine ev_iconstN (v := 0) i_Lw_remainder_2 (by decide) ?_
  refine ev_aload_n i_Lw_remainder_3 rfl ?_
  refine ev_iload_n i_Lw_remainder_4 rfl ?_
  refine ev_iload_n i_Lw_remainder_5 rfl ?_
  refine ev_iload_n i_Lw_remainder_6 rfl ?_
  refine ev_callVc3 i_Lw_remainder_7 rfl h0 (Nat.le_of_ble_eq_true rfl) hm ct_Lw_remainder_2 ?_
  refine ev_astQ i_Lw_remainder_18 (Nat.le_of_ble_eq_true rfl) ?_
  refine ev_iconstN (v := 2) i_Lw_remainder_20 (by decide) ?_
  exact ev_iret i_Lw_remainder_21 rfl (by first | rfl | decide)
theorem lw_remainder_3 {scr : Scr} {l : Launch} {S S1 : Sto} {d : Nat} {b : Bool} {x0 x1 x2 : Int32} (h0 : S.1[0]? = some (xObj b)) (hm : MetA scr l d M_Pr_remainder [.ref 0, .int x0, .int x1, .int x2] S (.inr "java/lang/IndexOutOfBoundsException", S1)) : MetA scr l (d + 1) M_Lw_remainder [.ref 0, .int x0, .int x1, .int x2, .ref 135] S (.inl (some (.int (nI 3))), S1) := by
  refine MetA.ofH (by decide) (by decide +kernel) (Nat.le_of_ble_eq_true rfl) ?_
  refine ev_aload i_Lw_remainder_0 rfl ?_
  refine ev_iconstN (v := 0) i_Lw_remainder_2 (by decide) ?_
  refine ev_aload_n i_Lw_remainder_3 rfl ?_
  refine ev_iload_n i_Lw_remainder_4 rfl ?_
  refine ev_iload_n i_Lw_remainder_5 rfl ?_
  refine ev_iload_n i_Lw_remainder_6 rfl ?_
  refine ev_callVc3 i_Lw_remainder_7 rfl h0 (Nat.le_of_ble_eq_true rfl) hm ct_Lw_remainder_3 ?_
  refine ev_astQ i_Lw_remainder_22 (Nat.le_of_ble_eq_true rfl) ?_
  refine ev_iconstN (v := 3) i_Lw_remainder_24 (by decide) ?_
  exact ev_iret i_Lw_remainder_25 rfl (by first | rfl | decide)
theorem lw_remainder_4 {scr : Scr} {l : Launch} {S S1 : Sto} {d : Nat} {b : Bool} {x0 x1 x2 : Int32} (h0 : S.1[0]? = some (xObj b)) (hm : MetA scr l d M_Pr_remainder [.ref 0, .int x0, .int x1, .int x2] S (.inr "java/lang/ArithmeticException", S1)) : MetA scr l (d + 1) M_Lw_remainder [.ref 0, .int x0, .int x1, .int x2, .ref 135] S (.inl (some (.int (nI 4))), S1) := by
  refine MetA.ofH (by decide) (by decide +kernel) (Nat.le_of_ble_eq_true rfl) ?_
  refine ev_aload i_Lw_remainder_0 rfl ?_
  refine ev_iconstN (v := 0) i_Lw_remainder_2 (by decide) ?_
  refine ev_aload_n i_Lw_remainder_3 rfl ?_
  refine ev_iload_n i_Lw_remainder_4 rfl ?_
  refine ev_iload_n i_Lw_remainder_5 rfl ?_
  refine ev_iload_n i_Lw_remainder_6 rfl ?_
  refine ev_callVc3 i_Lw_remainder_7 rfl h0 (Nat.le_of_ble_eq_true rfl) hm ct_Lw_remainder_4 ?_
  refine ev_astQ i_Lw_remainder_26 (Nat.le_of_ble_eq_true rfl) ?_
  refine ev_iconstN (v := 4) i_Lw_remainder_28 (by decide) ?_
  exact ev_iret i_Lw_remainder_29 rfl (by first | rfl | decide)
theorem lw_restore {scr : Scr} {l : Launch} {S S1 : Sto} {d : Nat} {b : Bool} (h0 : S.1[0]? = some (xObj b)) (hm : MetA scr l d M_Pr_restore [.ref 0] S (.inl none, S1)) : MetA scr l (d + 1) M_Lw_restore [.ref 0] S (.inl (some (.int (nI 0))), S1) := by
  refine MetA.ofH (by decide) (by decide +kernel) (Nat.le_of_ble_eq_true rfl) ?_
  refine ev_aload_n i_Lw_restore_0 rfl ?_
  refine ev_callV0 i_Lw_restore_1 rfl h0 (Nat.le_of_ble_eq_true rfl) hm ?_
  refine ev_goto i_Lw_restore_4 ?_
  refine ev_iconstN (v := 0) i_Lw_restore_10 (by decide) ?_
  exact ev_iret i_Lw_restore_11 rfl (by first | rfl | decide)
theorem lw_restore_1 {scr : Scr} {l : Launch} {S S1 : Sto} {d : Nat} {b : Bool} (h0 : S.1[0]? = some (xObj b)) (hm : MetA scr l d M_Pr_restore [.ref 0] S (.inr "java/lang/IllegalStateException", S1)) : MetA scr l (d + 1) M_Lw_restore [.ref 0] S (.inl (some (.int (nI 1))), S1) := by
  refine MetA.ofH (by decide) (by decide +kernel) (Nat.le_of_ble_eq_true rfl) ?_
  refine ev_aload_n i_Lw_restore_0 rfl ?_
  refine ev_callVc0 i_Lw_restore_1 rfl h0 (Nat.le_of_ble_eq_true rfl) hm ct_Lw_restore_1 ?_
  refine ev_astQ_n i_Lw_restore_7 (Nat.le_of_ble_eq_true rfl) ?_
  refine ev_iconstN (v := 1) i_Lw_restore_8 (by decide) ?_
  exact ev_iret i_Lw_restore_9 rfl (by first | rfl | decide)

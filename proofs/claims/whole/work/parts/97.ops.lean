/-! each case of the law: x and m agree -/
theorem nI_mid {n : Nat} {y : Int32} (hn : n < 2 ^ 30) (h1 : ¬ y < nI 1) (h2 : y ≤ nI n) : ∃ k, 1 ≤ k ∧ k ≤ n ∧ y = nI k := by
  obtain ⟨k, k1, rfl⟩ := nI_rng (x := y) (n := n + 1) (by omega) (fun q => h1 (Int32.lt_trans q (by decide))) (fun q => by
    have := (nI_le_iff (by omega) (by omega)).mp (Int32.le_trans q h2)
    omega)
  refine ⟨k, ?_, by omega, rfl⟩
  rcases Nat.lt_or_ge k 1 with q | q
  · exact absurd ((nI_lt_iff (by omega) (by decide)).mpr q) h1
  · exact q
theorem StepR.okDX {scr : Scr} {l : Launch} {Mx Mw Mm : Mth} {as aw : List Value} {S : Sto} {σ : Sg} {K1 K2 : Nat} {y : UInt64} {n : Int} (h : Jn σ S) (hy : DV y n) (hx : XR scr l K1 Mx (.ref 0 :: as) S (some (.double y)) σ) (hw : ∀ (d : Nat) (S1 : Sto) (g : Nat → UInt64) (b : Bool), S.1[0]? = some (xObj b) → S1.1[135]? = some (aD 1 g) → MetA scr l d Mx (.ref 0 :: as) S (.inl (some (.double y)), S1) → MetA scr l (d + 1) Mw aw S (.inl (some (.int (nI 0))), S1.put 135 (aD 1 (vf_upd g 0 y)))) (hK1 : K1 ≤ 11) (hK : K2 ≤ 12)
    (hm : ∀ S th, MInv th σ S → RowM σ.2.2.2.2.2 S → ∃ z, DV z n ∧ MRun scr l K2 Mm (.ref 105 :: as) S (some (.double z)) 0 σ) : StepR scr l Mw Mm as aw S PD := by
  obtain ⟨S1, m1, x1, f1⟩ := hx
  obtain ⟨g, hg⟩ := h.2.2.2.2
  obtain ⟨g2, hg2⟩ := h.2.2.2.1
  obtain ⟨th, hmi⟩ := h.2.1
  have hg1 : S1.1[135]? = some (aD 1 g) := f1.at hg (fun q => by have := x_lt q; omega)
  have hg3 : S1.1[134]? = some (aJ 1 g2) := f1.at hg2 (fun q => by have := x_lt q; omega)
  have e4 : (S1.put 135 (aD 1 (vf_upd g 0 y))).1[135]? = some (aD 1 (vf_upd g 0 y)) := put_self hg1
  have hF : ∀ j, 105 ≤ j → j < 134 → (S1.put 135 (aD 1 (vf_upd g 0 y))).1[j]? = S.1[j]? := fun j q1 q2 => (put_ne (by omega)).trans (f1.2.2 j (fun q => by have := x_lt q; omega))
  have mT := hmi.fr2 hF (List.length_set.trans f1.1)
  obtain ⟨z, dz, mz⟩ := hm _ th mT (h.2.2.1.fr2 hF)
  obtain ⟨S2, m2, i2, r2, f2⟩ := mz.up (h.2.2.1.fr2 hF) rfl
  have e6 : S2.1[135]? = _ := (f2.2.2 135 (fun q => by have := x_not_m q; omega)).trans e4
  have e7 : S2.1[134]? = _ := (f2.2.2 134 (fun q => by have := x_not_m q; omega)).trans (put_at hg3 (by decide))
  refine ⟨0, _, _, S2, σ, by decide, fun d => hw _ S1 g _ h.1.1 hg1 (MetA.up m1 11 hK1 d), mT.obj14, MetA.up m2 12 hK, ⟨(x1.fr (Fr.put (K := [135]) S1 _ (by simp)) (by simp)).fr f2 (fun k q => (x_not_m q).1), ⟨0, i2⟩, r2, ⟨_, e7⟩, ⟨_, e6⟩⟩, i2, ⟨f2.1.trans (List.length_set.trans f1.1), ?_, ?_⟩, ⟨z, rfl, _, e6, fun _ => ⟨n, by rw [updD_at]; exact hy, dz⟩⟩⟩
  · rw [f2.2.1]
    show S1.2.1 ≤ _
    rw [f1.2.1]
    omega
  · rw [f2.2.1]
    show S1.2.2 ≤ _
    rw [f1.2.1]
    omega
theorem op_appendCharacter {scr : Scr} {l : Launch} {S : Sto} {σ : Sg} (h : Jn σ S) (x : Int32) : StepR scr l M_Lw_appendCharacter M_Md_appendCharacter [.int x] [.ref 0, .int x, .ref 134] S PI := by
  obtain ⟨th0, hm0⟩ := h.2.1
  by_cases hx : inC x
  · skip
    obtain ⟨c, h1, h2, rfl⟩ := hx.get
    by_cases hl : σ.1.length = 60
    · skip
      refine StepR.thr (k := 2) h (XThr.of h.1 (fun d => x_append_2 h.1 h1 h2 hl)) (by decide) (fun d S1 b h0 hm => lw_appendCharacter_2 h0 hm) (by decide) (by decide) (fun S th hm hr => m_append_2 hm (inC.of h1 h2) hl) (fun S2 w => ⟨_, rfl, fun q => absurd q (by decide)⟩)
    · skip
      have h60 := hm0.2.1.1
      refine StepR.okL h (x_append h.1 h1 h2 (by omega)) (fun d S1 g b h0 ho hm => lw_appendCharacter h0 ho hm) (by decide) (by decide) (fun S th hm hr => MRun.up (m_append hm h1 h2 (by omega)) hr rfl) (fun S2 g q e => ⟨_, rfl, fun _ => ⟨g, q, e⟩⟩)
  · skip
    refine StepR.thr (k := 1) h (XThr.of h.1 (fun d => x_append_1 hx)) (by decide) (fun d S1 b h0 hm => lw_appendCharacter_1 h0 hm) (by decide) (by decide) (fun S th hm hr => m_append_1 hm hx) (fun S2 w => ⟨_, rfl, fun q => absurd q (by decide)⟩)
theorem op_setProduction {scr : Scr} {l : Launch} {S : Sto} {σ : Sg} (h : Jn σ S) (x y : Int32) : StepR scr l M_Lw_setProduction M_Md_setProduction [.int x, .int y] [.ref 0, .int x, .int y, .ref 134] S PI := by
  by_cases hx : inR 3 x
  · skip
    obtain ⟨t, lt, rfl⟩ := hx.get (by decide)
    by_cases hy : inR 6 y
    · skip
      obtain ⟨a, la, rfl⟩ := hy.get (by decide)
      by_cases hw : isW σ.1 ∧ σ.1.length ≤ 4
      · skip
        refine StepR.okL h (x_setProd h.1 lt la hw.1 hw.2) (fun d S1 g b h0 ho hm => lw_setProduction h0 ho hm) (by decide) (by decide) (fun S th hm hr => MRun.up (m_setProd hm lt la hw.1 hw.2) hr rfl) (fun S2 g q e => ⟨_, rfl, fun _ => ⟨g, q, e⟩⟩)
      · skip
        refine StepR.thr (k := 2) h (XThr.of h.1 (fun d => x_setProd_2 h.1 lt la hw)) (by decide) (fun d S1 b h0 hm => lw_setProduction_2 h0 hm) (by decide) (by decide) (fun S th hm hr => m_setProd_2 hm lt la hw) (fun S2 w => ⟨_, rfl, fun q => absurd q (by decide)⟩)
    · skip
      refine StepR.thr (k := 1) h (XThr.of h.1 (fun d => x_setProd_1l0 h.1 lt hy)) (by decide) (fun d S1 b h0 hm => lw_setProduction_1 h0 hm) (by decide) (by decide) (fun S th hm hr => m_setProd_1 hm (fun z => hy z.2)) (fun S2 w => ⟨_, rfl, fun q => absurd q (by decide)⟩)
  · skip
    refine StepR.thr (k := 1) h (XThr.of h.1 (fun d => x_setProd_1t h.1 hx)) (by decide) (fun d S1 b h0 hm => lw_setProduction_1 h0 hm) (by decide) (by decide) (fun S th hm hr => m_setProd_1 hm (fun z => hx z.1)) (fun S2 w => ⟨_, rfl, fun q => absurd q (by decide)⟩)
theorem op_addProduction {scr : Scr} {l : Launch} {S : Sto} {σ : Sg} (h : Jn σ S) (x y : Int32) : StepR scr l M_Lw_addProduction M_Md_addProduction [.int x, .int y] [.ref 0, .int x, .int y, .ref 134] S PI := by
  by_cases hx : inR 3 x
  · skip
    obtain ⟨t, lt, rfl⟩ := hx.get (by decide)
    by_cases hy : inR 6 y
    · skip
      obtain ⟨a, la, rfl⟩ := hy.get (by decide)
      by_cases hw : isW σ.1 ∧ σ.1.length ≤ 4
      · skip
        obtain ⟨rc, fs, fl, fe, ti, tr⟩ := live_tab h.1 lt
        have h3b := (tr.1 a la).2.2.1
        by_cases h3 : ((σ.2.1.1 t).1 a).length = 3
        · skip
          refine StepR.thr (k := 3) h (XThr.of h.1 (fun d => x_addProd_3 h.1 lt la hw.1 hw.2 h3)) (by decide) (fun d S1 b h0 hm => lw_addProduction_3 h0 hm) (by decide) (by decide) (fun S th hm hr => m_addProd_3 hm lt la hw.1 hw.2 h3) (fun S2 w => ⟨_, rfl, fun q => absurd q (by decide)⟩)
        · skip
          refine StepR.okL h (x_addProd h.1 lt la hw.1 hw.2 (by omega)) (fun d S1 g b h0 ho hm => lw_addProduction h0 ho hm) (by decide) (by decide) (fun S th hm hr => MRun.up (m_addProd hm lt la hw.1 hw.2 (by omega)) hr rfl) (fun S2 g q e => ⟨_, rfl, fun _ => ⟨g, q, e⟩⟩)
      · skip
        refine StepR.thr (k := 2) h (XThr.of h.1 (fun d => x_addProd_2 h.1 lt la hw)) (by decide) (fun d S1 b h0 hm => lw_addProduction_2 h0 hm) (by decide) (by decide) (fun S th hm hr => m_addProd_2 hm lt la hw) (fun S2 w => ⟨_, rfl, fun q => absurd q (by decide)⟩)
    · skip
      refine StepR.thr (k := 1) h (XThr.of h.1 (fun d => x_addProd_1l0 h.1 lt hy)) (by decide) (fun d S1 b h0 hm => lw_addProduction_1 h0 hm) (by decide) (by decide) (fun S th hm hr => m_addProd_1 hm (fun z => hy z.2)) (fun S2 w => ⟨_, rfl, fun q => absurd q (by decide)⟩)
  · skip
    refine StepR.thr (k := 1) h (XThr.of h.1 (fun d => x_addProd_1t h.1 hx)) (by decide) (fun d S1 b h0 hm => lw_addProduction_1 h0 hm) (by decide) (by decide) (fun S th hm hr => m_addProd_1 hm (fun z => hx z.1)) (fun S2 w => ⟨_, rfl, fun q => absurd q (by decide)⟩)
theorem op_productionCount {scr : Scr} {l : Launch} {S : Sto} {σ : Sg} (h : Jn σ S) (x y : Int32) : StepR scr l M_Lw_productionCount M_Md_productionCount [.int x, .int y] [.ref 0, .int x, .int y, .ref 134] S PI := by
  by_cases hx : inR 3 x
  · skip
    obtain ⟨t, lt, rfl⟩ := hx.get (by decide)
    by_cases hy : inR 6 y
    · skip
      obtain ⟨a, la, rfl⟩ := hy.get (by decide)
      refine StepR.okL h (⟨S, fun d => x_prodCount h.1 lt la, h.1, Fr.rf _ _⟩) (fun d S1 g b h0 ho hm => lw_productionCount h0 ho hm) (by decide) (by decide) (fun S th hm hr => MRun.up (m_prodCount hm lt la) hr rfl) (fun S2 g q e => ⟨_, rfl, fun _ => ⟨g, q, e⟩⟩)
    · skip
      refine StepR.thr (k := 1) h (XThr.of h.1 (fun d => x_prodCount_1l0 h.1 lt hy)) (by decide) (fun d S1 b h0 hm => lw_productionCount_1 h0 hm) (by decide) (by decide) (fun S th hm hr => m_prodCount_1 hm (fun z => hy z.2)) (fun S2 w => ⟨_, rfl, fun q => absurd q (by decide)⟩)
  · skip
    refine StepR.thr (k := 1) h (XThr.of h.1 (fun d => x_prodCount_1t h.1 hx)) (by decide) (fun d S1 b h0 hm => lw_productionCount_1 h0 hm) (by decide) (by decide) (fun S th hm hr => m_prodCount_1 hm (fun z => hx z.1)) (fun S2 w => ⟨_, rfl, fun q => absurd q (by decide)⟩)
theorem op_setContextRule {scr : Scr} {l : Launch} {S : Sto} {σ : Sg} (h : Jn σ S) (x y z : Int32) : StepR scr l M_Lw_setContextRule M_Md_setContextRule [.int x, .int y, .int z] [.ref 0, .int x, .int y, .int z, .ref 134] S PZ := by
  by_cases hx : inR 3 x
  · skip
    obtain ⟨t, lt, rfl⟩ := hx.get (by decide)
    by_cases hy : inR 6 y
    · skip
      obtain ⟨a, la, rfl⟩ := hy.get (by decide)
      by_cases hz : inR 6 z
      · skip
        obtain ⟨c, lc, rfl⟩ := hz.get (by decide)
        by_cases hw : isW σ.1 ∧ σ.1.length ≤ 4
        · skip
          by_cases hs : ((σ.2.1.1 t).2 a c).isSome
          · skip
            have xr := x_setRule (scr := scr) (l := l) h.1 lt la lc hw.1 hw.2 (Or.inl hs)
            rw [if_pos hs] at xr
            refine StepR.okL h (xr) (fun d S1 g b h0 ho hm => lw_setContextRule (z := true) h0 ho hm) (by decide) (by decide) (fun S th hm hr => MRun.up (m_setRule_old hm lt la lc hw.1 hw.2 hs) hr rfl) (fun S2 g q e => ⟨true, rfl, fun _ => ⟨g, q, e⟩⟩)
          · skip
            by_cases hc : rcount (σ.2.1.1 t) < 6
            · skip
              have xr := x_setRule (scr := scr) (l := l) h.1 lt la lc hw.1 hw.2 (Or.inr hc)
              rw [if_neg hs] at xr
              refine StepR.okL h (xr) (fun d S1 g b h0 ho hm => lw_setContextRule (z := false) h0 ho hm) (by decide) (by decide) (fun S th hm hr => MRun.up (m_setRule_new hm lt la lc hw.1 hw.2 hs hc) hr rfl) (fun S2 g q e => ⟨false, rfl, fun _ => ⟨g, q, e⟩⟩)
            · skip
              refine StepR.thr (k := 3) h (XThr.of h.1 (fun d => x_setRule_3 h.1 lt la lc hw.1 hw.2 hs (by omega))) (by decide) (fun d S1 b h0 hm => lw_setContextRule_3 h0 hm) (by decide) (by decide) (fun S th hm hr => m_setRule_3 hm lt la lc hw.1 hw.2 hs (by omega)) (fun S2 w => ⟨false, rfl, fun q => absurd q (by decide)⟩)
        · skip
          refine StepR.thr (k := 2) h (XThr.of h.1 (fun d => x_setRule_2 h.1 lt la lc hw)) (by decide) (fun d S1 b h0 hm => lw_setContextRule_2 h0 hm) (by decide) (by decide) (fun S th hm hr => m_setRule_2 hm lt la lc hw) (fun S2 w => ⟨false, rfl, fun q => absurd q (by decide)⟩)
      · skip
        refine StepR.thr (k := 1) h (XThr.of h.1 (fun d => x_setRule_1l1 h.1 lt la hz)) (by decide) (fun d S1 b h0 hm => lw_setContextRule_1 h0 hm) (by decide) (by decide) (fun S th hm hr => m_setRule_1 hm (fun w => hz w.2.2)) (fun S2 w => ⟨false, rfl, fun q => absurd q (by decide)⟩)
    · skip
      refine StepR.thr (k := 1) h (XThr.of h.1 (fun d => x_setRule_1l0 h.1 lt hy)) (by decide) (fun d S1 b h0 hm => lw_setContextRule_1 h0 hm) (by decide) (by decide) (fun S th hm hr => m_setRule_1 hm (fun w => hy w.2.1)) (fun S2 w => ⟨false, rfl, fun q => absurd q (by decide)⟩)
  · skip
    refine StepR.thr (k := 1) h (XThr.of h.1 (fun d => x_setRule_1t h.1 hx)) (by decide) (fun d S1 b h0 hm => lw_setContextRule_1 h0 hm) (by decide) (by decide) (fun S th hm hr => m_setRule_1 hm (fun w => hx w.1)) (fun S2 w => ⟨false, rfl, fun q => absurd q (by decide)⟩)
theorem op_removeContextRule {scr : Scr} {l : Launch} {S : Sto} {σ : Sg} (h : Jn σ S) (x y z : Int32) : StepR scr l M_Lw_removeContextRule M_Md_removeContextRule [.int x, .int y, .int z] [.ref 0, .int x, .int y, .int z, .ref 134] S PZ := by
  by_cases hx : inR 3 x
  · skip
    obtain ⟨t, lt, rfl⟩ := hx.get (by decide)
    by_cases hy : inR 6 y
    · skip
      obtain ⟨a, la, rfl⟩ := hy.get (by decide)
      by_cases hz : inR 6 z
      · skip
        obtain ⟨c, lc, rfl⟩ := hz.get (by decide)
        by_cases hs : ((σ.2.1.1 t).2 a c).isSome
        · skip
          refine StepR.okL h (x_delRule h.1 lt la lc hs) (fun d S1 g b h0 ho hm => lw_removeContextRule (z := true) h0 ho hm) (by decide) (by decide) (fun S th hm hr => MRun.up (m_delRule hm lt la lc hs) hr rfl) (fun S2 g q e => ⟨true, rfl, fun _ => ⟨g, q, e⟩⟩)
        · skip
          refine StepR.okL h (⟨S, fun d => x_delRule_no h.1 lt la lc hs, h.1, Fr.rf _ _⟩) (fun d S1 g b h0 ho hm => lw_removeContextRule (z := false) h0 ho hm) (by decide) (by decide) (fun S th hm hr => MRun.up (m_delRule_no hm lt la lc hs) hr rfl) (fun S2 g q e => ⟨false, rfl, fun _ => ⟨g, q, e⟩⟩)
      · skip
        refine StepR.thr (k := 1) h (XThr.of h.1 (fun d => x_delRule_1l1 h.1 lt la hz)) (by decide) (fun d S1 b h0 hm => lw_removeContextRule_1 h0 hm) (by decide) (by decide) (fun S th hm hr => m_delRule_1 hm (fun w => hz w.2.2)) (fun S2 w => ⟨false, rfl, fun q => absurd q (by decide)⟩)
    · skip
      refine StepR.thr (k := 1) h (XThr.of h.1 (fun d => x_delRule_1l0 h.1 lt hy)) (by decide) (fun d S1 b h0 hm => lw_removeContextRule_1 h0 hm) (by decide) (by decide) (fun S th hm hr => m_delRule_1 hm (fun w => hy w.2.1)) (fun S2 w => ⟨false, rfl, fun q => absurd q (by decide)⟩)
  · skip
    refine StepR.thr (k := 1) h (XThr.of h.1 (fun d => x_delRule_1t h.1 hx)) (by decide) (fun d S1 b h0 hm => lw_removeContextRule_1 h0 hm) (by decide) (by decide) (fun S th hm hr => m_delRule_1 hm (fun w => hx w.1)) (fun S2 w => ⟨false, rfl, fun q => absurd q (by decide)⟩)
theorem op_isDeterministic {scr : Scr} {l : Launch} {S : Sto} {σ : Sg} (h : Jn σ S) (x : Int32) : StepR scr l M_Lw_isDeterministic M_Md_isDeterministic [.int x] [.ref 0, .int x, .ref 134] S PZ := by
  by_cases hx : inR 3 x
  · skip
    obtain ⟨t, lt, rfl⟩ := hx.get (by decide)
    by_cases hd : isDet (σ.2.1.1 t)
    · skip
      refine StepR.okL h (⟨S, fun d => (x_isDet h.1 lt).1 hd, h.1, Fr.rf _ _⟩) (fun d S1 g b h0 ho hm => lw_isDeterministic (z := true) h0 ho hm) (by decide) (by decide) (fun S th hm hr => MRun.up (m_isDet_y hm lt hd) hr rfl) (fun S2 g q e => ⟨true, rfl, fun _ => ⟨g, q, e⟩⟩)
    · skip
      refine StepR.okL h (⟨S, fun d => (x_isDet h.1 lt).2 hd, h.1, Fr.rf _ _⟩) (fun d S1 g b h0 ho hm => lw_isDeterministic (z := false) h0 ho hm) (by decide) (by decide) (fun S th hm hr => MRun.up (m_isDet_n hm lt hd) hr rfl) (fun S2 g q e => ⟨false, rfl, fun _ => ⟨g, q, e⟩⟩)
  · skip
    refine StepR.thr (k := 1) h (XThr.of h.1 (fun d => x_isDet_1t h.1 hx)) (by decide) (fun d S1 b h0 hm => lw_isDeterministic_1 h0 hm) (by decide) (by decide) (fun S th hm hr => m_isDet_1 hm hx) (fun S2 w => ⟨false, rfl, fun q => absurd q (by decide)⟩)
theorem op_isPlain {scr : Scr} {l : Launch} {S : Sto} {σ : Sg} (h : Jn σ S) (x : Int32) : StepR scr l M_Lw_isPlain M_Md_isPlain [.int x] [.ref 0, .int x, .ref 134] S PZ := by
  by_cases hx : inR 3 x
  · skip
    obtain ⟨t, lt, rfl⟩ := hx.get (by decide)
    by_cases hd : rcount (σ.2.1.1 t) = 0
    · skip
      refine StepR.okL h (⟨S, fun d => (x_isPlain h.1 lt).1 hd, h.1, Fr.rf _ _⟩) (fun d S1 g b h0 ho hm => lw_isPlain (z := true) h0 ho hm) (by decide) (by decide) (fun S th hm hr => MRun.up (m_isPlain_y hm lt hd) hr rfl) (fun S2 g q e => ⟨true, rfl, fun _ => ⟨g, q, e⟩⟩)
    · skip
      refine StepR.okL h (⟨S, fun d => (x_isPlain h.1 lt).2 hd, h.1, Fr.rf _ _⟩) (fun d S1 g b h0 ho hm => lw_isPlain (z := false) h0 ho hm) (by decide) (by decide) (fun S th hm hr => MRun.up (m_isPlain_n hm lt hd) hr rfl) (fun S2 g q e => ⟨false, rfl, fun _ => ⟨g, q, e⟩⟩)
  · skip
    refine StepR.thr (k := 1) h (XThr.of h.1 (fun d => x_isPlain_1t h.1 hx)) (by decide) (fun d S1 b h0 hm => lw_isPlain_1 h0 hm) (by decide) (by decide) (fun S th hm hr => m_isPlain_1 hm hx) (fun S2 w => ⟨false, rfl, fun q => absurd q (by decide)⟩)
theorem op_setWord {scr : Scr} {l : Launch} {S : Sto} {σ : Sg} (h : Jn σ S) : StepR scr l M_Lw_setWord M_Md_setWord [] [.ref 0, .ref 134] S PI := by
  by_cases hw : isW σ.1
  · skip
    refine StepR.okL h (x_setWord h.1 hw) (fun d S1 g b h0 ho hm => lw_setWord h0 ho hm) (by decide) (by decide) (fun S th hm hr => MRun.up (m_setWord hm hw) hr rfl) (fun S2 g q e => ⟨_, rfl, fun _ => ⟨g, q, e⟩⟩)
  · skip
    refine StepR.thr (k := 1) h (XThr.of h.1 (fun d => x_setWord_1 h.1 hw)) (by decide) (fun d S1 b h0 hm => lw_setWord_1 h0 hm) (by decide) (by decide) (fun S th hm hr => m_setWord_1 hm hw) (fun S2 w => ⟨_, rfl, fun q => absurd q (by decide)⟩)
theorem op_setTarget {scr : Scr} {l : Launch} {S : Sto} {σ : Sg} (h : Jn σ S) : StepR scr l M_Lw_setTarget M_Md_setTarget [] [.ref 0, .ref 134] S PI := by
  by_cases hw : isW σ.1
  · skip
    refine StepR.okL h (x_setTarget h.1 hw) (fun d S1 g b h0 ho hm => lw_setTarget h0 ho hm) (by decide) (by decide) (fun S th hm hr => MRun.up (m_setTarget hm hw) hr rfl) (fun S2 g q e => ⟨_, rfl, fun _ => ⟨g, q, e⟩⟩)
  · skip
    refine StepR.thr (k := 1) h (XThr.of h.1 (fun d => x_setTarget_1 h.1 hw)) (by decide) (fun d S1 b h0 hm => lw_setTarget_1 h0 hm) (by decide) (by decide) (fun S th hm hr => m_setTarget_1 hm hw) (fun S2 w => ⟨_, rfl, fun q => absurd q (by decide)⟩)
theorem op_wordLetter {scr : Scr} {l : Launch} {S : Sto} {σ : Sg} (h : Jn σ S) (x : Int32) : StepR scr l M_Lw_wordLetter M_Md_wordLetter [.int x] [.ref 0, .int x, .ref 134] S PI := by
  have h60 := (live_cur h.1).2.1
  by_cases hx : inR σ.2.1.2.1.length x
  · skip
    obtain ⟨i, li, rfl⟩ := hx.get (by omega)
    refine StepR.okL h (⟨S, fun d => x_wordLetter (d := d + 0) h.1 li, h.1, Fr.rf _ _⟩) (fun d S1 g b h0 ho hm => lw_wordLetter h0 ho hm) (by decide) (by decide) (fun S th hm hr => MRun.up (m_wordLetter hm li) hr rfl) (fun S2 g q e => ⟨_, rfl, fun _ => ⟨g, q, e⟩⟩)
  · skip
    refine StepR.thr (k := 1) h (XThr.of (K := 0) h.1 (fun d => x_wordLetter_1 h.1 hx)) (by decide) (fun d S1 b h0 hm => lw_wordLetter_1 h0 hm) (by decide) (by decide) (fun S th hm hr => m_wordLetter_1 hm hx) (fun S2 w => ⟨_, rfl, fun q => absurd q (by decide)⟩)
theorem op_step {scr : Scr} {l : Launch} {S : Sto} {σ : Sg} (h : Jn σ S) (x y : Int32) : StepR scr l M_Lw_step M_Md_step [.int x, .int y] [.ref 0, .int x, .int y, .ref 134] S PI := by
  by_cases hx : inR 3 x
  · skip
    obtain ⟨t, lt, rfl⟩ := hx.get (by decide)
    by_cases hl : (stepW (σ.2.1.1 t) σ.2.1.2.1 y).length ≤ 60
    · skip
      refine StepR.okL h (x_step h.1 lt hl) (fun d S1 g b h0 ho hm => lw_step h0 ho hm) (by decide) (by decide) (fun S th hm hr => MRun.up (m_step hm lt hl) hr rfl) (fun S2 g q e => ⟨_, rfl, fun _ => ⟨g, q, e⟩⟩)
    · skip
      refine StepR.thr (k := 2) h (x_step_2 h.1 lt (by omega)) (by decide) (fun d S1 b h0 hm => lw_step_2 h0 hm) (by decide) (by decide) (fun S th hm hr => m_step_2 hm lt (by omega)) (fun S2 w => ⟨_, rfl, fun q => absurd q (by decide)⟩)
  · skip
    refine StepR.thr (k := 1) h (XThr.of h.1 (fun d => x_step_1 h.1 hx)) (by decide) (fun d S1 b h0 hm => lw_step_1 h0 hm) (by decide) (by decide) (fun S th hm hr => m_step_1 hm hx) (fun S2 w => ⟨_, rfl, fun q => absurd q (by decide)⟩)
theorem op_lengthAfter {scr : Scr} {l : Launch} {S : Sto} {σ : Sg} (h : Jn σ S) (x y : Int32) : StepR scr l M_Lw_lengthAfter M_Md_lengthAfter [.int x, .int y] [.ref 0, .int x, .int y, .ref 134] S PJ := by
  by_cases hx : inR 3 x
  · skip
    obtain ⟨t, lt, rfl⟩ := hx.get (by decide)
    by_cases hy : inR 1001 y
    · skip
      obtain ⟨n, ln, rfl⟩ := hy.get (by decide)
      by_cases hf : fitT (σ.2.1.1 t)
      · skip
        by_cases hg : okG (σ.2.1.1 t) σ.2.1.2.1 n
        · skip
          refine StepR.okL h ((x_lenAfter h.1 lt ln hf).1 hg) (fun d S1 g b h0 ho hm => lw_lengthAfter h0 ho hm) (by decide) (by decide) (fun S th hm hr => MRun.up ((m_lenAfter hm lt ln hf).1 hg) hr rfl) (fun S2 g q e => ⟨_, rfl, fun _ => ⟨g, q, e⟩⟩)
        · skip
          refine StepR.thr (k := 4) h ((x_lenAfter h.1 lt ln hf).2 hg) (by decide) (fun d S1 b h0 hm => lw_lengthAfter_4 h0 hm) (by decide) (by decide) (fun S th hm hr => (m_lenAfter hm lt ln hf).2 hg) (fun S2 w => ⟨_, rfl, fun q => absurd q (by decide)⟩)
      · skip
        refine StepR.thr (k := 3) h (x_lenAfter_3 h.1 lt ln hf) (by decide) (fun d S1 b h0 hm => lw_lengthAfter_3 h0 hm) (by decide) (by decide) (fun S th hm hr => m_lenAfter_3 hm lt ln hf) (fun S2 w => ⟨_, rfl, fun q => absurd q (by decide)⟩)
    · skip
      refine StepR.thr (k := 2) h (x_lenAfter_2 h.1 lt hy) (by decide) (fun d S1 b h0 hm => lw_lengthAfter_2 h0 hm) (by decide) (by decide) (fun S th hm hr => m_lenAfter_2 hm lt hy) (fun S2 w => ⟨_, rfl, fun q => absurd q (by decide)⟩)
  · skip
    refine StepR.thr (k := 1) h (x_lenAfter_1 h.1 hx) (by decide) (fun d S1 b h0 hm => lw_lengthAfter_1 h0 hm) (by decide) (by decide) (fun S th hm hr => m_lenAfter_1 hm hx) (fun S2 w => ⟨_, rfl, fun q => absurd q (by decide)⟩)
theorem op_countAfter {scr : Scr} {l : Launch} {S : Sto} {σ : Sg} (h : Jn σ S) (x y z : Int32) : StepR scr l M_Lw_countAfter M_Md_countAfter [.int x, .int y, .int z] [.ref 0, .int x, .int y, .int z, .ref 134] S PJ := by
  by_cases hx : inR 3 x
  · skip
    obtain ⟨t, lt, rfl⟩ := hx.get (by decide)
    by_cases hz : inR 6 z
    · skip
      obtain ⟨c, lc, rfl⟩ := hz.get (by decide)
      by_cases hy : inR 1001 y
      · skip
        obtain ⟨n, ln, rfl⟩ := hy.get (by decide)
        by_cases hf : fitT (σ.2.1.1 t)
        · skip
          by_cases hg : okG (σ.2.1.1 t) σ.2.1.2.1 n
          · skip
            refine StepR.okL h ((x_cntAfter h.1 lt ln lc hf).1 hg) (fun d S1 g b h0 ho hm => lw_countAfter h0 ho hm) (by decide) (by decide) (fun S th hm hr => MRun.up ((m_cntAfter hm lt ln lc hf).1 hg) hr rfl) (fun S2 g q e => ⟨_, rfl, fun _ => ⟨g, q, e⟩⟩)
          · skip
            refine StepR.thr (k := 4) h ((x_cntAfter h.1 lt ln lc hf).2 hg) (by decide) (fun d S1 b h0 hm => lw_countAfter_4 h0 hm) (by decide) (by decide) (fun S th hm hr => (m_cntAfter hm lt ln lc hf).2 hg) (fun S2 w => ⟨_, rfl, fun q => absurd q (by decide)⟩)
        · skip
          refine StepR.thr (k := 3) h (x_cntAfter_3 h.1 lt ln lc hf) (by decide) (fun d S1 b h0 hm => lw_countAfter_3 h0 hm) (by decide) (by decide) (fun S th hm hr => m_cntAfter_3 hm lt ln lc hf) (fun S2 w => ⟨_, rfl, fun q => absurd q (by decide)⟩)
      · skip
        refine StepR.thr (k := 2) h (x_cntAfter_2 h.1 lt hy lc) (by decide) (fun d S1 b h0 hm => lw_countAfter_2 h0 hm) (by decide) (by decide) (fun S th hm hr => m_cntAfter_2 hm lt hy lc) (fun S2 w => ⟨_, rfl, fun q => absurd q (by decide)⟩)
    · skip
      refine StepR.thr (k := 1) h (x_cntAfter_1l h.1 lt hz) (by decide) (fun d S1 b h0 hm => lw_countAfter_1 h0 hm) (by decide) (by decide) (fun S th hm hr => m_cntAfter_1l hm lt hz) (fun S2 w => ⟨_, rfl, fun q => absurd q (by decide)⟩)
  · skip
    refine StepR.thr (k := 1) h (x_cntAfter_1 h.1 hx) (by decide) (fun d S1 b h0 hm => lw_countAfter_1 h0 hm) (by decide) (by decide) (fun S th hm hr => m_cntAfter_1 hm hx) (fun S2 w => ⟨_, rfl, fun q => absurd q (by decide)⟩)
theorem op_growthKind {scr : Scr} {l : Launch} {S : Sto} {σ : Sg} (h : Jn σ S) (x : Int32) : StepR scr l M_Lw_growthKind M_Md_growthKind [.int x] [.ref 0, .int x, .ref 134] S PI := by
  by_cases hx : inR 3 x
  · skip
    obtain ⟨t, lt, rfl⟩ := hx.get (by decide)
    by_cases hf : fitT (σ.2.1.1 t)
    · skip
      by_cases hg : gM (σ.2.1.1 t) σ.2.1.2.1 = 1001
      · skip
        refine StepR.okL h ((x_grKind h.1 lt hf).2 hg) (fun d S1 g b h0 ho hm => lw_growthKind h0 ho hm) (by decide) (by decide) (fun S th hm hr => MRun.up ((m_grKind hm lt hf).2 hg) hr rfl) (fun S2 g q e => ⟨_, rfl, fun _ => ⟨g, q, e⟩⟩)
      · skip
        refine StepR.okL h ((x_grKind h.1 lt hf).1 hg) (fun d S1 g b h0 ho hm => lw_growthKind h0 ho hm) (by decide) (by decide) (fun S th hm hr => MRun.up ((m_grKind hm lt hf).1 hg) hr rfl) (fun S2 g q e => ⟨_, rfl, fun _ => ⟨g, q, e⟩⟩)
    · skip
      refine StepR.thr (k := 2) h (x_grKind_2 h.1 lt hf) (by decide) (fun d S1 b h0 hm => lw_growthKind_2 h0 hm) (by decide) (by decide) (fun S th hm hr => m_grKind_2 hm lt hf) (fun S2 w => ⟨_, rfl, fun q => absurd q (by decide)⟩)
  · skip
    refine StepR.thr (k := 1) h (x_grKind_1 h.1 hx) (by decide) (fun d S1 b h0 hm => lw_growthKind_1 h0 hm) (by decide) (by decide) (fun S th hm hr => m_grKind_1 hm hx) (fun S2 w => ⟨_, rfl, fun q => absurd q (by decide)⟩)
theorem op_growthDegree {scr : Scr} {l : Launch} {S : Sto} {σ : Sg} (h : Jn σ S) (x : Int32) : StepR scr l M_Lw_growthDegree M_Md_growthDegree [.int x] [.ref 0, .int x, .ref 134] S PI := by
  by_cases hx : inR 3 x
  · skip
    obtain ⟨t, lt, rfl⟩ := hx.get (by decide)
    by_cases hf : fitT (σ.2.1.1 t)
    · skip
      by_cases hg : gM (σ.2.1.1 t) σ.2.1.2.1 = 1001
      · skip
        refine StepR.thr (k := 3) h ((x_grDeg h.1 lt hf).2 hg) (by decide) (fun d S1 b h0 hm => lw_growthDegree_3 h0 hm) (by decide) (by decide) (fun S th hm hr => (m_grDeg hm lt hf).2 hg) (fun S2 w => ⟨_, rfl, fun q => absurd q (by decide)⟩)
      · skip
        refine StepR.okL h ((x_grDeg h.1 lt hf).1 hg) (fun d S1 g b h0 ho hm => lw_growthDegree h0 ho hm) (by decide) (by decide) (fun S th hm hr => MRun.up ((m_grDeg hm lt hf).1 hg) hr rfl) (fun S2 g q e => ⟨_, rfl, fun _ => ⟨g, q, e⟩⟩)
    · skip
      refine StepR.thr (k := 2) h (x_grDeg_2 h.1 lt hf) (by decide) (fun d S1 b h0 hm => lw_growthDegree_2 h0 hm) (by decide) (by decide) (fun S th hm hr => m_grDeg_2 hm lt hf) (fun S2 w => ⟨_, rfl, fun q => absurd q (by decide)⟩)
  · skip
    refine StepR.thr (k := 1) h (x_grDeg_1 h.1 hx) (by decide) (fun d S1 b h0 hm => lw_growthDegree_1 h0 hm) (by decide) (by decide) (fun S th hm hr => m_grDeg_1 hm hx) (fun S2 w => ⟨_, rfl, fun q => absurd q (by decide)⟩)
theorem op_recurrenceOrder {scr : Scr} {l : Launch} {S : Sto} {σ : Sg} (h : Jn σ S) (x : Int32) : StepR scr l M_Lw_recurrenceOrder M_Md_recurrenceOrder [.int x] [.ref 0, .int x, .ref 134] S PI := by
  by_cases hx : inR 3 x
  · skip
    obtain ⟨t, lt, rfl⟩ := hx.get (by decide)
    by_cases hf : fitT (σ.2.1.1 t)
    · skip
      refine StepR.okL h (x_recOrd h.1 lt hf) (fun d S1 g b h0 ho hm => lw_recurrenceOrder h0 ho hm) (by decide) (by decide) (fun S th hm hr => MRun.up (m_recOrd hm lt hf) hr rfl) (fun S2 g q e => ⟨_, rfl, fun _ => ⟨g, q, e⟩⟩)
    · skip
      refine StepR.thr (k := 2) h (x_recOrd_2 h.1 lt hf) (by decide) (fun d S1 b h0 hm => lw_recurrenceOrder_2 h0 hm) (by decide) (by decide) (fun S th hm hr => m_recOrd_2 hm lt hf) (fun S2 w => ⟨_, rfl, fun q => absurd q (by decide)⟩)
  · skip
    refine StepR.thr (k := 1) h (x_recOrd_1 h.1 hx) (by decide) (fun d S1 b h0 hm => lw_recurrenceOrder_1 h0 hm) (by decide) (by decide) (fun S th hm hr => m_recOrd_1 hm hx) (fun S2 w => ⟨_, rfl, fun q => absurd q (by decide)⟩)
theorem op_recurrenceCoefficient {scr : Scr} {l : Launch} {S : Sto} {σ : Sg} (h : Jn σ S) (x y : Int32) : StepR scr l M_Lw_recurrenceCoefficient M_Md_recurrenceCoefficient [.int x, .int y] [.ref 0, .int x, .int y, .ref 134] S PI := by
  by_cases hx : inR 3 x
  · skip
    obtain ⟨t, lt, rfl⟩ := hx.get (by decide)
    by_cases hf : fitT (σ.2.1.1 t)
    · skip
      by_cases hq : ¬ y < nI 1 ∧ y ≤ nI (recO (σ.2.1.1 t) σ.2.1.2.1)
      · skip
        obtain ⟨k, k1, k2, rfl⟩ := nI_mid (Nat.lt_of_le_of_lt (rec_spec _ _).1 (by decide)) hq.1 hq.2
        refine StepR.okL h (x_recCo h.1 lt hf k1 k2) (fun d S1 g b h0 ho hm => lw_recurrenceCoefficient h0 ho hm) (by decide) (by decide) (fun S th hm hr => MRun.up (m_recCo hm lt hf k1 k2) hr rfl) (fun S2 g q e => ⟨_, rfl, fun _ => ⟨g, q, e⟩⟩)
      · skip
        refine StepR.thr (k := 3) h (x_recCo_3 h.1 lt hf hq) (by decide) (fun d S1 b h0 hm => lw_recurrenceCoefficient_3 h0 hm) (by decide) (by decide) (fun S th hm hr => m_recCo_3 hm lt hf hq) (fun S2 w => ⟨_, rfl, fun q => absurd q (by decide)⟩)
    · skip
      refine StepR.thr (k := 2) h (x_recCo_2 h.1 lt hf) (by decide) (fun d S1 b h0 hm => lw_recurrenceCoefficient_2 h0 hm) (by decide) (by decide) (fun S th hm hr => m_recCo_2 hm lt hf) (fun S2 w => ⟨_, rfl, fun q => absurd q (by decide)⟩)
  · skip
    refine StepR.thr (k := 1) h (x_recCo_1 h.1 hx) (by decide) (fun d S1 b h0 hm => lw_recurrenceCoefficient_1 h0 hm) (by decide) (by decide) (fun S th hm hr => m_recCo_1 hm hx) (fun S2 w => ⟨_, rfl, fun q => absurd q (by decide)⟩)
theorem op_isAdult {scr : Scr} {l : Launch} {S : Sto} {σ : Sg} (h : Jn σ S) (x : Int32) : StepR scr l M_Lw_isAdult M_Md_isAdult [.int x] [.ref 0, .int x, .ref 134] S PZ := by
  by_cases hx : inR 3 x
  · skip
    obtain ⟨t, lt, rfl⟩ := hx.get (by decide)
    refine StepR.okL h (x_isAdult h.1 lt) (fun d S1 g b h0 ho hm => lw_isAdult (z := _) h0 ho hm) (by decide) (by decide) (fun S th hm hr => MRun.up (m_isAdult hm lt) hr rfl) (fun S2 g q e => ⟨_, rfl, fun _ => ⟨g, q, e⟩⟩)
  · skip
    refine StepR.thr (k := 1) h (x_isAdult_1 h.1 hx) (by decide) (fun d S1 b h0 hm => lw_isAdult_1 h0 hm) (by decide) (by decide) (fun S th hm hr => m_isAdult_1 hm hx) (fun S2 w => ⟨false, rfl, fun q => absurd q (by decide)⟩)
theorem op_stepsToAdult {scr : Scr} {l : Launch} {S : Sto} {σ : Sg} (h : Jn σ S) (x y : Int32) : StepR scr l M_Lw_stepsToAdult M_Md_stepsToAdult [.int x, .int y] [.ref 0, .int x, .int y, .ref 134] S PI := by
  by_cases hx : inR 3 x
  · skip
    obtain ⟨t, lt, rfl⟩ := hx.get (by decide)
    by_cases hy : inR 51 y
    · skip
      obtain ⟨n, ln, rfl⟩ := hy.get (by decide)
      by_cases hd : isDet (σ.2.1.1 t)
      · skip
        cases ha : adS (σ.2.1.1 t) (n + 1) σ.2.1.2.1 with
        | some k =>
          have mm := fun (S : Sto) (th : Nat) (hm : MInv th σ S) => m_stepsAd (scr := scr) (l := l) hm lt ln hd
          rw [ha] at mm
          have mm : ∀ (S : Sto) (th : Nat), MInv th σ S → MRun scr l 6 M_Md_stepsToAdult [.ref 105, .int (nI t), .int (nI n)] S (some (.int (nI k))) 0 σ := fun S th hm => by
            have := mm S th hm
            rw [show adV (some k) 0 = k from Nat.zero_add k] at this
            exact this
          refine StepR.okL h (x_stepsAd h.1 lt ln hd ha) (fun d S1 g b h0 ho hm => lw_stepsToAdult h0 ho hm) (by decide) (by decide) (fun S th hm hr => MRun.up (mm S th hm) hr rfl) (fun S2 g q e => ⟨_, rfl, fun _ => ⟨g, q, e⟩⟩)
        | none =>
          have mm := fun (S : Sto) (th : Nat) (hm : MInv th σ S) => m_stepsAd (scr := scr) (l := l) hm lt ln hd
          rw [ha] at mm
          refine StepR.thr (k := 4) h (x_stepsAd_4 h.1 lt ln hd ha) (by decide) (fun d S1 b h0 hm => lw_stepsToAdult_4 h0 hm) (by decide) (by decide) (fun S th hm hr => mm S th hm) (fun S2 w => ⟨_, rfl, fun q => absurd q (by decide)⟩)
      · skip
        refine StepR.thr (k := 3) h (x_stepsAd_3 h.1 lt ln hd) (by decide) (fun d S1 b h0 hm => lw_stepsToAdult_3 h0 hm) (by decide) (by decide) (fun S th hm hr => m_stepsAd_3 hm lt ln hd) (fun S2 w => ⟨_, rfl, fun q => absurd q (by decide)⟩)
    · skip
      refine StepR.thr (k := 2) h (x_stepsAd_2 h.1 lt hy) (by decide) (fun d S1 b h0 hm => lw_stepsToAdult_2 h0 hm) (by decide) (by decide) (fun S th hm hr => m_stepsAd_2 hm lt hy) (fun S2 w => ⟨_, rfl, fun q => absurd q (by decide)⟩)
  · skip
    refine StepR.thr (k := 1) h (x_stepsAd_1 h.1 hx) (by decide) (fun d S1 b h0 hm => lw_stepsToAdult_1 h0 hm) (by decide) (by decide) (fun S th hm hr => m_stepsAd_1 hm hx) (fun S2 w => ⟨_, rfl, fun q => absurd q (by decide)⟩)
theorem op_adultWords {scr : Scr} {l : Launch} {S : Sto} {σ : Sg} (h : Jn σ S) (x y : Int32) : StepR scr l M_Lw_adultWords M_Md_adultWords [.int x, .int y] [.ref 0, .int x, .int y, .ref 134] S PI := by
  by_cases hx : inR 3 x
  · skip
    obtain ⟨t, lt, rfl⟩ := hx.get (by decide)
    by_cases hy : inR 5 y
    · skip
      obtain ⟨n, ln, rfl⟩ := hy.get (by decide)
      refine StepR.okL h (x_adWords h.1 lt ln) (fun d S1 g b h0 ho hm => lw_adultWords h0 ho hm) (by decide) (by decide) (fun S th hm hr => MRun.up (m_adWords hm lt ln) hr rfl) (fun S2 g q e => ⟨_, rfl, fun _ => ⟨g, q, e⟩⟩)
    · skip
      refine StepR.thr (k := 2) h (x_adWords_2 h.1 lt hy) (by decide) (fun d S1 b h0 hm => lw_adultWords_2 h0 hm) (by decide) (by decide) (fun S th hm hr => m_adWords_2 hm lt hy) (fun S2 w => ⟨_, rfl, fun q => absurd q (by decide)⟩)
  · skip
    refine StepR.thr (k := 1) h (x_adWords_1 h.1 hx) (by decide) (fun d S1 b h0 hm => lw_adultWords_1 h0 hm) (by decide) (by decide) (fun S th hm hr => m_adWords_1 hm hx) (fun S2 w => ⟨_, rfl, fun q => absurd q (by decide)⟩)
theorem op_ways {scr : Scr} {l : Launch} {S : Sto} {σ : Sg} (h : Jn σ S) (x : Int32) : StepR scr l M_Lw_ways M_Md_ways [.int x] [.ref 0, .int x, .ref 134] S PJ := by
  by_cases hx : inR 3 x
  · skip
    obtain ⟨t, lt, rfl⟩ := hx.get (by decide)
    by_cases hg : (Fw (σ.2.1.1 t) σ.2.1.2.1 σ.2.1.2.2.1 σ.2.1.2.1.length σ.2.1.2.2.1.length) < 2 ^ 63
    · skip
      refine StepR.okL h ((x_ways h.1 lt).1 hg) (fun d S1 g b h0 ho hm => lw_ways h0 ho hm) (by decide) (by decide) (fun S th hm hr => MRun.up ((m_ways hm lt).1 hg) hr rfl) (fun S2 g q e => ⟨_, rfl, fun _ => ⟨g, q, e⟩⟩)
    · skip
      refine StepR.thr (k := 2) h ((x_ways h.1 lt).2 hg) (by decide) (fun d S1 b h0 hm => lw_ways_2 h0 hm) (by decide) (by decide) (fun S th hm hr => (m_ways hm lt).2 hg) (fun S2 w => ⟨_, rfl, fun q => absurd q (by decide)⟩)
  · skip
    refine StepR.thr (k := 1) h (x_ways_1 h.1 hx) (by decide) (fun d S1 b h0 hm => lw_ways_1 h0 hm) (by decide) (by decide) (fun S th hm hr => m_ways_1 hm hx) (fun S2 w => ⟨_, rfl, fun q => absurd q (by decide)⟩)
theorem op_sequenceCount {scr : Scr} {l : Launch} {S : Sto} {σ : Sg} (h : Jn σ S) (x : Int32) : StepR scr l M_Lw_sequenceCount M_Md_sequenceCount [.int x] [.ref 0, .int x, .ref 134] S PI := by
  by_cases hx : inR 6 x
  · skip
    obtain ⟨n, ln, rfl⟩ := hx.get (by decide)
    by_cases hd : allDet σ.2.1
    · skip
      refine StepR.okL h (x_seqCount h.1 ln hd) (fun d S1 g b h0 ho hm => lw_sequenceCount h0 ho hm) (by decide) (by decide) (fun S th hm hr => MRun.up (m_seqCount hm ln hd) hr rfl) (fun S2 g q e => ⟨_, rfl, fun _ => ⟨g, q, e⟩⟩)
    · skip
      refine StepR.thr (k := 2) h (x_seqCount_2 h.1 ln hd) (by decide) (fun d S1 b h0 hm => lw_sequenceCount_2 h0 hm) (by decide) (by decide) (fun S th hm hr => m_seqCount_2 hm ln hd) (fun S2 w => ⟨_, rfl, fun q => absurd q (by decide)⟩)
  · skip
    refine StepR.thr (k := 1) h (x_seqCount_1 h.1 hx) (by decide) (fun d S1 b h0 hm => lw_sequenceCount_1 h0 hm) (by decide) (by decide) (fun S th hm hr => m_seqCount_1 hm hx) (fun S2 w => ⟨_, rfl, fun q => absurd q (by decide)⟩)
theorem op_firstSequence {scr : Scr} {l : Launch} {S : Sto} {σ : Sg} (h : Jn σ S) (x : Int32) : StepR scr l M_Lw_firstSequence M_Md_firstSequence [.int x] [.ref 0, .int x, .ref 134] S PI := by
  obtain ⟨th0, hm0⟩ := h.2.1
  by_cases hx : inR 6 x
  · skip
    obtain ⟨n, ln, rfl⟩ := hx.get (by decide)
    by_cases hd : allDet σ.2.1
    · skip
      cases ha : sqL σ.2.1.1 σ.2.1.2.2.1 n σ.2.1.2.1 0 with
      | nil =>
        refine StepR.thr (k := 3) h (x_seqFirst_3 h.1 ln hd ha) (by decide) (fun d S1 b h0 hm => lw_firstSequence_3 h0 hm) (by decide) (by decide) (fun S th hm hr => (m_seqFirst hm ln hd).1 ha) (fun S2 w => ⟨_, rfl, fun q => absurd q (by decide)⟩)
      | cons a L =>
        have h31 := ((m_seqFirst (scr := scr) (l := l) hm0 ln hd).2 a L ha).1
        refine StepR.okL h (x_seqFirst h.1 ln hd ha h31) (fun d S1 g b h0 ho hm => lw_firstSequence h0 ho hm) (by decide) (by decide) (fun S th hm hr => MRun.up (((m_seqFirst hm ln hd).2 a L ha).2) hr rfl) (fun S2 g q e => ⟨_, rfl, fun _ => ⟨g, q, e⟩⟩)
    · skip
      refine StepR.thr (k := 2) h (x_seqFirst_2 h.1 ln hd) (by decide) (fun d S1 b h0 hm => lw_firstSequence_2 h0 hm) (by decide) (by decide) (fun S th hm hr => m_seqFirst_2 hm ln hd) (fun S2 w => ⟨_, rfl, fun q => absurd q (by decide)⟩)
  · skip
    refine StepR.thr (k := 1) h (x_seqFirst_1 h.1 hx) (by decide) (fun d S1 b h0 hm => lw_firstSequence_1 h0 hm) (by decide) (by decide) (fun S th hm hr => m_seqFirst_1 hm hx) (fun S2 w => ⟨_, rfl, fun q => absurd q (by decide)⟩)
theorem op_setCommand {scr : Scr} {l : Launch} {S : Sto} {σ : Sg} (h : Jn σ S) (x : Int32) : StepR scr l M_Lw_setCommand M_Md_setCommand [.int x] [.ref 0, .int x] S PV := by
  by_cases hx : inR 6 x
  · skip
    obtain ⟨a, la, rfl⟩ := hx.get (by decide)
    obtain ⟨k, hk⟩ := cmd_ex σ.1
    have hk7 := hk.1
    by_cases h7 : k = 7
    · skip
      refine StepR.thr (k := 2) h (x_setCmd_2 h.1 la hk h7) (by decide) (fun d S1 b h0 hm => lw_setCommand_2 h0 hm) (by decide) (by decide) (fun S th hm hr => m_setCmd_2 hm la hk h7) (fun S2 w => rfl)
    · skip
      refine StepR.okV h (x_setCmd h.1 la hk (by omega)) (fun d S1 b h0 hm => lw_setCommand h0 hm) (by decide) (by decide) (fun S th hm hr => MRun.up (m_setCmd hm la hk (by omega)) hr rfl) (fun S2 => rfl)
  · skip
    refine StepR.thr (k := 1) h (x_setCmd_1 h.1 hx) (by decide) (fun d S1 b h0 hm => lw_setCommand_1 h0 hm) (by decide) (by decide) (fun S th hm hr => m_setCmd_1 hm hx) (fun S2 w => rfl)
theorem op_segmentCount {scr : Scr} {l : Launch} {S : Sto} {σ : Sg} (h : Jn σ S) : StepR scr l M_Lw_segmentCount M_Md_segmentCount [] [.ref 0, .ref 134] S PI := by
  cases hG : fgS σ with
  | some G =>
    refine StepR.okL h (x_segs h.1 hG) (fun d S1 g b h0 ho hm => lw_segmentCount h0 ho hm) (by decide) (by decide) (fun S th hm hr => MRun.up (m_segs hm hG) hr rfl) (fun S2 g q e => ⟨_, rfl, fun _ => ⟨g, q, e⟩⟩)
  | none =>
    refine StepR.thr (k := 1) h (x_segs_1 h.1 hG) (by decide) (fun d S1 b h0 hm => lw_segmentCount_1 h0 hm) (by decide) (by decide) (fun S th hm hr => m_segs_1 hm hG) (fun S2 w => ⟨_, rfl, fun q => absurd q (by decide)⟩)
theorem op_openDepth {scr : Scr} {l : Launch} {S : Sto} {σ : Sg} (h : Jn σ S) : StepR scr l M_Lw_openDepth M_Md_openDepth [] [.ref 0, .ref 134] S PI := by
  cases hG : fgS σ with
  | some G =>
    refine StepR.okL h (x_deep h.1 hG) (fun d S1 g b h0 ho hm => lw_openDepth h0 ho hm) (by decide) (by decide) (fun S th hm hr => MRun.up (m_deep hm hG) hr rfl) (fun S2 g q e => ⟨_, rfl, fun _ => ⟨g, q, e⟩⟩)
  | none =>
    refine StepR.thr (k := 1) h (x_deep_1 h.1 hG) (by decide) (fun d S1 b h0 hm => lw_openDepth_1 h0 hm) (by decide) (by decide) (fun S th hm hr => m_deep_1 hm hG) (fun S2 w => ⟨_, rfl, fun q => absurd q (by decide)⟩)
theorem op_inkLength {scr : Scr} {l : Launch} {S : Sto} {σ : Sg} (h : Jn σ S) : StepR scr l M_Lw_inkLength M_Md_inkLength [] [.ref 0, .ref 135] S PD := by
  cases hG : fgS σ with
  | some G =>
    have hV := fig_ok (by have := (live_cur h.1).2.1; omega) hG
    refine StepR.okDX h (hV.2.2.2.2.2.1.1) (x_ink h.1 hG) (fun d S1 g b h0 ho hm => lw_inkLength h0 ho hm) (by decide) (by decide) (fun S th hm hr => m_ink hm hG)
  | none =>
    refine StepR.thr (k := 1) h (x_ink_1 h.1 hG) (by decide) (fun d S1 b h0 hm => lw_inkLength_1 h0 hm) (by decide) (by decide) (fun S th hm hr => m_ink_1 hm hG) (fun S2 w => ⟨_, rfl, w.choose, w.choose_spec, fun q => absurd q (by decide)⟩)
theorem op_extent {scr : Scr} {l : Launch} {S : Sto} {σ : Sg} (h : Jn σ S) (x : Int32) : StepR scr l M_Lw_extent M_Md_extent [.int x] [.ref 0, .int x, .ref 135] S PD := by
  by_cases hx : inR 4 x
  · skip
    obtain ⟨s, ls, rfl⟩ := hx.get (by decide)
    cases hG : fgS σ with
    | some G =>
      obtain ⟨z, dz, xz⟩ := x_ext (scr := scr) (l := l) h.1 ls hG
      refine StepR.okDX h (dz) (xz) (fun d S1 g b h0 ho hm => lw_extent h0 ho hm) (by decide) (by decide) (fun S th hm hr => m_ext hm ls hG)
    | none =>
      refine StepR.thr (k := 2) h (x_ext_2 h.1 ls hG) (by decide) (fun d S1 b h0 hm => lw_extent_2 h0 hm) (by decide) (by decide) (fun S th hm hr => m_ext_2 hm ls hG) (fun S2 w => ⟨_, rfl, w.choose, w.choose_spec, fun q => absurd q (by decide)⟩)
  · skip
    refine StepR.thr (k := 1) h (x_ext_1 h.1 hx) (by decide) (fun d S1 b h0 hm => lw_extent_1 h0 hm) (by decide) (by decide) (fun S th hm hr => m_ext_1 hm hx) (fun S2 w => ⟨_, rfl, w.choose, w.choose_spec, fun q => absurd q (by decide)⟩)
theorem op_keepPoints {scr : Scr} {l : Launch} {S : Sto} {σ : Sg} (h : Jn σ S) (x : Int32) (z : Bool) : StepR scr l M_Lw_keepPoints M_Md_keepPoints [.int x, .int (nI (bI z))] [.ref 0, .int x, .int (nI (bI z)), .ref 134] S PI := by
  by_cases hx : inR 2 x
  · skip
    obtain ⟨w, lw, rfl⟩ := hx.get (by decide)
    cases hG : fgS σ with
    | some G =>
      refine StepR.okL h (x_keepPts (b := z) h.1 lw hG) (fun d S1 g b h0 ho hm => lw_keepPoints h0 ho hm) (by decide) (by decide) (fun S th hm hr => m_keepPts hm hr lw hG) (fun S2 g q e => ⟨_, rfl, fun _ => ⟨g, q, e⟩⟩)
    | none =>
      refine StepR.thr (k := 2) h (x_keepPts_2 h.1 lw hG) (by decide) (fun d S1 b h0 hm => lw_keepPoints_2 h0 hm) (by decide) (by decide) (fun S th hm hr => m_keepPts_2 hm lw hG) (fun S2 w => ⟨_, rfl, fun q => absurd q (by decide)⟩)
  · skip
    refine StepR.thr (k := 1) h (x_keepPts_1 h.1 hx) (by decide) (fun d S1 b h0 hm => lw_keepPoints_1 h0 hm) (by decide) (by decide) (fun S th hm hr => m_keepPts_1 hm hx) (fun S2 w => ⟨_, rfl, fun q => absurd q (by decide)⟩)
theorem op_remainder {scr : Scr} {l : Launch} {S : Sto} {σ : Sg} (h : Jn σ S) (x y z : Int32) : StepR scr l M_Lw_remainder M_Md_remainder [.int x, .int y, .int z] [.ref 0, .int x, .int y, .int z, .ref 135] S PD := by
  by_cases hx : inR 2 x
  · skip
    obtain ⟨w, lw, rfl⟩ := hx.get (by decide)
    obtain ⟨-, ⟨fl, gb, b1, b2⟩, -⟩ := id h.2.2.1
    have h122 := (b2 w lw).2.1
    by_cases h0 : (σ.2.2.2.2.2 w).1 = 0
    · skip
      refine StepR.thr (k := 2) h (x_rem_2 h.1 lw h0) (by decide) (fun d S1 b h0 hm => lw_remainder_2 h0 hm) (by decide) (by decide) (fun S th hm hr => m_rem_2 hm hr lw h0) (fun S2 w => ⟨_, rfl, w.choose, w.choose_spec, fun q => absurd q (by decide)⟩)
    · skip
      by_cases hy : inR (σ.2.2.2.2.2 w).1 y
      · skip
        by_cases hz : inR (σ.2.2.2.2.2 w).1 z
        · skip
          obtain ⟨i, li, rfl⟩ := hy.get (by omega)
          obtain ⟨j, lj, rfl⟩ := hz.get (by omega)
          obtain ⟨ka, da, ba, -⟩ := (b2 w lw).2.2 i li
          obtain ⟨kb, db, bb, -⟩ := (b2 w lw).2.2 j lj
          by_cases hb : kb = 0
          · skip
            refine StepR.thr (k := 4) h (x_rem_4 h.1 lw li lj da db ba bb hb) (by decide) (fun d S1 b h0 hm => lw_remainder_4 h0 hm) (by decide) (by decide) (fun S th hm hr => m_rem_4 hm hr lw li lj da db hb) (fun S2 w => ⟨_, rfl, w.choose, w.choose_spec, fun q => absurd q (by decide)⟩)
          · skip
            obtain ⟨z, dz, xz⟩ := x_rem (scr := scr) (l := l) h.1 lw li lj da db ba bb hb
            refine StepR.okDX h (dz) (xz) (fun d S1 g b h0 ho hm => lw_remainder h0 ho hm) (by decide) (by decide) (fun S th hm hr => m_rem hm hr lw li lj da db hb)
        · skip
          refine StepR.thr (k := 3) h (x_rem_3 h.1 lw h0 (fun q => hz q.2)) (by decide) (fun d S1 b h0 hm => lw_remainder_3 h0 hm) (by decide) (by decide) (fun S th hm hr => m_rem_3b hm hr lw h0 hy hz) (fun S2 w => ⟨_, rfl, w.choose, w.choose_spec, fun q => absurd q (by decide)⟩)
      · skip
        refine StepR.thr (k := 3) h (x_rem_3 h.1 lw h0 (fun q => hy q.1)) (by decide) (fun d S1 b h0 hm => lw_remainder_3 h0 hm) (by decide) (by decide) (fun S th hm hr => m_rem_3a hm hr lw h0 hy) (fun S2 w => ⟨_, rfl, w.choose, w.choose_spec, fun q => absurd q (by decide)⟩)
  · skip
    refine StepR.thr (k := 1) h (x_rem_1 h.1 hx) (by decide) (fun d S1 b h0 hm => lw_remainder_1 h0 hm) (by decide) (by decide) (fun S th hm hr => m_rem_1 hm hx) (fun S2 w => ⟨_, rfl, w.choose, w.choose_spec, fun q => absurd q (by decide)⟩)
theorem op_restore {scr : Scr} {l : Launch} {S : Sto} {σ : Sg} (h : Jn σ S) : StepR scr l M_Lw_restore M_Md_restore [] [.ref 0] S PV := by
  by_cases hs : σ.2.2.2.1 = true
  · skip
    refine StepR.okV h (x_restore h.1 hs) (fun d S1 b h0 hm => lw_restore h0 hm) (by decide) (by decide) (fun S th hm hr => MRun.up (m_restore hm hs) hr rfl) (fun S2 => rfl)
  · skip
    have hs : σ.2.2.2.1 = false := by simpa using hs
    refine StepR.thr (k := 1) h (XThr.of h.1 (fun d => x_restore_1 h.1 hs)) (by decide) (fun d S1 b h0 hm => lw_restore_1 h0 hm) (by decide) (by decide) (fun S th hm hr => m_restore_1 hm hs) (fun S2 w => rfl)

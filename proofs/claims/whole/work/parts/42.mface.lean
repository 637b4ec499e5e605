/-! the model m: its face, the plain methods -/
abbrev mO (th : Nat) (σ : Sg) (dr mo sc : Int32) : ACell := mObj (nI th) (nI σ.1.length) (nI σ.2.2.2.2.1.length) (nI (bI σ.2.2.2.1)) dr mo sc
abbrev mK : List Nat := List.range' 105 26
theorem Fr.m {K : List Nat} {S1 S2 : Sto} (h : Fr K S1 S2) (hk : ∀ k, k ∈ K → 105 ≤ k ∧ k < 131) : Fr mK S1 S2 := h.mono (fun k q => by rw [List.mem_range'_1]; have := hk k q; omega)
/-- a call on m: its answer v, its code k, its state behind it -/
def MRun (scr : Scr) (l : Launch) (K : Nat) (M : Mth) (as : List Value) (S : Sto) (v : Option Value) (k : Nat) (σ : Sg) : Prop := ∃ S1, (∀ d, MetA scr l (d + K) M as S (.inl v, S1)) ∧ MInv k σ S1 ∧ Fr mK S S1
theorem MInv.th {th k : Nat} {σ : Sg} {S : Sto} {dr mo sc : Int32} (h : MInv th σ S) (h0 : S.1[105]? = some (mO th σ dr mo sc)) : MInv k σ (S.put 105 (mO k σ dr mo sc)) := h.obj (Fr.put _ _ (by simp)) h.2.1 rfl rfl h.2.2.2.2.1 ⟨dr, mo, sc, put_self h0⟩
theorem MInv.get {th : Nat} {σ : Sg} {S : Sto} (h : MInv th σ S) : ∃ dr mo sc, S.1[105]? = some (mO th σ dr mo sc) := h.1
/-- a call that sets the code alone -/
theorem MRun.th {scr : Scr} {l : Launch} {K : Nat} {M : Mth} {as : List Value} {S : Sto} {v : Option Value} {th k : Nat} {σ : Sg} (h : MInv th σ S) (hm : ∀ dr mo sc, S.1[105]? = some (mO th σ dr mo sc) → ∀ d, MetA scr l (d + K) M as S (.inl v, S.put 105 (mO k σ dr mo sc))) : MRun scr l K M as S v k σ := by
  obtain ⟨dr, mo, sc, h0⟩ := h.get
  exact ⟨_, hm dr mo sc h0, h.th h0, Fr.put _ _ (by decide)⟩
theorem m_append_1 {scr : Scr} {l : Launch} {S : Sto} {σ : Sg} {th : Nat} {x : Int32} (h : MInv th σ S) (hx : ¬ inC x) : MRun scr l 1 M_Md_appendCharacter [.ref 105, .int x] S (some (.int (nI 0))) 1 σ := by
  obtain ⟨dr, mo, sc, h0⟩ := h.get
  obtain ⟨S1, mf, i1, f1⟩ := m_fails (scr := scr) (l := l) (k := 1) (h.th (k := 0) h0)
  refine ⟨S1, fun d => ?_, i1, ((Fr.put _ _ (by simp)).tr f1).m (by decide)⟩
  refine MetA.of rfl (by decide +kernel) (Nat.le_of_ble_eq_true rfl) ?_
  refine ev_aload_n i_Md_appendCharacter_0 rfl ?_
  refine ev_iconstN (v := 0) i_Md_appendCharacter_1 (by decide) ?_
  refine ev_mput_thrown i_Md_appendCharacter_2 h0 ?_
  refine ev_iload_n i_Md_appendCharacter_5 rfl ?_
  refine ev_bipushN (v := 32) i_Md_appendCharacter_6 (by decide) ?_
  refine ev_bipushN (v := 126) i_Md_appendCharacter_8 (by decide) ?_
  refine ev_callS3 i_Md_appendCharacter_10 rfl (Nat.le_of_ble_eq_true rfl) (m_in.2 (fun z => hx (inC_inB.mpr z))) ?_
  refine ev_if_neN i_Md_appendCharacter_13 (by omega) (fun hc_13 => ?_) (fun hc_13 => ?_)
  · skip
    exfalso; omega
  · skip
    refine ev_aload_n i_Md_appendCharacter_16 rfl ?_
    refine ev_iconstN (v := 1) i_Md_appendCharacter_17 (by decide) ?_
    refine ev_callV1 i_Md_appendCharacter_18 rfl (put_self h0) (Nat.le_of_ble_eq_true rfl) (mf _) ?_
    exact ev_iret i_Md_appendCharacter_21 rfl (by first | rfl | decide)
theorem m_append_2 {scr : Scr} {l : Launch} {S : Sto} {σ : Sg} {th : Nat} {x : Int32} (h : MInv th σ S) (hx : inC x) (hl : σ.1.length = 60) : MRun scr l 1 M_Md_appendCharacter [.ref 105, .int x] S (some (.int (nI 0))) 2 σ := by
  obtain ⟨dr, mo, sc, h0⟩ := h.get
  obtain ⟨S1, mf, i1, f1⟩ := m_fails (scr := scr) (l := l) (k := 2) (h.th (k := 0) h0)
  refine ⟨S1, fun d => ?_, i1, ((Fr.put _ _ (by simp)).tr f1).m (by decide)⟩
  refine MetA.of rfl (by decide +kernel) (Nat.le_of_ble_eq_true rfl) ?_
  refine ev_aload_n i_Md_appendCharacter_0 rfl ?_
  refine ev_iconstN (v := 0) i_Md_appendCharacter_1 (by decide) ?_
  refine ev_mput_thrown i_Md_appendCharacter_2 h0 ?_
  refine ev_iload_n i_Md_appendCharacter_5 rfl ?_
  refine ev_bipushN (v := 32) i_Md_appendCharacter_6 (by decide) ?_
  refine ev_bipushN (v := 126) i_Md_appendCharacter_8 (by decide) ?_
  refine ev_callS3 i_Md_appendCharacter_10 rfl (Nat.le_of_ble_eq_true rfl) (m_in.1 (inC_inB.mp hx)) ?_
  refine ev_if_neN i_Md_appendCharacter_13 (by omega) (fun hc_13 => ?_) (fun hc_13 => ?_)
  · skip
    refine ev_aload_n i_Md_appendCharacter_22 rfl ?_
    refine ev_get i_Md_appendCharacter_23 (put_self h0) rfl ?_
    refine ev_bipushN (v := 60) i_Md_appendCharacter_26 (by decide) ?_
    refine ev_icmp_neN i_Md_appendCharacter_28 (by omega) (by omega) (fun hc_28 => ?_) (fun hc_28 => ?_)
    · skip
      exfalso; omega
    · skip
      refine ev_aload_n i_Md_appendCharacter_31 rfl ?_
      refine ev_iconstN (v := 2) i_Md_appendCharacter_32 (by decide) ?_
      refine ev_callV1 i_Md_appendCharacter_33 rfl (put_self h0) (Nat.le_of_ble_eq_true rfl) (mf _) ?_
      exact ev_iret i_Md_appendCharacter_36 rfl (by first | rfl | decide)
  · skip
    exfalso; omega
theorem inC.of {c : Nat} (h1 : 32 ≤ c) (h2 : c ≤ 126) : inC (nI c) := ⟨by rw [nI_lt_iff (by omega) (by omega)]; omega, (nI_le_iff (by omega) (by omega)).mpr h2⟩
theorem m_append {scr : Scr} {l : Launch} {S : Sto} {σ : Sg} {th : Nat} {c : Nat} (h : MInv th σ S) (h1 : 32 ≤ c) (h2 : c ≤ 126) (hl : σ.1.length < 60) : MRun scr l 1 M_Md_appendCharacter [.ref 105, .int (nI c)] S (some (.int (nI (σ.1.length + 1)))) 0 (σ.1 ++ [c], σ.2) := by
  obtain ⟨dr, mo, sc, h0⟩ := h.get
  obtain ⟨h60, g, g1, g2⟩ := h.2.1
  have o1 : (S.put 105 (mO 0 σ dr mo sc)).1[105]? = _ := put_self h0
  have o2 : ((S.put 105 (mO 0 σ dr mo sc)).put 110 (aI 60 (upd g σ.1.length (nI c)))).1[105]? = _ := put_at o1 (by decide)
  have hF : Fr [105, 110] S (((S.put 105 (mO 0 σ dr mo sc)).put 110 (aI 60 (upd g σ.1.length (nI c)))).put 105 (mO 0 (σ.1 ++ [c], σ.2) dr mo sc)) := ((Fr.put _ _ (by simp)).tr (Fr.put _ _ (by simp))).tr (Fr.put _ _ (by simp))
  have e : (σ.1 ++ [c]).length = σ.1.length + 1 := by simp
  refine ⟨((S.put 105 (mO 0 σ dr mo sc)).put 110 (aI 60 (upd g σ.1.length (nI c)))).put 105 (mO 0 (σ.1 ++ [c], σ.2) dr mo sc), fun d => ?_, ⟨⟨dr, mo, sc, put_self o2⟩, ⟨by show (σ.1 ++ [c]).length ≤ 60; omega, upd g σ.1.length (nI c), put_at (put_self (put_at g1 (by decide))) (by decide), fun j hj => by
    show upd g σ.1.length (nI c) j = nI ((σ.1 ++ [c]).getD j 0) ∧ 32 ≤ (σ.1 ++ [c]).getD j 0 ∧ (σ.1 ++ [c]).getD j 0 ≤ 126
    rw [getD_app]
    by_cases z : j = σ.1.length
    · rw [if_pos z, z, upd_self]; exact ⟨rfl, h1, h2⟩
    · rw [if_neg z, upd_ne z]
      exact g2 j (by have : j < (σ.1 ++ [c]).length := hj; omega)⟩, h.2.2.1.fr hF ⟨by decide, by decide, by decide, by decide⟩, h.2.2.2.1.fr hF ⟨by decide, by decide, by decide, by decide⟩, h.2.2.2.2.1.fr hF (by decide), h.2.2.2.2.2.fr hF (fun k a b => by simp; omega)⟩, hF.m (by decide)⟩
  show MetA _ _ _ _ _ _ (_, ((S.put 105 (mO 0 σ dr mo sc)).put 110 (aI 60 (upd g σ.1.length (nI c)))).put 105 (mObj (nI 0) (nI (σ.1 ++ [c]).length) (nI σ.2.2.2.2.1.length) (nI (bI σ.2.2.2.1)) dr mo sc))
  rw [e]
  refine MetA.of rfl (by decide +kernel) (Nat.le_of_ble_eq_true rfl) ?_
  refine ev_aload_n i_Md_appendCharacter_0 rfl ?_
  refine ev_iconstN (v := 0) i_Md_appendCharacter_1 (by decide) ?_
  refine ev_mput_thrown i_Md_appendCharacter_2 h0 ?_
  refine ev_iload_n i_Md_appendCharacter_5 rfl ?_
  refine ev_bipushN (v := 32) i_Md_appendCharacter_6 (by decide) ?_
  refine ev_bipushN (v := 126) i_Md_appendCharacter_8 (by decide) ?_
  refine ev_callS3 i_Md_appendCharacter_10 rfl (Nat.le_of_ble_eq_true rfl) (m_in.1 (inC_inB.mp (inC.of h1 h2))) ?_
  refine ev_if_neN i_Md_appendCharacter_13 (by omega) (fun hc_13 => ?_) (fun hc_13 => ?_)
  · skip
    refine ev_aload_n i_Md_appendCharacter_22 rfl ?_
    refine ev_get i_Md_appendCharacter_23 (put_self h0) rfl ?_
    refine ev_bipushN (v := 60) i_Md_appendCharacter_26 (by decide) ?_
    refine ev_icmp_neN i_Md_appendCharacter_28 (by omega) (by omega) (fun hc_28 => ?_) (fun hc_28 => ?_)
    · skip
      refine ev_aload_n i_Md_appendCharacter_37 rfl ?_
      refine ev_get i_Md_appendCharacter_38 (put_self h0) rfl ?_
      refine ev_aload_n i_Md_appendCharacter_41 rfl ?_
      refine ev_get i_Md_appendCharacter_42 (put_self h0) rfl ?_
      refine ev_iload_n i_Md_appendCharacter_45 rfl ?_
      refine ev_iastN i_Md_appendCharacter_46 (put_at g1 (by decide)) (by omega) (by decide) ?_
      refine ev_aload_n i_Md_appendCharacter_47 rfl ?_
      refine ev_dup i_Md_appendCharacter_48 rfl ?_
      refine ev_get i_Md_appendCharacter_49 o2 rfl ?_
      refine ev_iconstN (v := 1) i_Md_appendCharacter_52 (by decide) ?_
      first | refine ev_iaddN i_Md_appendCharacter_53 ?_ | refine ev_iadd i_Md_appendCharacter_53 ?_
      refine ev_mput_length i_Md_appendCharacter_54 o2 ?_
      refine ev_aload_n i_Md_appendCharacter_57 rfl ?_
      refine ev_get i_Md_appendCharacter_58 (put_self o2) rfl ?_
      exact ev_iret i_Md_appendCharacter_61 rfl (by first | rfl | decide)
    · skip
      exfalso; omega
  · skip
    exfalso; omega
theorem m_clear {scr : Scr} {l : Launch} {S : Sto} {σ : Sg} {th : Nat} (h : MInv th σ S) : MRun scr l 0 M_Md_clearText [.ref 105] S (some (.int (nI σ.1.length))) 0 ([], σ.2) := by
  obtain ⟨dr, mo, sc, h0⟩ := h.get
  have o1 : (S.put 105 (mO 0 σ dr mo sc)).1[105]? = _ := put_self h0
  obtain ⟨h60, g, g1, g2⟩ := h.2.1
  have hF : Fr [105] S ((S.put 105 (mO 0 σ dr mo sc)).put 105 (mO 0 ([], σ.2) dr mo sc)) := (Fr.put _ _ (by simp)).tr (Fr.put _ _ (by simp))
  refine ⟨(S.put 105 (mO 0 σ dr mo sc)).put 105 (mO 0 ([], σ.2) dr mo sc), fun d => ?_, ⟨⟨dr, mo, sc, put_self o1⟩, ⟨by show 0 ≤ 60; omega, g, hF.at g1 (by decide), fun j hj => absurd hj (by show ¬ j < 0; omega)⟩, h.2.2.1.fr hF ⟨by decide, by decide, by decide, by decide⟩, h.2.2.2.1.fr hF ⟨by decide, by decide, by decide, by decide⟩, h.2.2.2.2.1.fr hF (by decide), h.2.2.2.2.2.fr hF (fun k a b => by simp; omega)⟩, hF.m (by decide)⟩
  refine MetA.of rfl (by decide +kernel) (Nat.le_of_ble_eq_true rfl) ?_
  refine ev_aload_n i_Md_clearText_0 rfl ?_
  refine ev_iconstN (v := 0) i_Md_clearText_1 (by decide) ?_
  refine ev_mput_thrown i_Md_clearText_2 h0 ?_
  refine ev_aload_n i_Md_clearText_5 rfl ?_
  refine ev_get i_Md_clearText_6 (put_self h0) rfl ?_
  refine ev_istore_n i_Md_clearText_9 (Nat.le_of_ble_eq_true rfl) ?_
  refine ev_aload_n i_Md_clearText_10 rfl ?_
  refine ev_iconstN (v := 0) i_Md_clearText_11 (by decide) ?_
  refine ev_mput_length i_Md_clearText_12 (put_self h0) ?_
  refine ev_iload_n i_Md_clearText_15 rfl ?_
  exact ev_iret i_Md_clearText_16 rfl (by first | rfl | decide)
theorem m_setProd_1 {scr : Scr} {l : Launch} {S : Sto} {σ : Sg} {th : Nat} {x y : Int32} (h : MInv th σ S) (hq : ¬ (inR 3 x ∧ inR 6 y)) : MRun scr l 3 M_Md_setProduction [.ref 105, .int x, .int y] S (some (.int (nI 0))) 1 σ := by
  refine MRun.th h (fun dr mo sc h0 d => ?_)
  by_cases hx : inR 3 x
  · have hy : ¬ inR 6 y := fun hy => hq ⟨hx, hy⟩
    refine MetA.of rfl (by decide +kernel) (Nat.le_of_ble_eq_true rfl) ?_
    refine ev_aload_n i_Md_setProduction_0 rfl ?_
    refine ev_iload_n i_Md_setProduction_1 rfl ?_
    refine ev_callS1 i_Md_setProduction_2 rfl (Nat.le_of_ble_eq_true rfl) (m_isTable.1 hx) ?_
    refine ev_if_eqN i_Md_setProduction_5 (by omega) (fun hc_5 => ?_) (fun hc_5 => ?_)
    · skip
      exfalso; omega
    · skip
      refine ev_iload_n i_Md_setProduction_8 rfl ?_
      refine ev_callS1 i_Md_setProduction_9 rfl (Nat.le_of_ble_eq_true rfl) (m_isLetter.2 hy) ?_
      refine ev_if_neN i_Md_setProduction_12 (by omega) (fun hc_12 => ?_) (fun hc_12 => ?_)
      · skip
        exfalso; omega
      · skip
        refine ev_iconstN (v := 1) i_Md_setProduction_15 (by decide) ?_
        refine ev_goto i_Md_setProduction_16 ?_
        refine ev_mput_thrown i_Md_setProduction_32 h0 ?_
        refine ev_aload_n i_Md_setProduction_35 rfl ?_
        refine ev_get i_Md_setProduction_36 (put_self h0) rfl ?_
        refine ev_if_leN i_Md_setProduction_39 (by omega) (fun hc_39 => ?_) (fun hc_39 => ?_)
        · skip
          exfalso; omega
        · skip
          refine ev_iconstN (v := 0) i_Md_setProduction_42 (by decide) ?_
          exact ev_iret i_Md_setProduction_43 rfl (by first | rfl | decide)
  · refine MetA.of rfl (by decide +kernel) (Nat.le_of_ble_eq_true rfl) ?_
    refine ev_aload_n i_Md_setProduction_0 rfl ?_
    refine ev_iload_n i_Md_setProduction_1 rfl ?_
    refine ev_callS1 i_Md_setProduction_2 rfl (Nat.le_of_ble_eq_true rfl) (m_isTable.2 hx) ?_
    refine ev_if_eqN i_Md_setProduction_5 (by omega) (fun hc_5 => ?_) (fun hc_5 => ?_)
    · skip
      refine ev_iconstN (v := 1) i_Md_setProduction_15 (by decide) ?_
      refine ev_goto i_Md_setProduction_16 ?_
      refine ev_mput_thrown i_Md_setProduction_32 h0 ?_
      refine ev_aload_n i_Md_setProduction_35 rfl ?_
      refine ev_get i_Md_setProduction_36 (put_self h0) rfl ?_
      refine ev_if_leN i_Md_setProduction_39 (by omega) (fun hc_39 => ?_) (fun hc_39 => ?_)
      · skip
        exfalso; omega
      · skip
        refine ev_iconstN (v := 0) i_Md_setProduction_42 (by decide) ?_
        exact ev_iret i_Md_setProduction_43 rfl (by first | rfl | decide)
    · skip
      exfalso; omega
theorem m_addProd_1 {scr : Scr} {l : Launch} {S : Sto} {σ : Sg} {th : Nat} {x y : Int32} (h : MInv th σ S) (hq : ¬ (inR 3 x ∧ inR 6 y)) : MRun scr l 3 M_Md_addProduction [.ref 105, .int x, .int y] S (some (.int (nI 0))) 1 σ := by
  refine MRun.th h (fun dr mo sc h0 d => ?_)
  by_cases hx : inR 3 x
  · have hy : ¬ inR 6 y := fun hy => hq ⟨hx, hy⟩
    refine MetA.of rfl (by decide +kernel) (Nat.le_of_ble_eq_true rfl) ?_
    refine ev_aload_n i_Md_addProduction_0 rfl ?_
    refine ev_iload_n i_Md_addProduction_1 rfl ?_
    refine ev_callS1 i_Md_addProduction_2 rfl (Nat.le_of_ble_eq_true rfl) (m_isTable.1 hx) ?_
    refine ev_if_eqN i_Md_addProduction_5 (by omega) (fun hc_5 => ?_) (fun hc_5 => ?_)
    · skip
      exfalso; omega
    · skip
      refine ev_iload_n i_Md_addProduction_8 rfl ?_
      refine ev_callS1 i_Md_addProduction_9 rfl (Nat.le_of_ble_eq_true rfl) (m_isLetter.2 hy) ?_
      refine ev_if_neN i_Md_addProduction_12 (by omega) (fun hc_12 => ?_) (fun hc_12 => ?_)
      · skip
        exfalso; omega
      · skip
        refine ev_iconstN (v := 1) i_Md_addProduction_15 (by decide) ?_
        refine ev_goto i_Md_addProduction_16 ?_
        refine ev_mput_thrown i_Md_addProduction_50 h0 ?_
        refine ev_aload_n i_Md_addProduction_53 rfl ?_
        refine ev_get i_Md_addProduction_54 (put_self h0) rfl ?_
        refine ev_if_leN i_Md_addProduction_57 (by omega) (fun hc_57 => ?_) (fun hc_57 => ?_)
        · skip
          exfalso; omega
        · skip
          refine ev_iconstN (v := 0) i_Md_addProduction_60 (by decide) ?_
          exact ev_iret i_Md_addProduction_61 rfl (by first | rfl | decide)
  · refine MetA.of rfl (by decide +kernel) (Nat.le_of_ble_eq_true rfl) ?_
    refine ev_aload_n i_Md_addProduction_0 rfl ?_
    refine ev_iload_n i_Md_addProduction_1 rfl ?_
    refine ev_callS1 i_Md_addProduction_2 rfl (Nat.le_of_ble_eq_true rfl) (m_isTable.2 hx) ?_
    refine ev_if_eqN i_Md_addProduction_5 (by omega) (fun hc_5 => ?_) (fun hc_5 => ?_)
    · skip
      refine ev_iconstN (v := 1) i_Md_addProduction_15 (by decide) ?_
      refine ev_goto i_Md_addProduction_16 ?_
      refine ev_mput_thrown i_Md_addProduction_50 h0 ?_
      refine ev_aload_n i_Md_addProduction_53 rfl ?_
      refine ev_get i_Md_addProduction_54 (put_self h0) rfl ?_
      refine ev_if_leN i_Md_addProduction_57 (by omega) (fun hc_57 => ?_) (fun hc_57 => ?_)
      · skip
        exfalso; omega
      · skip
        refine ev_iconstN (v := 0) i_Md_addProduction_60 (by decide) ?_
        exact ev_iret i_Md_addProduction_61 rfl (by first | rfl | decide)
    · skip
      exfalso; omega
theorem m_prodCount_1 {scr : Scr} {l : Launch} {S : Sto} {σ : Sg} {th : Nat} {x y : Int32} (h : MInv th σ S) (hq : ¬ (inR 3 x ∧ inR 6 y)) : MRun scr l 3 M_Md_productionCount [.ref 105, .int x, .int y] S (some (.int (nI 0))) 1 σ := by
  refine MRun.th h (fun dr mo sc h0 d => ?_)
  by_cases hx : inR 3 x
  · have hy : ¬ inR 6 y := fun hy => hq ⟨hx, hy⟩
    refine MetA.of rfl (by decide +kernel) (Nat.le_of_ble_eq_true rfl) ?_
    refine ev_aload_n i_Md_productionCount_0 rfl ?_
    refine ev_iload_n i_Md_productionCount_1 rfl ?_
    refine ev_callS1 i_Md_productionCount_2 rfl (Nat.le_of_ble_eq_true rfl) (m_isTable.1 hx) ?_
    refine ev_if_eqN i_Md_productionCount_5 (by omega) (fun hc_5 => ?_) (fun hc_5 => ?_)
    · skip
      exfalso; omega
    · skip
      refine ev_iload_n i_Md_productionCount_8 rfl ?_
      refine ev_callS1 i_Md_productionCount_9 rfl (Nat.le_of_ble_eq_true rfl) (m_isLetter.2 hy) ?_
      refine ev_if_eqN i_Md_productionCount_12 (by omega) (fun hc_12 => ?_) (fun hc_12 => ?_)
      · skip
        refine ev_iconstN (v := 1) i_Md_productionCount_19 (by decide) ?_
        refine ev_mput_thrown i_Md_productionCount_20 h0 ?_
        refine ev_aload_n i_Md_productionCount_23 rfl ?_
        refine ev_get i_Md_productionCount_24 (put_self h0) rfl ?_
        refine ev_if_leN i_Md_productionCount_27 (by omega) (fun hc_27 => ?_) (fun hc_27 => ?_)
        · skip
          exfalso; omega
        · skip
          refine ev_iconstN (v := 0) i_Md_productionCount_30 (by decide) ?_
          refine ev_goto i_Md_productionCount_31 ?_
          exact ev_iret i_Md_productionCount_44 rfl (by first | rfl | decide)
      · skip
        exfalso; omega
  · refine MetA.of rfl (by decide +kernel) (Nat.le_of_ble_eq_true rfl) ?_
    refine ev_aload_n i_Md_productionCount_0 rfl ?_
    refine ev_iload_n i_Md_productionCount_1 rfl ?_
    refine ev_callS1 i_Md_productionCount_2 rfl (Nat.le_of_ble_eq_true rfl) (m_isTable.2 hx) ?_
    refine ev_if_eqN i_Md_productionCount_5 (by omega) (fun hc_5 => ?_) (fun hc_5 => ?_)
    · skip
      refine ev_iconstN (v := 1) i_Md_productionCount_19 (by decide) ?_
      refine ev_mput_thrown i_Md_productionCount_20 h0 ?_
      refine ev_aload_n i_Md_productionCount_23 rfl ?_
      refine ev_get i_Md_productionCount_24 (put_self h0) rfl ?_
      refine ev_if_leN i_Md_productionCount_27 (by omega) (fun hc_27 => ?_) (fun hc_27 => ?_)
      · skip
        exfalso; omega
      · skip
        refine ev_iconstN (v := 0) i_Md_productionCount_30 (by decide) ?_
        refine ev_goto i_Md_productionCount_31 ?_
        exact ev_iret i_Md_productionCount_44 rfl (by first | rfl | decide)
    · skip
      exfalso; omega
theorem m_setProd_2 {scr : Scr} {l : Launch} {S : Sto} {σ : Sg} {th : Nat} {t a : Nat} (h : MInv th σ S) (ht : t < 3) (ha : a < 6) (hw : ¬ (isW σ.1 ∧ σ.1.length ≤ 4)) : MRun scr l 3 M_Md_setProduction [.ref 105, .int (nI t), .int (nI a)] S (some (.int (nI 0))) 2 σ := by
  refine MRun.th h (fun dr mo sc h0 d => ?_)
  have o1 : (S.put 105 (mO 2 σ dr mo sc)).1[105]? = _ := put_self h0
  refine MetA.of rfl (by decide +kernel) (Nat.le_of_ble_eq_true rfl) ?_
  refine ev_aload_n i_Md_setProduction_0 rfl ?_
  refine ev_iload_n i_Md_setProduction_1 rfl ?_
  refine ev_callS1 i_Md_setProduction_2 rfl (Nat.le_of_ble_eq_true rfl) (m_isTable.1 (inR.of (by decide) ht)) ?_
  refine ev_if_eqN i_Md_setProduction_5 (by omega) (fun hc_5 => ?_) (fun hc_5 => ?_)
  · skip
    exfalso; omega
  · skip
    refine ev_iload_n i_Md_setProduction_8 rfl ?_
    refine ev_callS1 i_Md_setProduction_9 rfl (Nat.le_of_ble_eq_true rfl) (m_isLetter.1 (inR.of (by decide) ha)) ?_
    refine ev_if_neN i_Md_setProduction_12 (by omega) (fun hc_12 => ?_) (fun hc_12 => ?_)
    · skip
      refine ev_aload_n i_Md_setProduction_19 rfl ?_
      refine ev_iconstN (v := 4) i_Md_setProduction_20 (by decide) ?_
      refine ev_callV1 i_Md_setProduction_21 rfl h0 (Nat.le_of_ble_eq_true rfl) ((m_isWord h (by omega)).2 hw) ?_
      refine ev_if_neN i_Md_setProduction_24 (by omega) (fun hc_24 => ?_) (fun hc_24 => ?_)
      · skip
        exfalso; omega
      · skip
        refine ev_iconstN (v := 2) i_Md_setProduction_27 (by decide) ?_
        refine ev_goto i_Md_setProduction_28 ?_
        refine ev_mput_thrown i_Md_setProduction_32 h0 ?_
        refine ev_aload_n i_Md_setProduction_35 rfl ?_
        refine ev_get i_Md_setProduction_36 (put_self h0) rfl ?_
        refine ev_if_leN i_Md_setProduction_39 (by omega) (fun hc_39 => ?_) (fun hc_39 => ?_)
        · skip
          exfalso; omega
        · skip
          refine ev_iconstN (v := 0) i_Md_setProduction_42 (by decide) ?_
          exact ev_iret i_Md_setProduction_43 rfl (by first | rfl | decide)
    · skip
      exfalso; omega
theorem m_addProd_2 {scr : Scr} {l : Launch} {S : Sto} {σ : Sg} {th : Nat} {t a : Nat} (h : MInv th σ S) (ht : t < 3) (ha : a < 6) (hw : ¬ (isW σ.1 ∧ σ.1.length ≤ 4)) : MRun scr l 3 M_Md_addProduction [.ref 105, .int (nI t), .int (nI a)] S (some (.int (nI 0))) 2 σ := by
  refine MRun.th h (fun dr mo sc h0 d => ?_)
  have o1 : (S.put 105 (mO 2 σ dr mo sc)).1[105]? = _ := put_self h0
  refine MetA.of rfl (by decide +kernel) (Nat.le_of_ble_eq_true rfl) ?_
  refine ev_aload_n i_Md_addProduction_0 rfl ?_
  refine ev_iload_n i_Md_addProduction_1 rfl ?_
  refine ev_callS1 i_Md_addProduction_2 rfl (Nat.le_of_ble_eq_true rfl) (m_isTable.1 (inR.of (by decide) ht)) ?_
  refine ev_if_eqN i_Md_addProduction_5 (by omega) (fun hc_5 => ?_) (fun hc_5 => ?_)
  · skip
    exfalso; omega
  · skip
    refine ev_iload_n i_Md_addProduction_8 rfl ?_
    refine ev_callS1 i_Md_addProduction_9 rfl (Nat.le_of_ble_eq_true rfl) (m_isLetter.1 (inR.of (by decide) ha)) ?_
    refine ev_if_neN i_Md_addProduction_12 (by omega) (fun hc_12 => ?_) (fun hc_12 => ?_)
    · skip
      refine ev_aload_n i_Md_addProduction_19 rfl ?_
      refine ev_iconstN (v := 4) i_Md_addProduction_20 (by decide) ?_
      refine ev_callV1 i_Md_addProduction_21 rfl h0 (Nat.le_of_ble_eq_true rfl) ((m_isWord h (by omega)).2 hw) ?_
      refine ev_if_neN i_Md_addProduction_24 (by omega) (fun hc_24 => ?_) (fun hc_24 => ?_)
      · skip
        exfalso; omega
      · skip
        refine ev_iconstN (v := 2) i_Md_addProduction_27 (by decide) ?_
        refine ev_goto i_Md_addProduction_28 ?_
        refine ev_mput_thrown i_Md_addProduction_50 h0 ?_
        refine ev_aload_n i_Md_addProduction_53 rfl ?_
        refine ev_get i_Md_addProduction_54 (put_self h0) rfl ?_
        refine ev_if_leN i_Md_addProduction_57 (by omega) (fun hc_57 => ?_) (fun hc_57 => ?_)
        · skip
          exfalso; omega
        · skip
          refine ev_iconstN (v := 0) i_Md_addProduction_60 (by decide) ?_
          exact ev_iret i_Md_addProduction_61 rfl (by first | rfl | decide)
    · skip
      exfalso; omega
theorem m_setProd {scr : Scr} {l : Launch} {S : Sto} {σ : Sg} {th : Nat} {t a : Nat} (h : MInv th σ S) (ht : t < 3) (ha : a < 6) (hw : isW σ.1) (hl : σ.1.length ≤ 4) : MRun scr l 3 M_Md_setProduction [.ref 105, .int (nI t), .int (nI a)] S (some (.int (nI σ.1.length))) 0 (σ.1, setTab σ.2.1 t (setList (σ.2.1.1 t) a (wOf σ.1)), σ.2.2) := by
  obtain ⟨dr, mo, sc, h0⟩ := h.get
  obtain ⟨h60, gt, g1, g2⟩ := h.2.1
  obtain ⟨⟨g, t1, t2⟩, c2⟩ := h.2.2.1
  have gw : ∀ j, j < σ.1.length → gt j = nI (σ.1.getD j 0) ∧ 97 ≤ σ.1.getD j 0 ∧ σ.1.getD j 0 < 103 := fun j hj => ⟨(g2 j hj).1, hw j hj⟩
  have hx := wOf_PrOK hw hl
  have hxl : (wOf σ.1).length = σ.1.length := wOf_len _
  have o1 : (S.put 105 (mO 0 σ dr mo sc)).1[105]? = _ := put_self h0
  have p1 : (S.put 105 (mO 0 σ dr mo sc)).1[106]? = _ := put_at t1 (by decide)
  have q1 : (S.put 105 (mO 0 σ dr mo sc)).1[110]? = _ := put_at g1 (by decide)
  have o2 : ((S.put 105 (mO 0 σ dr mo sc)).put 106 (aI 417 (upd g (139 * t + 16 * a) (nI 1)))).1[105]? = _ := put_at o1 (by decide)
  have q2 : ((S.put 105 (mO 0 σ dr mo sc)).put 106 (aI 417 (upd g (139 * t + 16 * a) (nI 1)))).1[110]? = _ := put_at q1 (by decide)
  have p2 : ((S.put 105 (mO 0 σ dr mo sc)).put 106 (aI 417 (upd g (139 * t + 16 * a) (nI 1)))).1[106]? = _ := put_self p1
  have hF : Fr [105, 106] S (((S.put 105 (mO 0 σ dr mo sc)).put 106 (aI 417 (upd g (139 * t + 16 * a) (nI 1)))).put 106 (aI 417 (putw (upd g (139 * t + 16 * a) (nI 1)) (139 * t + 16 * a + 1 + 5 * 0) (wOf σ.1) (wOf σ.1).length))) := ((Fr.put _ _ (by simp)).tr (Fr.put _ _ (by simp))).tr (Fr.put _ _ (by simp))
  refine ⟨(((S.put 105 (mO 0 σ dr mo sc)).put 106 (aI 417 (upd g (139 * t + 16 * a) (nI 1)))).put 106 (aI 417 (putw (upd g (139 * t + 16 * a) (nI 1)) (139 * t + 16 * a + 1 + 5 * 0) (wOf σ.1) (wOf σ.1).length))), fun d => ?_, ⟨⟨dr, mo, sc, put_at o2 (by decide)⟩, h.2.1.fr hF (by decide), ⟨⟨_, put_self p2, TabsM.upd t2 ht (fun j hj => by rw [putw_out (by omega), upd_ne (by omega)]) ((t2 t ht).setL ha hx)⟩, ⟨c2.1.choose, hF.at c2.1.choose_spec.1 (by decide), c2.1.choose_spec.2⟩, ⟨c2.2.1.choose, hF.at c2.2.1.choose_spec.1 (by decide), c2.2.1.choose_spec.2⟩, c2.2.2.choose, hF.at c2.2.2.choose_spec.1 (by decide), c2.2.2.choose_spec.2⟩, h.2.2.2.1.fr hF ⟨by decide, by decide, by decide, by decide⟩, h.2.2.2.2.1.fr hF (by decide), h.2.2.2.2.2.fr hF (fun k a b => by simp; omega)⟩, hF.m (by decide)⟩
  refine MetA.of rfl (by decide +kernel) (Nat.le_of_ble_eq_true rfl) ?_
  refine ev_aload_n i_Md_setProduction_0 rfl ?_
  refine ev_iload_n i_Md_setProduction_1 rfl ?_
  refine ev_callS1 i_Md_setProduction_2 rfl (Nat.le_of_ble_eq_true rfl) (m_isTable.1 (inR.of (by decide) ht)) ?_
  refine ev_if_eqN i_Md_setProduction_5 (by omega) (fun hc_5 => ?_) (fun hc_5 => ?_)
  · skip
    exfalso; omega
  · skip
    refine ev_iload_n i_Md_setProduction_8 rfl ?_
    refine ev_callS1 i_Md_setProduction_9 rfl (Nat.le_of_ble_eq_true rfl) (m_isLetter.1 (inR.of (by decide) ha)) ?_
    refine ev_if_neN i_Md_setProduction_12 (by omega) (fun hc_12 => ?_) (fun hc_12 => ?_)
    · skip
      refine ev_aload_n i_Md_setProduction_19 rfl ?_
      refine ev_iconstN (v := 4) i_Md_setProduction_20 (by decide) ?_
      refine ev_callV1 i_Md_setProduction_21 rfl h0 (Nat.le_of_ble_eq_true rfl) ((m_isWord h (by omega)).1 ⟨hw, hl⟩) ?_
      refine ev_if_neN i_Md_setProduction_24 (by omega) (fun hc_24 => ?_) (fun hc_24 => ?_)
      · skip
        refine ev_iconstN (v := 0) i_Md_setProduction_31 (by decide) ?_
        refine ev_mput_thrown i_Md_setProduction_32 h0 ?_
        refine ev_aload_n i_Md_setProduction_35 rfl ?_
        refine ev_get i_Md_setProduction_36 o1 rfl ?_
        refine ev_if_leN i_Md_setProduction_39 (by omega) (fun hc_39 => ?_) (fun hc_39 => ?_)
        · skip
          refine ev_iload_n i_Md_setProduction_44 rfl ?_
          refine ev_iload_n i_Md_setProduction_45 rfl ?_
          refine ev_callS2 i_Md_setProduction_46 rfl (Nat.le_of_ble_eq_true rfl) m_listAt ?_
          refine ev_istore_n i_Md_setProduction_49 (Nat.le_of_ble_eq_true rfl) ?_
          refine ev_aload_n i_Md_setProduction_50 rfl ?_
          refine ev_get i_Md_setProduction_51 o1 rfl ?_
          refine ev_iload_n i_Md_setProduction_54 rfl ?_
          refine ev_iconstN (v := 1) i_Md_setProduction_55 (by decide) ?_
          refine ev_iastN i_Md_setProduction_56 p1 (by omega) (by decide) ?_
          refine ev_aload_n i_Md_setProduction_57 rfl ?_
          refine ev_aload_n i_Md_setProduction_58 rfl ?_
          refine ev_get i_Md_setProduction_59 o2 rfl ?_
          refine ev_iload_n i_Md_setProduction_62 rfl ?_
          refine ev_iconstN (v := 0) i_Md_setProduction_63 (by decide) ?_
          refine ev_callS2 i_Md_setProduction_64 rfl (Nat.le_of_ble_eq_true rfl) m_productionAt ?_
          refine ev_callV2 i_Md_setProduction_67 rfl o2 (Nat.le_of_ble_eq_true rfl) (m_putWord o2 q2 h60 gw p2 (by decide) (by omega) (by decide)) ?_
          refine ev_aload_n i_Md_setProduction_70 rfl ?_
          refine ev_get i_Md_setProduction_71 (put_at o2 (by decide)) rfl ?_
          exact ev_iret i_Md_setProduction_74 rfl (by first | rfl | decide)
        · skip
          exfalso; omega
      · skip
        exfalso; omega
    · skip
      exfalso; omega
theorem m_addProd {scr : Scr} {l : Launch} {S : Sto} {σ : Sg} {th : Nat} {t a : Nat} (h : MInv th σ S) (ht : t < 3) (ha : a < 6) (hw : isW σ.1) (hl : σ.1.length ≤ 4) (h3 : ((σ.2.1.1 t).1 a).length < 3) : MRun scr l 3 M_Md_addProduction [.ref 105, .int (nI t), .int (nI a)] S (some (.int (nI ((σ.2.1.1 t).1 a).length))) 0 (σ.1, setTab σ.2.1 t (addList (σ.2.1.1 t) a (wOf σ.1)), σ.2.2) := by
  obtain ⟨dr, mo, sc, h0⟩ := h.get
  obtain ⟨h60, gt, g1, g2⟩ := h.2.1
  obtain ⟨⟨g, t1, t2⟩, c2⟩ := h.2.2.1
  have gw : ∀ j, j < σ.1.length → gt j = nI (σ.1.getD j 0) ∧ 97 ≤ σ.1.getD j 0 ∧ σ.1.getD j 0 < 103 := fun j hj => ⟨(g2 j hj).1, hw j hj⟩
  have hx := wOf_PrOK hw hl
  have hxl : (wOf σ.1).length = σ.1.length := wOf_len _
  have o1 : (S.put 105 (mO 0 σ dr mo sc)).1[105]? = _ := put_self h0
  have p1 : (S.put 105 (mO 0 σ dr mo sc)).1[106]? = _ := put_at t1 (by decide)
  have q1 : (S.put 105 (mO 0 σ dr mo sc)).1[110]? = _ := put_at g1 (by decide)
  have hn := ((t2 t ht).1 a ha).1
  have o2 : ((S.put 105 (mO 0 σ dr mo sc)).put 106 (aI 417 (putw g (139 * t + 16 * a + 1 + 5 * ((σ.2.1.1 t).1 a).length) (wOf σ.1) (wOf σ.1).length))).1[105]? = _ := put_at o1 (by decide)
  have p2 : ((S.put 105 (mO 0 σ dr mo sc)).put 106 (aI 417 (putw g (139 * t + 16 * a + 1 + 5 * ((σ.2.1.1 t).1 a).length) (wOf σ.1) (wOf σ.1).length))).1[106]? = _ := put_self p1
  have hF : Fr [105, 106] S (((S.put 105 (mO 0 σ dr mo sc)).put 106 (aI 417 (putw g (139 * t + 16 * a + 1 + 5 * ((σ.2.1.1 t).1 a).length) (wOf σ.1) (wOf σ.1).length))).put 106 (aI 417 (upd (putw g (139 * t + 16 * a + 1 + 5 * ((σ.2.1.1 t).1 a).length) (wOf σ.1) (wOf σ.1).length) (139 * t + 16 * a) (nI (((σ.2.1.1 t).1 a).length + 1))))) := ((Fr.put _ _ (by simp)).tr (Fr.put _ _ (by simp))).tr (Fr.put _ _ (by simp))
  refine ⟨(((S.put 105 (mO 0 σ dr mo sc)).put 106 (aI 417 (putw g (139 * t + 16 * a + 1 + 5 * ((σ.2.1.1 t).1 a).length) (wOf σ.1) (wOf σ.1).length))).put 106 (aI 417 (upd (putw g (139 * t + 16 * a + 1 + 5 * ((σ.2.1.1 t).1 a).length) (wOf σ.1) (wOf σ.1).length) (139 * t + 16 * a) (nI (((σ.2.1.1 t).1 a).length + 1))))), fun d => ?_, ⟨⟨dr, mo, sc, put_at o2 (by decide)⟩, h.2.1.fr hF (by decide), ⟨⟨_, put_self p2, TabsM.upd t2 ht (fun j hj => by rw [upd_ne (by omega), putw_out (by omega)]) ((t2 t ht).addL ha hx h3)⟩, ⟨c2.1.choose, hF.at c2.1.choose_spec.1 (by decide), c2.1.choose_spec.2⟩, ⟨c2.2.1.choose, hF.at c2.2.1.choose_spec.1 (by decide), c2.2.1.choose_spec.2⟩, c2.2.2.choose, hF.at c2.2.2.choose_spec.1 (by decide), c2.2.2.choose_spec.2⟩, h.2.2.2.1.fr hF ⟨by decide, by decide, by decide, by decide⟩, h.2.2.2.2.1.fr hF (by decide), h.2.2.2.2.2.fr hF (fun k a b => by simp; omega)⟩, hF.m (by decide)⟩
  refine MetA.of rfl (by decide +kernel) (Nat.le_of_ble_eq_true rfl) ?_
  refine ev_aload_n i_Md_addProduction_0 rfl ?_
  refine ev_iload_n i_Md_addProduction_1 rfl ?_
  refine ev_callS1 i_Md_addProduction_2 rfl (Nat.le_of_ble_eq_true rfl) (m_isTable.1 (inR.of (by decide) ht)) ?_
  refine ev_if_eqN i_Md_addProduction_5 (by omega) (fun hc_5 => ?_) (fun hc_5 => ?_)
  · skip
    exfalso; omega
  · skip
    refine ev_iload_n i_Md_addProduction_8 rfl ?_
    refine ev_callS1 i_Md_addProduction_9 rfl (Nat.le_of_ble_eq_true rfl) (m_isLetter.1 (inR.of (by decide) ha)) ?_
    refine ev_if_neN i_Md_addProduction_12 (by omega) (fun hc_12 => ?_) (fun hc_12 => ?_)
    · skip
      refine ev_aload_n i_Md_addProduction_19 rfl ?_
      refine ev_iconstN (v := 4) i_Md_addProduction_20 (by decide) ?_
      refine ev_callV1 i_Md_addProduction_21 rfl h0 (Nat.le_of_ble_eq_true rfl) ((m_isWord h (by omega)).1 ⟨hw, hl⟩) ?_
      refine ev_if_neN i_Md_addProduction_24 (by omega) (fun hc_24 => ?_) (fun hc_24 => ?_)
      · skip
        refine ev_aload_n i_Md_addProduction_31 rfl ?_
        refine ev_get i_Md_addProduction_32 h0 rfl ?_
        refine ev_iload_n i_Md_addProduction_35 rfl ?_
        refine ev_iload_n i_Md_addProduction_36 rfl ?_
        refine ev_callS2 i_Md_addProduction_37 rfl (Nat.le_of_ble_eq_true rfl) m_listAt ?_
        refine ev_ialdN i_Md_addProduction_40 t1 (by omega) (by decide) ?_
        rw [hn]
        refine ev_iconstN (v := 3) i_Md_addProduction_41 (by decide) ?_
        refine ev_icmp_neN i_Md_addProduction_42 (by omega) (by omega) (fun hc_42 => ?_) (fun hc_42 => ?_)
        · skip
          refine ev_iconstN (v := 0) i_Md_addProduction_49 (by decide) ?_
          refine ev_mput_thrown i_Md_addProduction_50 h0 ?_
          refine ev_aload_n i_Md_addProduction_53 rfl ?_
          refine ev_get i_Md_addProduction_54 o1 rfl ?_
          refine ev_if_leN i_Md_addProduction_57 (by omega) (fun hc_57 => ?_) (fun hc_57 => ?_)
          · skip
            refine ev_iload_n i_Md_addProduction_62 rfl ?_
            refine ev_iload_n i_Md_addProduction_63 rfl ?_
            refine ev_callS2 i_Md_addProduction_64 rfl (Nat.le_of_ble_eq_true rfl) m_listAt ?_
            refine ev_istore_n i_Md_addProduction_67 (Nat.le_of_ble_eq_true rfl) ?_
            refine ev_aload_n i_Md_addProduction_68 rfl ?_
            refine ev_get i_Md_addProduction_69 o1 rfl ?_
            refine ev_iload_n i_Md_addProduction_72 rfl ?_
            refine ev_ialdN i_Md_addProduction_73 p1 (by omega) (by decide) ?_
            rw [hn]
            refine ev_istore i_Md_addProduction_74 (Nat.le_of_ble_eq_true rfl) ?_
            refine ev_aload_n i_Md_addProduction_76 rfl ?_
            refine ev_aload_n i_Md_addProduction_77 rfl ?_
            refine ev_get i_Md_addProduction_78 o1 rfl ?_
            refine ev_iload_n i_Md_addProduction_81 rfl ?_
            refine ev_iload i_Md_addProduction_82 rfl ?_
            refine ev_callS2 i_Md_addProduction_84 rfl (Nat.le_of_ble_eq_true rfl) m_productionAt ?_
            refine ev_callV2 i_Md_addProduction_87 rfl o1 (Nat.le_of_ble_eq_true rfl) (m_putWord o1 q1 h60 gw p1 (by decide) (by omega) (by decide)) ?_
            refine ev_aload_n i_Md_addProduction_90 rfl ?_
            refine ev_get i_Md_addProduction_91 o2 rfl ?_
            refine ev_iload_n i_Md_addProduction_94 rfl ?_
            refine ev_dup2_11 i_Md_addProduction_95 rfl rfl ?_
            refine ev_ialdN i_Md_addProduction_96 p2 (by omega) (by decide) ?_
            rw [putw_out (by omega), hn]
            refine ev_iconstN (v := 1) i_Md_addProduction_97 (by decide) ?_
            first | refine ev_iaddN i_Md_addProduction_98 ?_ | refine ev_iadd i_Md_addProduction_98 ?_
            refine ev_iastN i_Md_addProduction_99 p2 (by omega) (by decide) ?_
            refine ev_iload i_Md_addProduction_100 rfl ?_
            exact ev_iret i_Md_addProduction_102 rfl (by first | rfl | decide)
          · skip
            exfalso; omega
        · skip
          exfalso; omega
      · skip
        exfalso; omega
    · skip
      exfalso; omega
theorem m_addProd_3 {scr : Scr} {l : Launch} {S : Sto} {σ : Sg} {th : Nat} {t a : Nat} (h : MInv th σ S) (ht : t < 3) (ha : a < 6) (hw : isW σ.1) (hl : σ.1.length ≤ 4) (h3 : ((σ.2.1.1 t).1 a).length = 3) : MRun scr l 3 M_Md_addProduction [.ref 105, .int (nI t), .int (nI a)] S (some (.int (nI 0))) 3 σ := by
  obtain ⟨⟨g, t1, t2⟩, c2⟩ := h.2.2.1
  have hn := ((t2 t ht).1 a ha).1
  refine MRun.th h (fun dr mo sc h0 d => ?_)
  have o1 : (S.put 105 (mO 3 σ dr mo sc)).1[105]? = _ := put_self h0
  refine MetA.of rfl (by decide +kernel) (Nat.le_of_ble_eq_true rfl) ?_
  refine ev_aload_n i_Md_addProduction_0 rfl ?_
  refine ev_iload_n i_Md_addProduction_1 rfl ?_
  refine ev_callS1 i_Md_addProduction_2 rfl (Nat.le_of_ble_eq_true rfl) (m_isTable.1 (inR.of (by decide) ht)) ?_
  refine ev_if_eqN i_Md_addProduction_5 (by omega) (fun hc_5 => ?_) (fun hc_5 => ?_)
  · skip
    exfalso; omega
  · skip
    refine ev_iload_n i_Md_addProduction_8 rfl ?_
    refine ev_callS1 i_Md_addProduction_9 rfl (Nat.le_of_ble_eq_true rfl) (m_isLetter.1 (inR.of (by decide) ha)) ?_
    refine ev_if_neN i_Md_addProduction_12 (by omega) (fun hc_12 => ?_) (fun hc_12 => ?_)
    · skip
      refine ev_aload_n i_Md_addProduction_19 rfl ?_
      refine ev_iconstN (v := 4) i_Md_addProduction_20 (by decide) ?_
      refine ev_callV1 i_Md_addProduction_21 rfl h0 (Nat.le_of_ble_eq_true rfl) ((m_isWord h (by omega)).1 ⟨hw, hl⟩) ?_
      refine ev_if_neN i_Md_addProduction_24 (by omega) (fun hc_24 => ?_) (fun hc_24 => ?_)
      · skip
        refine ev_aload_n i_Md_addProduction_31 rfl ?_
        refine ev_get i_Md_addProduction_32 h0 rfl ?_
        refine ev_iload_n i_Md_addProduction_35 rfl ?_
        refine ev_iload_n i_Md_addProduction_36 rfl ?_
        refine ev_callS2 i_Md_addProduction_37 rfl (Nat.le_of_ble_eq_true rfl) m_listAt ?_
        refine ev_ialdN i_Md_addProduction_40 t1 (by omega) (by decide) ?_
        rw [hn]
        refine ev_iconstN (v := 3) i_Md_addProduction_41 (by decide) ?_
        refine ev_icmp_neN i_Md_addProduction_42 (by omega) (by omega) (fun hc_42 => ?_) (fun hc_42 => ?_)
        · skip
          exfalso; omega
        · skip
          refine ev_iconstN (v := 3) i_Md_addProduction_45 (by decide) ?_
          refine ev_goto i_Md_addProduction_46 ?_
          refine ev_mput_thrown i_Md_addProduction_50 h0 ?_
          refine ev_aload_n i_Md_addProduction_53 rfl ?_
          refine ev_get i_Md_addProduction_54 o1 rfl ?_
          refine ev_if_leN i_Md_addProduction_57 (by omega) (fun hc_57 => ?_) (fun hc_57 => ?_)
          · skip
            exfalso; omega
          · skip
            refine ev_iconstN (v := 0) i_Md_addProduction_60 (by decide) ?_
            exact ev_iret i_Md_addProduction_61 rfl (by first | rfl | decide)
      · skip
        exfalso; omega
    · skip
      exfalso; omega
theorem m_prodCount {scr : Scr} {l : Launch} {S : Sto} {σ : Sg} {th : Nat} {t a : Nat} (h : MInv th σ S) (ht : t < 3) (ha : a < 6)  : MRun scr l 3 M_Md_productionCount [.ref 105, .int (nI t), .int (nI a)] S (some (.int (nI ((σ.2.1.1 t).1 a).length))) 0 σ := by
  obtain ⟨⟨g, t1, t2⟩, c2⟩ := h.2.2.1
  have hn := ((t2 t ht).1 a ha).1
  have h3 := ((t2 t ht).1 a ha).2.2.1
  refine MRun.th h (fun dr mo sc h0 d => ?_)
  have o1 : (S.put 105 (mO 0 σ dr mo sc)).1[105]? = _ := put_self h0
  refine MetA.of rfl (by decide +kernel) (Nat.le_of_ble_eq_true rfl) ?_
  refine ev_aload_n i_Md_productionCount_0 rfl ?_
  refine ev_iload_n i_Md_productionCount_1 rfl ?_
  refine ev_callS1 i_Md_productionCount_2 rfl (Nat.le_of_ble_eq_true rfl) (m_isTable.1 (inR.of (by decide) ht)) ?_
  refine ev_if_eqN i_Md_productionCount_5 (by omega) (fun hc_5 => ?_) (fun hc_5 => ?_)
  · skip
    exfalso; omega
  · skip
    refine ev_iload_n i_Md_productionCount_8 rfl ?_
    refine ev_callS1 i_Md_productionCount_9 rfl (Nat.le_of_ble_eq_true rfl) (m_isLetter.1 (inR.of (by decide) ha)) ?_
    refine ev_if_eqN i_Md_productionCount_12 (by omega) (fun hc_12 => ?_) (fun hc_12 => ?_)
    · skip
      exfalso; omega
    · skip
      refine ev_iconstN (v := 0) i_Md_productionCount_15 (by decide) ?_
      refine ev_goto i_Md_productionCount_16 ?_
      refine ev_mput_thrown i_Md_productionCount_20 h0 ?_
      refine ev_aload_n i_Md_productionCount_23 rfl ?_
      refine ev_get i_Md_productionCount_24 o1 rfl ?_
      refine ev_if_leN i_Md_productionCount_27 (by omega) (fun hc_27 => ?_) (fun hc_27 => ?_)
      · skip
        refine ev_aload_n i_Md_productionCount_34 rfl ?_
        refine ev_get i_Md_productionCount_35 o1 rfl ?_
        refine ev_iload_n i_Md_productionCount_38 rfl ?_
        refine ev_iload_n i_Md_productionCount_39 rfl ?_
        refine ev_callS2 i_Md_productionCount_40 rfl (Nat.le_of_ble_eq_true rfl) m_listAt ?_
        refine ev_ialdN i_Md_productionCount_43 (put_at t1 (by decide)) (by omega) (by decide) ?_
        rw [hn]
        exact ev_iret i_Md_productionCount_44 rfl (by first | rfl | decide)
      · skip
        exfalso; omega

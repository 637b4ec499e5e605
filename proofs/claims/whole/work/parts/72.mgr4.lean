/-! the model m: kinds of growth, the face -/
theorem m_grKind_1 {scr : Scr} {l : Launch} {S : Sto} {σ : Sg} {th : Nat} {x : Int32} (h : MInv th σ S) (hx : ¬ inR 3 x) : MRun scr l 10 M_Md_growthKind [.ref 105, .int x] S (some (.int (nI 0))) 1 σ := by
  refine MRun.th h (fun dr mo sc h0 d => ?_)
  have o1 : (S.put 105 (mO 1 σ dr mo sc)).1[105]? = _ := put_self h0
  refine MetA.of rfl (by decide +kernel) (Nat.le_of_ble_eq_true rfl) ?_
  refine ev_aload_n i_Md_growthKind_0 rfl ?_
  refine ev_iload_n i_Md_growthKind_1 rfl ?_
  refine ev_callS1 i_Md_growthKind_2 rfl (Nat.le_of_ble_eq_true rfl) (m_isTable.2 hx) ?_
  refine ev_if_neN i_Md_growthKind_5 (by omega) (fun hc_5 => ?_) (fun hc_5 => ?_)
  · skip
    exfalso; omega
  · skip
    refine ev_iconstN (v := 1) i_Md_growthKind_8 (by decide) ?_
    refine ev_goto i_Md_growthKind_9 ?_
    refine ev_mput_thrown i_Md_growthKind_25 h0 ?_
    refine ev_aload_n i_Md_growthKind_28 rfl ?_
    refine ev_get i_Md_growthKind_29 o1 rfl ?_
    refine ev_if_leN i_Md_growthKind_32 (by omega) (fun hc_32 => ?_) (fun hc_32 => ?_)
    · skip
      exfalso; omega
    · skip
      refine ev_iconstN (v := 0) i_Md_growthKind_35 (by decide) ?_
      exact ev_iret i_Md_growthKind_36 rfl (by first | rfl | decide)
theorem m_grKind_2 {scr : Scr} {l : Launch} {S : Sto} {σ : Sg} {th : Nat} {t : Nat} (h : MInv th σ S) (ht : t < 3) (hf : ¬ fitT (σ.2.1.1 t)) : MRun scr l 10 M_Md_growthKind [.ref 105, .int (nI t)] S (some (.int (nI 0))) 2 σ := by
  refine MRun.th h (fun dr mo sc h0 d => ?_)
  have o1 : (S.put 105 (mO 2 σ dr mo sc)).1[105]? = _ := put_self h0
  refine MetA.of rfl (by decide +kernel) (Nat.le_of_ble_eq_true rfl) ?_
  refine ev_aload_n i_Md_growthKind_0 rfl ?_
  refine ev_iload_n i_Md_growthKind_1 rfl ?_
  refine ev_callS1 i_Md_growthKind_2 rfl (Nat.le_of_ble_eq_true rfl) (m_isTable.1 (inR.of (by decide) ht)) ?_
  refine ev_if_neN i_Md_growthKind_5 (by omega) (fun hc_5 => ?_) (fun hc_5 => ?_)
  · skip
    refine ev_aload_n i_Md_growthKind_12 rfl ?_
    refine ev_iload_n i_Md_growthKind_13 rfl ?_
    refine ev_callV1 i_Md_growthKind_14 rfl h0 (Nat.le_of_ble_eq_true rfl) ((m_unfit h ht).2 hf) ?_
    refine ev_if_leN i_Md_growthKind_17 (by omega) (fun hc_17 => ?_) (fun hc_17 => ?_)
    · skip
      exfalso; omega
    · skip
      refine ev_iconstN (v := 2) i_Md_growthKind_20 (by decide) ?_
      refine ev_goto i_Md_growthKind_21 ?_
      refine ev_mput_thrown i_Md_growthKind_25 h0 ?_
      refine ev_aload_n i_Md_growthKind_28 rfl ?_
      refine ev_get i_Md_growthKind_29 o1 rfl ?_
      refine ev_if_leN i_Md_growthKind_32 (by omega) (fun hc_32 => ?_) (fun hc_32 => ?_)
      · skip
        exfalso; omega
      · skip
        refine ev_iconstN (v := 0) i_Md_growthKind_35 (by decide) ?_
        exact ev_iret i_Md_growthKind_36 rfl (by first | rfl | decide)
  · skip
    exfalso; omega
theorem m_grDeg_1 {scr : Scr} {l : Launch} {S : Sto} {σ : Sg} {th : Nat} {x : Int32} (h : MInv th σ S) (hx : ¬ inR 3 x) : MRun scr l 10 M_Md_growthDegree [.ref 105, .int x] S (some (.int (nI 0))) 1 σ := by
  refine MRun.th h (fun dr mo sc h0 d => ?_)
  have o1 : (S.put 105 (mO 1 σ dr mo sc)).1[105]? = _ := put_self h0
  refine MetA.of rfl (by decide +kernel) (Nat.le_of_ble_eq_true rfl) ?_
  refine ev_aload_n i_Md_growthDegree_0 rfl ?_
  refine ev_iload_n i_Md_growthDegree_1 rfl ?_
  refine ev_callS1 i_Md_growthDegree_2 rfl (Nat.le_of_ble_eq_true rfl) (m_isTable.2 hx) ?_
  refine ev_if_neN i_Md_growthDegree_5 (by omega) (fun hc_5 => ?_) (fun hc_5 => ?_)
  · skip
    exfalso; omega
  · skip
    refine ev_iconstN (v := 1) i_Md_growthDegree_8 (by decide) ?_
    refine ev_goto i_Md_growthDegree_9 ?_
    refine ev_mput_thrown i_Md_growthDegree_25 h0 ?_
    refine ev_aload_n i_Md_growthDegree_28 rfl ?_
    refine ev_get i_Md_growthDegree_29 o1 rfl ?_
    refine ev_if_leN i_Md_growthDegree_32 (by omega) (fun hc_32 => ?_) (fun hc_32 => ?_)
    · skip
      exfalso; omega
    · skip
      refine ev_iconstN (v := 0) i_Md_growthDegree_35 (by decide) ?_
      exact ev_iret i_Md_growthDegree_36 rfl (by first | rfl | decide)
theorem m_grDeg_2 {scr : Scr} {l : Launch} {S : Sto} {σ : Sg} {th : Nat} {t : Nat} (h : MInv th σ S) (ht : t < 3) (hf : ¬ fitT (σ.2.1.1 t)) : MRun scr l 10 M_Md_growthDegree [.ref 105, .int (nI t)] S (some (.int (nI 0))) 2 σ := by
  refine MRun.th h (fun dr mo sc h0 d => ?_)
  have o1 : (S.put 105 (mO 2 σ dr mo sc)).1[105]? = _ := put_self h0
  refine MetA.of rfl (by decide +kernel) (Nat.le_of_ble_eq_true rfl) ?_
  refine ev_aload_n i_Md_growthDegree_0 rfl ?_
  refine ev_iload_n i_Md_growthDegree_1 rfl ?_
  refine ev_callS1 i_Md_growthDegree_2 rfl (Nat.le_of_ble_eq_true rfl) (m_isTable.1 (inR.of (by decide) ht)) ?_
  refine ev_if_neN i_Md_growthDegree_5 (by omega) (fun hc_5 => ?_) (fun hc_5 => ?_)
  · skip
    refine ev_aload_n i_Md_growthDegree_12 rfl ?_
    refine ev_iload_n i_Md_growthDegree_13 rfl ?_
    refine ev_callV1 i_Md_growthDegree_14 rfl h0 (Nat.le_of_ble_eq_true rfl) ((m_unfit h ht).2 hf) ?_
    refine ev_if_leN i_Md_growthDegree_17 (by omega) (fun hc_17 => ?_) (fun hc_17 => ?_)
    · skip
      exfalso; omega
    · skip
      refine ev_iconstN (v := 2) i_Md_growthDegree_20 (by decide) ?_
      refine ev_goto i_Md_growthDegree_21 ?_
      refine ev_mput_thrown i_Md_growthDegree_25 h0 ?_
      refine ev_aload_n i_Md_growthDegree_28 rfl ?_
      refine ev_get i_Md_growthDegree_29 o1 rfl ?_
      refine ev_if_leN i_Md_growthDegree_32 (by omega) (fun hc_32 => ?_) (fun hc_32 => ?_)
      · skip
        exfalso; omega
      · skip
        refine ev_iconstN (v := 0) i_Md_growthDegree_35 (by decide) ?_
        exact ev_iret i_Md_growthDegree_36 rfl (by first | rfl | decide)
  · skip
    exfalso; omega
theorem sub1_neg : nI 0 - nI 1 < 0 := by decide
theorem sub1_pos {n : Nat} (h : n ≠ 0) (hn : n < 2 ^ 31) : nI n - nI 1 = nI (n - 1) := nI_sub (by omega)
theorem m_grKind {scr : Scr} {l : Launch} {S : Sto} {σ : Sg} {th : Nat} {t : Nat} (h : MInv th σ S) (ht : t < 3) (hf : fitT (σ.2.1.1 t)) : ((gM (σ.2.1.1 t) σ.2.1.2.1) ≠ 1001 → MRun scr l 10 M_Md_growthKind [.ref 105, .int (nI t)] S (some (.int (nI (min (gM (σ.2.1.1 t) σ.2.1.2.1) 2)))) 0 σ) ∧ ((gM (σ.2.1.1 t) σ.2.1.2.1) = 1001 → MRun scr l 10 M_Md_growthKind [.ref 105, .int (nI t)] S (some (.int (nI 3))) 0 σ) := by
  obtain ⟨dr, mo, sc, h0⟩ := h.get
  obtain ⟨⟨g, tb, t2⟩, ⟨gw, wd, hx⟩, -⟩ := h.2.2.1
  obtain ⟨fl, fe, hl, he⟩ : ∃ fl fe, S.1[119]? = some (aZ 6 fl) ∧ S.1[120]? = some (aZ 36 fe) := by
    obtain ⟨f1, f5, f6, f7, f8, f9, f3, f4, l1, l2, l3, e1, e2, e3, e4, h1, h2, h3, h4, h5, hrest⟩ := h.2.2.2.2.2
    exact ⟨f3, f4, h4, h5⟩
  have o1 : (S.put 105 (mO 0 σ dr mo sc)).1[105]? = _ := put_self h0
  have g1 : (S.put 105 (mO 0 σ dr mo sc)).1[106]? = _ := put_at tb (by decide)
  have w1 : (S.put 105 (mO 0 σ dr mo sc)).1[107]? = _ := put_at wd (by decide)
  have l1 : (S.put 105 (mO 0 σ dr mo sc)).1[119]? = _ := put_at hl (by decide)
  have e1 : (S.put 105 (mO 0 σ dr mo sc)).1[120]? = _ := put_at he (by decide)
  have o2 : (((S.put 105 (mO 0 σ dr mo sc)).put 119 (aZ 6 (zG (liv (ed (σ.2.1.1 t))) fl 6))).put 120 (aZ 36 (zG (sq (RLx (σ.2.1.1 t))) fe 36))).1[105]? = _ := put_at (put_at o1 (by decide)) (by decide)
  have l2 : (((S.put 105 (mO 0 σ dr mo sc)).put 119 (aZ 6 (zG (liv (ed (σ.2.1.1 t))) fl 6))).put 120 (aZ 36 (zG (sq (RLx (σ.2.1.1 t))) fe 36))).1[119]? = _ := put_at (put_self l1) (by decide)
  have e2 : (((S.put 105 (mO 0 σ dr mo sc)).put 119 (aZ 6 (zG (liv (ed (σ.2.1.1 t))) fl 6))).put 120 (aZ 36 (zG (sq (RLx (σ.2.1.1 t))) fe 36))).1[120]? = _ := put_self (put_at e1 (by decide))
  have hF : Fr [105, 119, 120] S (((S.put 105 (mO 0 σ dr mo sc)).put 119 (aZ 6 (zG (liv (ed (σ.2.1.1 t))) fl 6))).put 120 (aZ 36 (zG (sq (RLx (σ.2.1.1 t))) fe 36))) := ((Fr.put _ _ (by simp)).tr (Fr.put _ _ (by simp))).tr (Fr.put _ _ (by simp))
  have h2 : MInv 0 σ (((S.put 105 (mO 0 σ dr mo sc)).put 119 (aZ 6 (zG (liv (ed (σ.2.1.1 t))) fl 6))).put 120 (aZ 36 (zG (sq (RLx (σ.2.1.1 t))) fe 36))) := h.scr hF (by simp) ⟨dr, mo, sc, o2⟩ (h.2.2.2.2.2.up hF (Or.inl (by decide)) (Or.inl (by decide)) (Or.inl (by decide)) (Or.inr ⟨_, l2⟩) (Or.inr ⟨_, e2⟩) (Or.inl (by decide)) (Or.inl (by decide)) (Or.inl (by decide)) (Or.inl (by decide)) (Or.inl (by decide)) (Or.inl (by decide)) (Or.inl (by decide)) (Or.inl (by decide)) (Or.inl (by decide)) (Or.inl (by decide)))
  have mg := fun d => m_grows (scr := scr) (l := l) (d := d) o1 g1 (t2 t ht) ht w1 hx l1 e1
  have hle := gM_le (T := σ.2.1.1 t) (xs := σ.2.1.2.1)
  refine ⟨fun hg => ?_, fun hg => ?_⟩
  · have hg6 := (gM_small hg).1
    refine ⟨(((S.put 105 (mO 0 σ dr mo sc)).put 119 (aZ 6 (zG (liv (ed (σ.2.1.1 t))) fl 6))).put 120 (aZ 36 (zG (sq (RLx (σ.2.1.1 t))) fe 36))), fun d => ?_, h2, hF.m (by decide)⟩
    by_cases hz : (gM (σ.2.1.1 t) σ.2.1.2.1) = 0
    · rw [show min (gM (σ.2.1.1 t) σ.2.1.2.1) 2 = 0 by omega]
      refine MetA.of rfl (by decide +kernel) (Nat.le_of_ble_eq_true rfl) ?_
      refine ev_aload_n i_Md_growthKind_0 rfl ?_
      refine ev_iload_n i_Md_growthKind_1 rfl ?_
      refine ev_callS1 i_Md_growthKind_2 rfl (Nat.le_of_ble_eq_true rfl) (m_isTable.1 (inR.of (by decide) ht)) ?_
      refine ev_if_neN i_Md_growthKind_5 (by omega) (fun hc_5 => ?_) (fun hc_5 => ?_)
      · skip
        refine ev_aload_n i_Md_growthKind_12 rfl ?_
        refine ev_iload_n i_Md_growthKind_13 rfl ?_
        refine ev_callV1 i_Md_growthKind_14 rfl h0 (Nat.le_of_ble_eq_true rfl) ((m_unfit h ht).1 hf) ?_
        refine ev_if_leN i_Md_growthKind_17 (by omega) (fun hc_17 => ?_) (fun hc_17 => ?_)
        · skip
          refine ev_iconstN (v := 0) i_Md_growthKind_24 (by decide) ?_
          refine ev_mput_thrown i_Md_growthKind_25 h0 ?_
          refine ev_aload_n i_Md_growthKind_28 rfl ?_
          refine ev_get i_Md_growthKind_29 o1 rfl ?_
          refine ev_if_leN i_Md_growthKind_32 (by omega) (fun hc_32 => ?_) (fun hc_32 => ?_)
          · skip
            refine ev_aload_n i_Md_growthKind_37 rfl ?_
            refine ev_iload_n i_Md_growthKind_38 rfl ?_
            refine ev_callV1 i_Md_growthKind_39 rfl o1 (Nat.le_of_ble_eq_true rfl) (mg _) ?_
            rw [hz]
            refine ev_ist_n_2 i_Md_growthKind_42 rfl ?_
            refine ev_iload_n i_Md_growthKind_43 rfl ?_
            refine ev_if_ge i_Md_growthKind_44 (fun hc_44 => ?_) (fun hc_44 => ?_)
            · skip
              exact absurd hc_44 (by decide)
            · skip
              refine ev_iconstN (v := 0) i_Md_growthKind_47 (by decide) ?_
              refine ev_goto i_Md_growthKind_48 ?_
              exact ev_iret i_Md_growthKind_71 rfl (by first | rfl | decide)
          · skip
            exfalso; omega
        · skip
          exfalso; omega
      · skip
        exfalso; omega
    · by_cases h1 : (gM (σ.2.1.1 t) σ.2.1.2.1) = 1
      · rw [show min (gM (σ.2.1.1 t) σ.2.1.2.1) 2 = 1 by omega]
        refine MetA.of rfl (by decide +kernel) (Nat.le_of_ble_eq_true rfl) ?_
        refine ev_aload_n i_Md_growthKind_0 rfl ?_
        refine ev_iload_n i_Md_growthKind_1 rfl ?_
        refine ev_callS1 i_Md_growthKind_2 rfl (Nat.le_of_ble_eq_true rfl) (m_isTable.1 (inR.of (by decide) ht)) ?_
        refine ev_if_neN i_Md_growthKind_5 (by omega) (fun hc_5 => ?_) (fun hc_5 => ?_)
        · skip
          refine ev_aload_n i_Md_growthKind_12 rfl ?_
          refine ev_iload_n i_Md_growthKind_13 rfl ?_
          refine ev_callV1 i_Md_growthKind_14 rfl h0 (Nat.le_of_ble_eq_true rfl) ((m_unfit h ht).1 hf) ?_
          refine ev_if_leN i_Md_growthKind_17 (by omega) (fun hc_17 => ?_) (fun hc_17 => ?_)
          · skip
            refine ev_iconstN (v := 0) i_Md_growthKind_24 (by decide) ?_
            refine ev_mput_thrown i_Md_growthKind_25 h0 ?_
            refine ev_aload_n i_Md_growthKind_28 rfl ?_
            refine ev_get i_Md_growthKind_29 o1 rfl ?_
            refine ev_if_leN i_Md_growthKind_32 (by omega) (fun hc_32 => ?_) (fun hc_32 => ?_)
            · skip
              refine ev_aload_n i_Md_growthKind_37 rfl ?_
              refine ev_iload_n i_Md_growthKind_38 rfl ?_
              refine ev_callV1 i_Md_growthKind_39 rfl o1 (Nat.le_of_ble_eq_true rfl) (mg _) ?_
              rw [sub1_pos hz (by omega)]
              refine ev_ist_n_2 i_Md_growthKind_42 rfl ?_
              refine ev_iload_n i_Md_growthKind_43 rfl ?_
              refine ev_if_ge_N i_Md_growthKind_44 (by omega) (fun hc_44 => ?_) (fun hc_44 => ?_)
              · skip
                refine ev_iload_n i_Md_growthKind_51 rfl ?_
                refine ev_if_neN i_Md_growthKind_52 (by omega) (fun hc_52 => ?_) (fun hc_52 => ?_)
                · skip
                  exfalso; omega
                · skip
                  refine ev_iconstN (v := 1) i_Md_growthKind_55 (by decide) ?_
                  refine ev_goto i_Md_growthKind_56 ?_
                  exact ev_iret i_Md_growthKind_71 rfl (by first | rfl | decide)
              · skip
                exfalso; omega
            · skip
              exfalso; omega
          · skip
            exfalso; omega
        · skip
          exfalso; omega
      · rw [show min (gM (σ.2.1.1 t) σ.2.1.2.1) 2 = 2 by omega]
        refine MetA.of rfl (by decide +kernel) (Nat.le_of_ble_eq_true rfl) ?_
        refine ev_aload_n i_Md_growthKind_0 rfl ?_
        refine ev_iload_n i_Md_growthKind_1 rfl ?_
        refine ev_callS1 i_Md_growthKind_2 rfl (Nat.le_of_ble_eq_true rfl) (m_isTable.1 (inR.of (by decide) ht)) ?_
        refine ev_if_neN i_Md_growthKind_5 (by omega) (fun hc_5 => ?_) (fun hc_5 => ?_)
        · skip
          refine ev_aload_n i_Md_growthKind_12 rfl ?_
          refine ev_iload_n i_Md_growthKind_13 rfl ?_
          refine ev_callV1 i_Md_growthKind_14 rfl h0 (Nat.le_of_ble_eq_true rfl) ((m_unfit h ht).1 hf) ?_
          refine ev_if_leN i_Md_growthKind_17 (by omega) (fun hc_17 => ?_) (fun hc_17 => ?_)
          · skip
            refine ev_iconstN (v := 0) i_Md_growthKind_24 (by decide) ?_
            refine ev_mput_thrown i_Md_growthKind_25 h0 ?_
            refine ev_aload_n i_Md_growthKind_28 rfl ?_
            refine ev_get i_Md_growthKind_29 o1 rfl ?_
            refine ev_if_leN i_Md_growthKind_32 (by omega) (fun hc_32 => ?_) (fun hc_32 => ?_)
            · skip
              refine ev_aload_n i_Md_growthKind_37 rfl ?_
              refine ev_iload_n i_Md_growthKind_38 rfl ?_
              refine ev_callV1 i_Md_growthKind_39 rfl o1 (Nat.le_of_ble_eq_true rfl) (mg _) ?_
              rw [sub1_pos hz (by omega)]
              refine ev_ist_n_2 i_Md_growthKind_42 rfl ?_
              refine ev_iload_n i_Md_growthKind_43 rfl ?_
              refine ev_if_ge_N i_Md_growthKind_44 (by omega) (fun hc_44 => ?_) (fun hc_44 => ?_)
              · skip
                refine ev_iload_n i_Md_growthKind_51 rfl ?_
                refine ev_if_neN i_Md_growthKind_52 (by omega) (fun hc_52 => ?_) (fun hc_52 => ?_)
                · skip
                  refine ev_iload_n i_Md_growthKind_59 rfl ?_
                  refine ev_sipushN (v := 1000) i_Md_growthKind_60 (by decide) ?_
                  refine ev_icmp_geN i_Md_growthKind_63 (by omega) (by omega) (fun hc_63 => ?_) (fun hc_63 => ?_)
                  · skip
                    exfalso; omega
                  · skip
                    refine ev_iconstN (v := 2) i_Md_growthKind_66 (by decide) ?_
                    refine ev_goto i_Md_growthKind_67 ?_
                    exact ev_iret i_Md_growthKind_71 rfl (by first | rfl | decide)
                · skip
                  exfalso; omega
              · skip
                exfalso; omega
            · skip
              exfalso; omega
          · skip
            exfalso; omega
        · skip
          exfalso; omega
  · refine ⟨(((S.put 105 (mO 0 σ dr mo sc)).put 119 (aZ 6 (zG (liv (ed (σ.2.1.1 t))) fl 6))).put 120 (aZ 36 (zG (sq (RLx (σ.2.1.1 t))) fe 36))), fun d => ?_, h2, hF.m (by decide)⟩
    have hz : (gM (σ.2.1.1 t) σ.2.1.2.1) ≠ 0 := by omega
    refine MetA.of rfl (by decide +kernel) (Nat.le_of_ble_eq_true rfl) ?_
    refine ev_aload_n i_Md_growthKind_0 rfl ?_
    refine ev_iload_n i_Md_growthKind_1 rfl ?_
    refine ev_callS1 i_Md_growthKind_2 rfl (Nat.le_of_ble_eq_true rfl) (m_isTable.1 (inR.of (by decide) ht)) ?_
    refine ev_if_neN i_Md_growthKind_5 (by omega) (fun hc_5 => ?_) (fun hc_5 => ?_)
    · skip
      refine ev_aload_n i_Md_growthKind_12 rfl ?_
      refine ev_iload_n i_Md_growthKind_13 rfl ?_
      refine ev_callV1 i_Md_growthKind_14 rfl h0 (Nat.le_of_ble_eq_true rfl) ((m_unfit h ht).1 hf) ?_
      refine ev_if_leN i_Md_growthKind_17 (by omega) (fun hc_17 => ?_) (fun hc_17 => ?_)
      · skip
        refine ev_iconstN (v := 0) i_Md_growthKind_24 (by decide) ?_
        refine ev_mput_thrown i_Md_growthKind_25 h0 ?_
        refine ev_aload_n i_Md_growthKind_28 rfl ?_
        refine ev_get i_Md_growthKind_29 o1 rfl ?_
        refine ev_if_leN i_Md_growthKind_32 (by omega) (fun hc_32 => ?_) (fun hc_32 => ?_)
        · skip
          refine ev_aload_n i_Md_growthKind_37 rfl ?_
          refine ev_iload_n i_Md_growthKind_38 rfl ?_
          refine ev_callV1 i_Md_growthKind_39 rfl o1 (Nat.le_of_ble_eq_true rfl) (mg _) ?_
          rw [sub1_pos hz (by omega)]
          refine ev_ist_n_2 i_Md_growthKind_42 rfl ?_
          refine ev_iload_n i_Md_growthKind_43 rfl ?_
          refine ev_if_ge_N i_Md_growthKind_44 (by omega) (fun hc_44 => ?_) (fun hc_44 => ?_)
          · skip
            refine ev_iload_n i_Md_growthKind_51 rfl ?_
            refine ev_if_neN i_Md_growthKind_52 (by omega) (fun hc_52 => ?_) (fun hc_52 => ?_)
            · skip
              refine ev_iload_n i_Md_growthKind_59 rfl ?_
              refine ev_sipushN (v := 1000) i_Md_growthKind_60 (by decide) ?_
              refine ev_icmp_geN i_Md_growthKind_63 (by omega) (by omega) (fun hc_63 => ?_) (fun hc_63 => ?_)
              · skip
                refine ev_iconstN (v := 3) i_Md_growthKind_70 (by decide) ?_
                exact ev_iret i_Md_growthKind_71 rfl (by first | rfl | decide)
              · skip
                exfalso; omega
            · skip
              exfalso; omega
          · skip
            exfalso; omega
        · skip
          exfalso; omega
      · skip
        exfalso; omega
    · skip
      exfalso; omega
theorem m_grDeg {scr : Scr} {l : Launch} {S : Sto} {σ : Sg} {th : Nat} {t : Nat} (h : MInv th σ S) (ht : t < 3) (hf : fitT (σ.2.1.1 t)) : ((gM (σ.2.1.1 t) σ.2.1.2.1) ≠ 1001 → MRun scr l 10 M_Md_growthDegree [.ref 105, .int (nI t)] S (some (.int (nI ((gM (σ.2.1.1 t) σ.2.1.2.1) - 1)))) 0 σ) ∧ ((gM (σ.2.1.1 t) σ.2.1.2.1) = 1001 → MRun scr l 10 M_Md_growthDegree [.ref 105, .int (nI t)] S (some (.int (nI 0))) 3 σ) := by
  obtain ⟨dr, mo, sc, h0⟩ := h.get
  obtain ⟨⟨g, tb, t2⟩, ⟨gw, wd, hx⟩, -⟩ := h.2.2.1
  obtain ⟨fl, fe, hl, he⟩ : ∃ fl fe, S.1[119]? = some (aZ 6 fl) ∧ S.1[120]? = some (aZ 36 fe) := by
    obtain ⟨f1, f5, f6, f7, f8, f9, f3, f4, l1, l2, l3, e1, e2, e3, e4, h1, h2, h3, h4, h5, hrest⟩ := h.2.2.2.2.2
    exact ⟨f3, f4, h4, h5⟩
  have o1 : (S.put 105 (mO 0 σ dr mo sc)).1[105]? = _ := put_self h0
  have g1 : (S.put 105 (mO 0 σ dr mo sc)).1[106]? = _ := put_at tb (by decide)
  have w1 : (S.put 105 (mO 0 σ dr mo sc)).1[107]? = _ := put_at wd (by decide)
  have l1 : (S.put 105 (mO 0 σ dr mo sc)).1[119]? = _ := put_at hl (by decide)
  have e1 : (S.put 105 (mO 0 σ dr mo sc)).1[120]? = _ := put_at he (by decide)
  have o2 : (((S.put 105 (mO 0 σ dr mo sc)).put 119 (aZ 6 (zG (liv (ed (σ.2.1.1 t))) fl 6))).put 120 (aZ 36 (zG (sq (RLx (σ.2.1.1 t))) fe 36))).1[105]? = _ := put_at (put_at o1 (by decide)) (by decide)
  have l2 : (((S.put 105 (mO 0 σ dr mo sc)).put 119 (aZ 6 (zG (liv (ed (σ.2.1.1 t))) fl 6))).put 120 (aZ 36 (zG (sq (RLx (σ.2.1.1 t))) fe 36))).1[119]? = _ := put_at (put_self l1) (by decide)
  have e2 : (((S.put 105 (mO 0 σ dr mo sc)).put 119 (aZ 6 (zG (liv (ed (σ.2.1.1 t))) fl 6))).put 120 (aZ 36 (zG (sq (RLx (σ.2.1.1 t))) fe 36))).1[120]? = _ := put_self (put_at e1 (by decide))
  have hF : Fr [105, 119, 120] S (((S.put 105 (mO 0 σ dr mo sc)).put 119 (aZ 6 (zG (liv (ed (σ.2.1.1 t))) fl 6))).put 120 (aZ 36 (zG (sq (RLx (σ.2.1.1 t))) fe 36))) := ((Fr.put _ _ (by simp)).tr (Fr.put _ _ (by simp))).tr (Fr.put _ _ (by simp))
  have h2 : MInv 0 σ (((S.put 105 (mO 0 σ dr mo sc)).put 119 (aZ 6 (zG (liv (ed (σ.2.1.1 t))) fl 6))).put 120 (aZ 36 (zG (sq (RLx (σ.2.1.1 t))) fe 36))) := h.scr hF (by simp) ⟨dr, mo, sc, o2⟩ (h.2.2.2.2.2.up hF (Or.inl (by decide)) (Or.inl (by decide)) (Or.inl (by decide)) (Or.inr ⟨_, l2⟩) (Or.inr ⟨_, e2⟩) (Or.inl (by decide)) (Or.inl (by decide)) (Or.inl (by decide)) (Or.inl (by decide)) (Or.inl (by decide)) (Or.inl (by decide)) (Or.inl (by decide)) (Or.inl (by decide)) (Or.inl (by decide)) (Or.inl (by decide)))
  have mg := fun d => m_grows (scr := scr) (l := l) (d := d) o1 g1 (t2 t ht) ht w1 hx l1 e1
  have hle := gM_le (T := σ.2.1.1 t) (xs := σ.2.1.2.1)
  refine ⟨fun hg => ?_, fun hg => ?_⟩
  · have hg6 := (gM_small hg).1
    refine ⟨(((S.put 105 (mO 0 σ dr mo sc)).put 119 (aZ 6 (zG (liv (ed (σ.2.1.1 t))) fl 6))).put 120 (aZ 36 (zG (sq (RLx (σ.2.1.1 t))) fe 36))), fun d => ?_, h2, hF.m (by decide)⟩
    by_cases hz : (gM (σ.2.1.1 t) σ.2.1.2.1) = 0
    · rw [show (gM (σ.2.1.1 t) σ.2.1.2.1) - 1 = 0 - 1 by omega]
      refine MetA.of rfl (by decide +kernel) (Nat.le_of_ble_eq_true rfl) ?_
      refine ev_aload_n i_Md_growthDegree_0 rfl ?_
      refine ev_iload_n i_Md_growthDegree_1 rfl ?_
      refine ev_callS1 i_Md_growthDegree_2 rfl (Nat.le_of_ble_eq_true rfl) (m_isTable.1 (inR.of (by decide) ht)) ?_
      refine ev_if_neN i_Md_growthDegree_5 (by omega) (fun hc_5 => ?_) (fun hc_5 => ?_)
      · skip
        refine ev_aload_n i_Md_growthDegree_12 rfl ?_
        refine ev_iload_n i_Md_growthDegree_13 rfl ?_
        refine ev_callV1 i_Md_growthDegree_14 rfl h0 (Nat.le_of_ble_eq_true rfl) ((m_unfit h ht).1 hf) ?_
        refine ev_if_leN i_Md_growthDegree_17 (by omega) (fun hc_17 => ?_) (fun hc_17 => ?_)
        · skip
          refine ev_iconstN (v := 0) i_Md_growthDegree_24 (by decide) ?_
          refine ev_mput_thrown i_Md_growthDegree_25 h0 ?_
          refine ev_aload_n i_Md_growthDegree_28 rfl ?_
          refine ev_get i_Md_growthDegree_29 o1 rfl ?_
          refine ev_if_leN i_Md_growthDegree_32 (by omega) (fun hc_32 => ?_) (fun hc_32 => ?_)
          · skip
            refine ev_aload_n i_Md_growthDegree_37 rfl ?_
            refine ev_iload_n i_Md_growthDegree_38 rfl ?_
            refine ev_callV1 i_Md_growthDegree_39 rfl o1 (Nat.le_of_ble_eq_true rfl) (mg _) ?_
            rw [hz]
            refine ev_ist_n_2 i_Md_growthDegree_42 rfl ?_
            refine ev_iload_n i_Md_growthDegree_43 rfl ?_
            refine ev_sipushN (v := 1000) i_Md_growthDegree_44 (by decide) ?_
            refine ev_icmp_ne i_Md_growthDegree_47 (fun hc_47 => ?_) (fun hc_47 => ?_)
            · skip
              refine ev_iload_n i_Md_growthDegree_58 rfl ?_
              refine ev_iconstN (v := 0) i_Md_growthDegree_59 (by decide) ?_
              refine ev_callS2 i_Md_growthDegree_60 rfl (Nat.le_of_ble_eq_true rfl) (c_Ma_maxz (by decide)) ?_
              exact ev_iret i_Md_growthDegree_63 rfl (by first | rfl | decide)
            · skip
              exact absurd hc_47 (by decide)
          · skip
            exfalso; omega
        · skip
          exfalso; omega
      · skip
        exfalso; omega
    · rw [← Nat.max_zero ((gM (σ.2.1.1 t) σ.2.1.2.1) - 1)]
      refine MetA.of rfl (by decide +kernel) (Nat.le_of_ble_eq_true rfl) ?_
      refine ev_aload_n i_Md_growthDegree_0 rfl ?_
      refine ev_iload_n i_Md_growthDegree_1 rfl ?_
      refine ev_callS1 i_Md_growthDegree_2 rfl (Nat.le_of_ble_eq_true rfl) (m_isTable.1 (inR.of (by decide) ht)) ?_
      refine ev_if_neN i_Md_growthDegree_5 (by omega) (fun hc_5 => ?_) (fun hc_5 => ?_)
      · skip
        refine ev_aload_n i_Md_growthDegree_12 rfl ?_
        refine ev_iload_n i_Md_growthDegree_13 rfl ?_
        refine ev_callV1 i_Md_growthDegree_14 rfl h0 (Nat.le_of_ble_eq_true rfl) ((m_unfit h ht).1 hf) ?_
        refine ev_if_leN i_Md_growthDegree_17 (by omega) (fun hc_17 => ?_) (fun hc_17 => ?_)
        · skip
          refine ev_iconstN (v := 0) i_Md_growthDegree_24 (by decide) ?_
          refine ev_mput_thrown i_Md_growthDegree_25 h0 ?_
          refine ev_aload_n i_Md_growthDegree_28 rfl ?_
          refine ev_get i_Md_growthDegree_29 o1 rfl ?_
          refine ev_if_leN i_Md_growthDegree_32 (by omega) (fun hc_32 => ?_) (fun hc_32 => ?_)
          · skip
            refine ev_aload_n i_Md_growthDegree_37 rfl ?_
            refine ev_iload_n i_Md_growthDegree_38 rfl ?_
            refine ev_callV1 i_Md_growthDegree_39 rfl o1 (Nat.le_of_ble_eq_true rfl) (mg _) ?_
            rw [sub1_pos hz (by omega)]
            refine ev_ist_n_2 i_Md_growthDegree_42 rfl ?_
            refine ev_iload_n i_Md_growthDegree_43 rfl ?_
            refine ev_sipushN (v := 1000) i_Md_growthDegree_44 (by decide) ?_
            refine ev_icmp_neN i_Md_growthDegree_47 (by omega) (by omega) (fun hc_47 => ?_) (fun hc_47 => ?_)
            · skip
              refine ev_iload_n i_Md_growthDegree_58 rfl ?_
              refine ev_iconstN (v := 0) i_Md_growthDegree_59 (by decide) ?_
              refine ev_callS2 i_Md_growthDegree_60 rfl (Nat.le_of_ble_eq_true rfl) (c_Ma_maxI (by omega) (by omega)) ?_
              exact ev_iret i_Md_growthDegree_63 rfl (by first | rfl | decide)
            · skip
              exfalso; omega
          · skip
            exfalso; omega
        · skip
          exfalso; omega
      · skip
        exfalso; omega
  · obtain ⟨S3, mf, i3, f3⟩ := m_fails (scr := scr) (l := l) (k := 3) h2
    refine ⟨S3, fun d => ?_, i3, (hF.m (by decide)).tr (f3.m (by decide))⟩
    have hz : (gM (σ.2.1.1 t) σ.2.1.2.1) ≠ 0 := by omega
    refine MetA.of rfl (by decide +kernel) (Nat.le_of_ble_eq_true rfl) ?_
    refine ev_aload_n i_Md_growthDegree_0 rfl ?_
    refine ev_iload_n i_Md_growthDegree_1 rfl ?_
    refine ev_callS1 i_Md_growthDegree_2 rfl (Nat.le_of_ble_eq_true rfl) (m_isTable.1 (inR.of (by decide) ht)) ?_
    refine ev_if_neN i_Md_growthDegree_5 (by omega) (fun hc_5 => ?_) (fun hc_5 => ?_)
    · skip
      refine ev_aload_n i_Md_growthDegree_12 rfl ?_
      refine ev_iload_n i_Md_growthDegree_13 rfl ?_
      refine ev_callV1 i_Md_growthDegree_14 rfl h0 (Nat.le_of_ble_eq_true rfl) ((m_unfit h ht).1 hf) ?_
      refine ev_if_leN i_Md_growthDegree_17 (by omega) (fun hc_17 => ?_) (fun hc_17 => ?_)
      · skip
        refine ev_iconstN (v := 0) i_Md_growthDegree_24 (by decide) ?_
        refine ev_mput_thrown i_Md_growthDegree_25 h0 ?_
        refine ev_aload_n i_Md_growthDegree_28 rfl ?_
        refine ev_get i_Md_growthDegree_29 o1 rfl ?_
        refine ev_if_leN i_Md_growthDegree_32 (by omega) (fun hc_32 => ?_) (fun hc_32 => ?_)
        · skip
          refine ev_aload_n i_Md_growthDegree_37 rfl ?_
          refine ev_iload_n i_Md_growthDegree_38 rfl ?_
          refine ev_callV1 i_Md_growthDegree_39 rfl o1 (Nat.le_of_ble_eq_true rfl) (mg _) ?_
          rw [sub1_pos hz (by omega)]
          refine ev_ist_n_2 i_Md_growthDegree_42 rfl ?_
          refine ev_iload_n i_Md_growthDegree_43 rfl ?_
          refine ev_sipushN (v := 1000) i_Md_growthDegree_44 (by decide) ?_
          refine ev_icmp_neN i_Md_growthDegree_47 (by omega) (by omega) (fun hc_47 => ?_) (fun hc_47 => ?_)
          · skip
            exfalso; omega
          · skip
            refine ev_aload_n i_Md_growthDegree_50 rfl ?_
            refine ev_iconstN (v := 3) i_Md_growthDegree_51 (by decide) ?_
            refine ev_callV1 i_Md_growthDegree_52 rfl o2 (Nat.le_of_ble_eq_true rfl) (mf _) ?_
            refine ev_goto i_Md_growthDegree_55 ?_
            exact ev_iret i_Md_growthDegree_63 rfl (by first | rfl | decide)
        · skip
          exfalso; omega
      · skip
        exfalso; omega
    · skip
      exfalso; omega

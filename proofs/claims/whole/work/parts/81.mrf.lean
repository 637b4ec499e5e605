/-! the model m: recurrences, the face -/
def OrS (S S2 : Sto) (s : Nat → FF) : Prop := Fr [123, 124] S S2 ∧ (∃ F, S2.1[123]? = some (aI 84 F)) ∧ ∃ G, S2.1[124]? = some (aI 7 G)
def OrE (S : Sto) (r : Nat) (D : Nat → FF) (S2 : Sto) : Prop := Fr [123, 124] S S2 ∧ (∃ F, S2.1[123]? = some (aI 84 F)) ∧ ∃ G, S2.1[124]? = some (aI 7 G) ∧ ∀ k, k < r → G (k + 1) = nI (- D (k + 1)).val
theorem lp_ord {scr : Scr} {l : Launch} {S : Sto} {t r : Nat} {s D : Nat → FF} {ft : Nat → Int32} {q1 q2 q3 q4 q5 q6 q7 : Int32} (h0 : S.1[105]? = some (mObj q1 q2 q3 q4 q5 q6 q7)) (h122 : S.1[122]? = some (aI 18 (kG (fun j => (s j).val) ft 18))) (hR : RecS s r D) (hr : r ≤ 6) : ∀ (k o : Nat), o + k = r → ∀ S2, OrS S S2 s → EvX scr l 3 M_Md_orderOf 7 [some (.ref 105), some (.int (nI t)), some (.int (nI o)), none] S2 (some (.int (nI r))) (OrE S r D) := by
  intro k
  induction k with
  | zero =>
    intro o hok S2 ⟨hF, ⟨F, f2⟩, G, g2⟩
    have z : o = r := by omega
    subst z
    have o2 := hF.at h0 (show 105 ∉ [123, 124] by decide)
    have t2 := hF.at h122 (show 122 ∉ [123, 124] by decide)
    obtain ⟨S3, m3, F3, ⟨Fa, f3⟩, Ga, g3, c3⟩ := m_solve (scr := scr) (l := l) (o := o) o2 t2 f2 g2 hR hr (Nat.le_refl _)
    have e1 : nI (bI (decide (o = o))) = nI 1 := by rw [decide_eq_true rfl]; rfl
    rw [e1] at m3
    by_cases h6 : o = 6
    · refine ⟨S3, fun d => ?_, hF.tr F3, ⟨Fa, f3⟩, Ga, g3, c3 rfl⟩
      refine ev_iload_n i_Md_orderOf_7 rfl ?_
      refine ev_bipushN (v := 6) i_Md_orderOf_8 (by decide) ?_
      refine ev_icmp_geN i_Md_orderOf_10 (by omega) (by omega) (fun hc_10 => ?_) (fun hc_10 => ?_)
      · skip
        refine ev_aload_n i_Md_orderOf_27 rfl ?_
        refine ev_iload_n i_Md_orderOf_28 rfl ?_
        refine ev_callV1 i_Md_orderOf_29 rfl o2 (Nat.le_of_ble_eq_true rfl) (m3 _) ?_
        refine ev_ist_n_3 i_Md_orderOf_32 rfl ?_
        refine ev_iload_n i_Md_orderOf_33 rfl ?_
        exact ev_iret i_Md_orderOf_34 rfl (by first | rfl | decide)
      · skip
        exfalso; omega
    · have o3 := F3.at o2 (show 105 ∉ [123, 124] by decide)
      have t3 := F3.at t2 (show 122 ∉ [123, 124] by decide)
      obtain ⟨S4, m4, F4, ⟨Fb, f4⟩, Gb, g4, c4⟩ := m_solve (scr := scr) (l := l) (o := o) o3 t3 f3 g3 hR hr (Nat.le_refl _)
      refine ⟨S4, fun d => ?_, (hF.tr F3).tr F4, ⟨Fb, f4⟩, Gb, g4, c4 rfl⟩
      refine ev_iload_n i_Md_orderOf_7 rfl ?_
      refine ev_bipushN (v := 6) i_Md_orderOf_8 (by decide) ?_
      refine ev_icmp_geN i_Md_orderOf_10 (by omega) (by omega) (fun hc_10 => ?_) (fun hc_10 => ?_)
      · skip
        exfalso; omega
      · skip
        refine ev_aload_n i_Md_orderOf_13 rfl ?_
        refine ev_iload_n i_Md_orderOf_14 rfl ?_
        refine ev_callV1 i_Md_orderOf_15 rfl o2 (Nat.le_of_ble_eq_true rfl) (m3 _) ?_
        refine ev_if_neN i_Md_orderOf_18 (by omega) (fun hc_18 => ?_) (fun hc_18 => ?_)
        · skip
          refine ev_aload_n i_Md_orderOf_27 rfl ?_
          refine ev_iload_n i_Md_orderOf_28 rfl ?_
          refine ev_callV1 i_Md_orderOf_29 rfl o3 (Nat.le_of_ble_eq_true rfl) (m4 _) ?_
          refine ev_ist_n_3 i_Md_orderOf_32 rfl ?_
          refine ev_iload_n i_Md_orderOf_33 rfl ?_
          exact ev_iret i_Md_orderOf_34 rfl (by first | rfl | decide)
        · skip
          exfalso; omega
  | succ k ih =>
    intro o hok S2 ⟨hF, ⟨F, f2⟩, G, g2⟩
    have o2 := hF.at h0 (show 105 ∉ [123, 124] by decide)
    have t2 := hF.at h122 (show 122 ∉ [123, 124] by decide)
    obtain ⟨S3, m3, F3, ⟨Fa, f3⟩, Ga, g3, c3⟩ := m_solve (scr := scr) (l := l) (o := o) o2 t2 f2 g2 hR hr (by omega)
    have e1 : nI (bI (decide (o = r))) = nI 0 := by rw [decide_eq_false (by omega)]; rfl
    rw [e1] at m3
    refine EvX.go (ih (o + 1) (by omega) S3 ⟨hF.tr F3, ⟨Fa, f3⟩, Ga, g3⟩) (fun d r kx => ?_)
    refine ev_iload_n i_Md_orderOf_7 rfl ?_
    refine ev_bipushN (v := 6) i_Md_orderOf_8 (by decide) ?_
    refine ev_icmp_geN i_Md_orderOf_10 (by omega) (by omega) (fun hc_10 => ?_) (fun hc_10 => ?_)
    · skip
      exfalso; omega
    · skip
      refine ev_aload_n i_Md_orderOf_13 rfl ?_
      refine ev_iload_n i_Md_orderOf_14 rfl ?_
      refine ev_callV1 i_Md_orderOf_15 rfl o2 (Nat.le_of_ble_eq_true rfl) (m3 _) ?_
      refine ev_if_neN i_Md_orderOf_18 (by omega) (fun hc_18 => ?_) (fun hc_18 => ?_)
      · skip
        exfalso; omega
      · skip
        refine ev_iincN_2 (c := 1) i_Md_orderOf_21 (by decide) rfl ?_
        refine ev_goto i_Md_orderOf_24 ?_
        exact kx
theorem m_orderOf {scr : Scr} {l : Launch} {S : Sto} {σ : Sg} {th : Nat} {t : Nat} (h : MInv th σ S) (ht : t < 3) : ∃ S3, (∀ d, MetA scr l (d + 3) M_Md_orderOf [.ref 105, .int (nI t)] S (.inl (some (.int (nI (recO (σ.2.1.1 t) σ.2.1.2.1)))), S3)) ∧ Fr [117, 118, 122, 123, 124] S S3 ∧ ((∃ f, S3.1[117]? = some (aJ 6 f)) ∧ (∃ f, S3.1[118]? = some (aJ 6 f)) ∧ (∃ f, S3.1[122]? = some (aI 18 f)) ∧ (∃ f, S3.1[123]? = some (aI 84 f))) ∧ ∃ G, S3.1[124]? = some (aI 7 G) ∧ ∀ k, k < recO (σ.2.1.1 t) σ.2.1.2.1 → G (k + 1) = nI (- recD (σ.2.1.1 t) σ.2.1.2.1 (k + 1)).val := by
  obtain ⟨dr, mo, sc, h0⟩ := h.get
  obtain ⟨⟨g, tb, t2⟩, ⟨gw, wd, hx⟩, -⟩ := h.2.2.1
  obtain ⟨l1, l2, f6, f7, f8, hc, hn2, he, h123, h124⟩ : ∃ l1 l2 f6 f7 f8, S.1[117]? = some (aJ 6 l1) ∧ S.1[118]? = some (aJ 6 l2) ∧ S.1[122]? = some (aI 18 f6) ∧ S.1[123]? = some (aI 84 f7) ∧ S.1[124]? = some (aI 7 f8) := by
    obtain ⟨f1, f5, f6, f7, f8, f9, f3, f4, l1, l2, l3, e1, e2, e3, e4, h1, h2, h3, h4, h5, h6, h7, h8, h9, hrest⟩ := h.2.2.2.2.2
    exact ⟨l1, l2, f6, f7, f8, h2, h3, h7, h8, h9⟩
  obtain ⟨hr, hR⟩ := rec_spec (σ.2.1.1 t) σ.2.1.2.1
  obtain ⟨S2, m2, ⟨g1, g2, ft, c2, x2, t2'⟩, F2⟩ := m_terms (scr := scr) (l := l) (xs := σ.2.1.2.1) h0 tb (t2 t ht) ht wd hx hc hn2 he
  have o2 := F2.at h0 (show 105 ∉ [117, 118, 122] by decide)
  have q2 := F2.at h123 (show 123 ∉ [117, 118, 122] by decide)
  have k2 := F2.at h124 (show 124 ∉ [117, 118, 122] by decide)
  obtain ⟨S4, m4, F4, ⟨Fb, f4⟩, Gb, g4, c4⟩ := lp_ord (scr := scr) (l := l) (t := t) o2 t2' hR hr (recO (σ.2.1.1 t) σ.2.1.2.1) 0 (by omega) S2 ⟨Fr.rf _ _, ⟨_, q2⟩, _, k2⟩
  refine ⟨S4, fun d => ?_, (F2.mono (by simp)).tr (F4.mono (by simp)), ⟨⟨_, F4.at c2 (by decide)⟩, ⟨_, F4.at x2 (by decide)⟩, ⟨_, F4.at t2' (by decide)⟩, ⟨_, f4⟩⟩, Gb, g4, c4⟩
  refine MetA.of rfl (by decide +kernel) (Nat.le_of_ble_eq_true rfl) ?_
  refine ev_aload_n i_Md_orderOf_0 rfl ?_
  refine ev_iload_n i_Md_orderOf_1 rfl ?_
  refine ev_callV1 i_Md_orderOf_2 rfl h0 (Nat.le_of_ble_eq_true rfl) (m2 _) ?_
  refine ev_iconstN (v := 0) i_Md_orderOf_5 (by decide) ?_
  refine ev_ist_n_2 i_Md_orderOf_6 rfl ?_
  exact m4 d
theorem m_recOrd_1 {scr : Scr} {l : Launch} {S : Sto} {σ : Sg} {th : Nat} {x : Int32} (h : MInv th σ S) (hx : ¬ inR 3 x) : MRun scr l 4 M_Md_recurrenceOrder [.ref 105, .int x] S (some (.int (nI 0))) 1 σ := by
  refine MRun.th h (fun dr mo sc h0 d => ?_)
  have o1 : (S.put 105 (mO 1 σ dr mo sc)).1[105]? = _ := put_self h0
  refine MetA.of rfl (by decide +kernel) (Nat.le_of_ble_eq_true rfl) ?_
  refine ev_aload_n i_Md_recurrenceOrder_0 rfl ?_
  refine ev_iload_n i_Md_recurrenceOrder_1 rfl ?_
  refine ev_callS1 i_Md_recurrenceOrder_2 rfl (Nat.le_of_ble_eq_true rfl) (m_isTable.2 hx) ?_
  refine ev_if_neN i_Md_recurrenceOrder_5 (by omega) (fun hc_5 => ?_) (fun hc_5 => ?_)
  · skip
    exfalso; omega
  · skip
    refine ev_iconstN (v := 1) i_Md_recurrenceOrder_8 (by decide) ?_
    refine ev_goto i_Md_recurrenceOrder_9 ?_
    refine ev_mput_thrown i_Md_recurrenceOrder_25 h0 ?_
    refine ev_aload_n i_Md_recurrenceOrder_28 rfl ?_
    refine ev_get i_Md_recurrenceOrder_29 o1 rfl ?_
    refine ev_if_leN i_Md_recurrenceOrder_32 (by omega) (fun hc_32 => ?_) (fun hc_32 => ?_)
    · skip
      exfalso; omega
    · skip
      refine ev_iconstN (v := 0) i_Md_recurrenceOrder_35 (by decide) ?_
      refine ev_goto i_Md_recurrenceOrder_36 ?_
      exact ev_iret i_Md_recurrenceOrder_44 rfl (by first | rfl | decide)
theorem m_recOrd_2 {scr : Scr} {l : Launch} {S : Sto} {σ : Sg} {th : Nat} {t : Nat} (h : MInv th σ S) (ht : t < 3) (hf : ¬ fitT (σ.2.1.1 t)) : MRun scr l 4 M_Md_recurrenceOrder [.ref 105, .int (nI t)] S (some (.int (nI 0))) 2 σ := by
  refine MRun.th h (fun dr mo sc h0 d => ?_)
  have o1 : (S.put 105 (mO 2 σ dr mo sc)).1[105]? = _ := put_self h0
  refine MetA.of rfl (by decide +kernel) (Nat.le_of_ble_eq_true rfl) ?_
  refine ev_aload_n i_Md_recurrenceOrder_0 rfl ?_
  refine ev_iload_n i_Md_recurrenceOrder_1 rfl ?_
  refine ev_callS1 i_Md_recurrenceOrder_2 rfl (Nat.le_of_ble_eq_true rfl) (m_isTable.1 (inR.of (by decide) ht)) ?_
  refine ev_if_neN i_Md_recurrenceOrder_5 (by omega) (fun hc_5 => ?_) (fun hc_5 => ?_)
  · skip
    refine ev_aload_n i_Md_recurrenceOrder_12 rfl ?_
    refine ev_iload_n i_Md_recurrenceOrder_13 rfl ?_
    refine ev_callV1 i_Md_recurrenceOrder_14 rfl h0 (Nat.le_of_ble_eq_true rfl) ((m_unfit h ht).2 hf) ?_
    refine ev_if_leN i_Md_recurrenceOrder_17 (by omega) (fun hc_17 => ?_) (fun hc_17 => ?_)
    · skip
      exfalso; omega
    · skip
      refine ev_iconstN (v := 2) i_Md_recurrenceOrder_20 (by decide) ?_
      refine ev_goto i_Md_recurrenceOrder_21 ?_
      refine ev_mput_thrown i_Md_recurrenceOrder_25 h0 ?_
      refine ev_aload_n i_Md_recurrenceOrder_28 rfl ?_
      refine ev_get i_Md_recurrenceOrder_29 o1 rfl ?_
      refine ev_if_leN i_Md_recurrenceOrder_32 (by omega) (fun hc_32 => ?_) (fun hc_32 => ?_)
      · skip
        exfalso; omega
      · skip
        refine ev_iconstN (v := 0) i_Md_recurrenceOrder_35 (by decide) ?_
        refine ev_goto i_Md_recurrenceOrder_36 ?_
        exact ev_iret i_Md_recurrenceOrder_44 rfl (by first | rfl | decide)
  · skip
    exfalso; omega
theorem m_recCo_1 {scr : Scr} {l : Launch} {S : Sto} {σ : Sg} {th : Nat} {x y : Int32} (h : MInv th σ S) (hx : ¬ inR 3 x) : MRun scr l 4 M_Md_recurrenceCoefficient [.ref 105, .int x, .int y] S (some (.int (nI 0))) 1 σ := by
  refine MRun.th h (fun dr mo sc h0 d => ?_)
  have o1 : (S.put 105 (mO 1 σ dr mo sc)).1[105]? = _ := put_self h0
  refine MetA.of rfl (by decide +kernel) (Nat.le_of_ble_eq_true rfl) ?_
  refine ev_aload_n i_Md_recurrenceCoefficient_0 rfl ?_
  refine ev_iload_n i_Md_recurrenceCoefficient_1 rfl ?_
  refine ev_callS1 i_Md_recurrenceCoefficient_2 rfl (Nat.le_of_ble_eq_true rfl) (m_isTable.2 hx) ?_
  refine ev_if_neN i_Md_recurrenceCoefficient_5 (by omega) (fun hc_5 => ?_) (fun hc_5 => ?_)
  · skip
    exfalso; omega
  · skip
    refine ev_iconstN (v := 1) i_Md_recurrenceCoefficient_8 (by decide) ?_
    refine ev_goto i_Md_recurrenceCoefficient_9 ?_
    refine ev_mput_thrown i_Md_recurrenceCoefficient_42 h0 ?_
    refine ev_aload_n i_Md_recurrenceCoefficient_45 rfl ?_
    refine ev_get i_Md_recurrenceCoefficient_46 o1 rfl ?_
    refine ev_if_leN i_Md_recurrenceCoefficient_49 (by omega) (fun hc_49 => ?_) (fun hc_49 => ?_)
    · skip
      exfalso; omega
    · skip
      refine ev_iconstN (v := 0) i_Md_recurrenceCoefficient_52 (by decide) ?_
      refine ev_goto i_Md_recurrenceCoefficient_53 ?_
      exact ev_iret i_Md_recurrenceCoefficient_62 rfl (by first | rfl | decide)
theorem m_recCo_2 {scr : Scr} {l : Launch} {S : Sto} {σ : Sg} {th : Nat} {t : Nat} {y : Int32} (h : MInv th σ S) (ht : t < 3) (hf : ¬ fitT (σ.2.1.1 t)) : MRun scr l 4 M_Md_recurrenceCoefficient [.ref 105, .int (nI t), .int y] S (some (.int (nI 0))) 2 σ := by
  refine MRun.th h (fun dr mo sc h0 d => ?_)
  have o1 : (S.put 105 (mO 2 σ dr mo sc)).1[105]? = _ := put_self h0
  refine MetA.of rfl (by decide +kernel) (Nat.le_of_ble_eq_true rfl) ?_
  refine ev_aload_n i_Md_recurrenceCoefficient_0 rfl ?_
  refine ev_iload_n i_Md_recurrenceCoefficient_1 rfl ?_
  refine ev_callS1 i_Md_recurrenceCoefficient_2 rfl (Nat.le_of_ble_eq_true rfl) (m_isTable.1 (inR.of (by decide) ht)) ?_
  refine ev_if_neN i_Md_recurrenceCoefficient_5 (by omega) (fun hc_5 => ?_) (fun hc_5 => ?_)
  · skip
    refine ev_aload_n i_Md_recurrenceCoefficient_12 rfl ?_
    refine ev_iload_n i_Md_recurrenceCoefficient_13 rfl ?_
    refine ev_callV1 i_Md_recurrenceCoefficient_14 rfl h0 (Nat.le_of_ble_eq_true rfl) ((m_unfit h ht).2 hf) ?_
    refine ev_if_leN i_Md_recurrenceCoefficient_17 (by omega) (fun hc_17 => ?_) (fun hc_17 => ?_)
    · skip
      exfalso; omega
    · skip
      refine ev_iconstN (v := 2) i_Md_recurrenceCoefficient_20 (by decide) ?_
      refine ev_goto i_Md_recurrenceCoefficient_21 ?_
      refine ev_mput_thrown i_Md_recurrenceCoefficient_42 h0 ?_
      refine ev_aload_n i_Md_recurrenceCoefficient_45 rfl ?_
      refine ev_get i_Md_recurrenceCoefficient_46 o1 rfl ?_
      refine ev_if_leN i_Md_recurrenceCoefficient_49 (by omega) (fun hc_49 => ?_) (fun hc_49 => ?_)
      · skip
        exfalso; omega
      · skip
        refine ev_iconstN (v := 0) i_Md_recurrenceCoefficient_52 (by decide) ?_
        refine ev_goto i_Md_recurrenceCoefficient_53 ?_
        exact ev_iret i_Md_recurrenceCoefficient_62 rfl (by first | rfl | decide)
  · skip
    exfalso; omega
theorem m_recOrd {scr : Scr} {l : Launch} {S : Sto} {σ : Sg} {th : Nat} {t : Nat} (h : MInv th σ S) (ht : t < 3) (hf : fitT (σ.2.1.1 t)) : MRun scr l 4 M_Md_recurrenceOrder [.ref 105, .int (nI t)] S (some (.int (nI (recO (σ.2.1.1 t) σ.2.1.2.1)))) 0 σ := by
  obtain ⟨dr, mo, sc, h0⟩ := h.get
  have o1 : (S.put 105 (mO 0 σ dr mo sc)).1[105]? = _ := put_self h0
  obtain ⟨S3, m3, F3, ⟨a1, a2, a3, a4⟩, G, g3, c3⟩ := m_orderOf (scr := scr) (l := l) (h.th (k := 0) h0) ht
  have h3 := F3.at o1 (show 105 ∉ [117, 118, 122, 123, 124] by decide)
  refine ⟨S3, fun d => ?_, (h.th (k := 0) h0).scr F3 (by simp) ⟨dr, mo, sc, h3⟩ ((h.th (k := 0) h0).2.2.2.2.2.up F3 (Or.inl (by decide)) (Or.inr a1) (Or.inr a2) (Or.inl (by decide)) (Or.inl (by decide)) (Or.inl (by decide)) (Or.inr a3) (Or.inr a4) (Or.inr ⟨_, g3⟩) (Or.inl (by decide)) (Or.inl (by decide)) (Or.inl (by decide)) (Or.inl (by decide)) (Or.inl (by decide)) (Or.inl (by decide))), (((Fr.put _ _ (by simp)).tr (F3.mono (by simp))) : Fr [105, 117, 118, 122, 123, 124] S S3).m (by decide)⟩
  refine MetA.of rfl (by decide +kernel) (Nat.le_of_ble_eq_true rfl) ?_
  refine ev_aload_n i_Md_recurrenceOrder_0 rfl ?_
  refine ev_iload_n i_Md_recurrenceOrder_1 rfl ?_
  refine ev_callS1 i_Md_recurrenceOrder_2 rfl (Nat.le_of_ble_eq_true rfl) (m_isTable.1 (inR.of (by decide) ht)) ?_
  refine ev_if_neN i_Md_recurrenceOrder_5 (by omega) (fun hc_5 => ?_) (fun hc_5 => ?_)
  · skip
    refine ev_aload_n i_Md_recurrenceOrder_12 rfl ?_
    refine ev_iload_n i_Md_recurrenceOrder_13 rfl ?_
    refine ev_callV1 i_Md_recurrenceOrder_14 rfl h0 (Nat.le_of_ble_eq_true rfl) ((m_unfit h ht).1 hf) ?_
    refine ev_if_leN i_Md_recurrenceOrder_17 (by omega) (fun hc_17 => ?_) (fun hc_17 => ?_)
    · skip
      refine ev_iconstN (v := 0) i_Md_recurrenceOrder_24 (by decide) ?_
      refine ev_mput_thrown i_Md_recurrenceOrder_25 h0 ?_
      refine ev_aload_n i_Md_recurrenceOrder_28 rfl ?_
      refine ev_get i_Md_recurrenceOrder_29 o1 rfl ?_
      refine ev_if_leN i_Md_recurrenceOrder_32 (by omega) (fun hc_32 => ?_) (fun hc_32 => ?_)
      · skip
        refine ev_aload_n i_Md_recurrenceOrder_39 rfl ?_
        refine ev_iload_n i_Md_recurrenceOrder_40 rfl ?_
        refine ev_callV1 i_Md_recurrenceOrder_41 rfl o1 (Nat.le_of_ble_eq_true rfl) (m3 _) ?_
        exact ev_iret i_Md_recurrenceOrder_44 rfl (by first | rfl | decide)
      · skip
        exfalso; omega
    · skip
      exfalso; omega
  · skip
    exfalso; omega
theorem m_recCo {scr : Scr} {l : Launch} {S : Sto} {σ : Sg} {th : Nat} {t k : Nat} (h : MInv th σ S) (ht : t < 3) (hf : fitT (σ.2.1.1 t)) (h1 : 1 ≤ k) (hk : k ≤ recO (σ.2.1.1 t) σ.2.1.2.1) : MRun scr l 4 M_Md_recurrenceCoefficient [.ref 105, .int (nI t), .int (nI k)] S (some (.int (nI (- recD (σ.2.1.1 t) σ.2.1.2.1 k).val))) 0 σ := by
  obtain ⟨dr, mo, sc, h0⟩ := h.get
  obtain ⟨S3, m3, F3, ⟨⟨p1, a1⟩, ⟨p2, a2⟩, ⟨p3, a3⟩, ⟨p4, a4⟩⟩, G, g3, c3⟩ := m_orderOf (scr := scr) (l := l) h ht
  have h3 := F3.at h0 (show 105 ∉ [117, 118, 122, 123, 124] by decide)
  have o4 : (S3.put 105 (mO 0 σ dr mo sc)).1[105]? = _ := put_self h3
  have g4 : (S3.put 105 (mO 0 σ dr mo sc)).1[124]? = _ := put_at g3 (by decide)
  have F4 : Fr [105, 117, 118, 122, 123, 124] S (S3.put 105 (mO 0 σ dr mo sc)) := (F3.mono (by simp)).tr (Fr.put _ _ (by simp))
  have i4 : MInv 0 σ (S3.put 105 (mO 0 σ dr mo sc)) := h.scr F4 (by simp) ⟨dr, mo, sc, o4⟩ (h.2.2.2.2.2.up F4 (Or.inl (by decide)) (Or.inr ⟨_, put_at a1 (by decide)⟩) (Or.inr ⟨_, put_at a2 (by decide)⟩) (Or.inl (by decide)) (Or.inl (by decide)) (Or.inl (by decide)) (Or.inr ⟨_, put_at a3 (by decide)⟩) (Or.inr ⟨_, put_at a4 (by decide)⟩) (Or.inr ⟨_, g4⟩) (Or.inl (by decide)) (Or.inl (by decide)) (Or.inl (by decide)) (Or.inl (by decide)) (Or.inl (by decide)) (Or.inl (by decide)))
  have hr := (rec_spec (σ.2.1.1 t) σ.2.1.2.1).1
  have hq : inB (nI k) (nI 1) (nI (recO (σ.2.1.1 t) σ.2.1.2.1)) := ⟨fun z => by rw [nI_lt_iff (by omega) (by omega)] at z; omega, fun z => by rw [nI_lt_iff (by omega) (by omega)] at z; omega⟩
  have hkk : G k = nI (- recD (σ.2.1.1 t) σ.2.1.2.1 k).val := by
    have := c3 (k - 1) (by omega)
    rw [show k - 1 + 1 = k by omega] at this
    exact this
  refine ⟨(S3.put 105 (mO 0 σ dr mo sc)), fun d => ?_, i4, F4.m (by decide)⟩
  refine MetA.of rfl (by decide +kernel) (Nat.le_of_ble_eq_true rfl) ?_
  refine ev_aload_n i_Md_recurrenceCoefficient_0 rfl ?_
  refine ev_iload_n i_Md_recurrenceCoefficient_1 rfl ?_
  refine ev_callS1 i_Md_recurrenceCoefficient_2 rfl (Nat.le_of_ble_eq_true rfl) (m_isTable.1 (inR.of (by decide) ht)) ?_
  refine ev_if_neN i_Md_recurrenceCoefficient_5 (by omega) (fun hc_5 => ?_) (fun hc_5 => ?_)
  · skip
    refine ev_aload_n i_Md_recurrenceCoefficient_12 rfl ?_
    refine ev_iload_n i_Md_recurrenceCoefficient_13 rfl ?_
    refine ev_callV1 i_Md_recurrenceCoefficient_14 rfl h0 (Nat.le_of_ble_eq_true rfl) ((m_unfit h ht).1 hf) ?_
    refine ev_if_leN i_Md_recurrenceCoefficient_17 (by omega) (fun hc_17 => ?_) (fun hc_17 => ?_)
    · skip
      refine ev_iload_n i_Md_recurrenceCoefficient_24 rfl ?_
      refine ev_iconstN (v := 1) i_Md_recurrenceCoefficient_25 (by decide) ?_
      refine ev_aload_n i_Md_recurrenceCoefficient_26 rfl ?_
      refine ev_iload_n i_Md_recurrenceCoefficient_27 rfl ?_
      refine ev_callV1 i_Md_recurrenceCoefficient_28 rfl h0 (Nat.le_of_ble_eq_true rfl) (m3 _) ?_
      refine ev_callS3 i_Md_recurrenceCoefficient_31 rfl (Nat.le_of_ble_eq_true rfl) (m_in.1 hq) ?_
      refine ev_if_neN i_Md_recurrenceCoefficient_34 (by omega) (fun hc_34 => ?_) (fun hc_34 => ?_)
      · skip
        refine ev_iconstN (v := 0) i_Md_recurrenceCoefficient_41 (by decide) ?_
        refine ev_mput_thrown i_Md_recurrenceCoefficient_42 h3 ?_
        refine ev_aload_n i_Md_recurrenceCoefficient_45 rfl ?_
        refine ev_get i_Md_recurrenceCoefficient_46 o4 rfl ?_
        refine ev_if_leN i_Md_recurrenceCoefficient_49 (by omega) (fun hc_49 => ?_) (fun hc_49 => ?_)
        · skip
          refine ev_aload_n i_Md_recurrenceCoefficient_56 rfl ?_
          refine ev_get i_Md_recurrenceCoefficient_57 o4 rfl ?_
          refine ev_iload_n i_Md_recurrenceCoefficient_60 rfl ?_
          refine ev_ialdN i_Md_recurrenceCoefficient_61 g4 (by omega) (by decide) ?_
          rw [hkk]
          exact ev_iret i_Md_recurrenceCoefficient_62 rfl (by first | rfl | decide)
        · skip
          exfalso; omega
      · skip
        exfalso; omega
    · skip
      exfalso; omega
  · skip
    exfalso; omega
theorem m_recCo_3 {scr : Scr} {l : Launch} {S : Sto} {σ : Sg} {th : Nat} {t : Nat} {q : Int32} (h : MInv th σ S) (ht : t < 3) (hf : fitT (σ.2.1.1 t)) (hq : ¬ (¬ q < nI 1 ∧ q ≤ nI (recO (σ.2.1.1 t) σ.2.1.2.1))) : MRun scr l 4 M_Md_recurrenceCoefficient [.ref 105, .int (nI t), .int q] S (some (.int (nI 0))) 3 σ := by
  obtain ⟨dr, mo, sc, h0⟩ := h.get
  obtain ⟨S3, m3, F3, ⟨⟨p1, a1⟩, ⟨p2, a2⟩, ⟨p3, a3⟩, ⟨p4, a4⟩⟩, G, g3, c3⟩ := m_orderOf (scr := scr) (l := l) h ht
  have h3 := F3.at h0 (show 105 ∉ [117, 118, 122, 123, 124] by decide)
  have o4 : (S3.put 105 (mO 3 σ dr mo sc)).1[105]? = _ := put_self h3
  have g4 : (S3.put 105 (mO 3 σ dr mo sc)).1[124]? = _ := put_at g3 (by decide)
  have F4 : Fr [105, 117, 118, 122, 123, 124] S (S3.put 105 (mO 3 σ dr mo sc)) := (F3.mono (by simp)).tr (Fr.put _ _ (by simp))
  have i4 : MInv 3 σ (S3.put 105 (mO 3 σ dr mo sc)) := h.scr F4 (by simp) ⟨dr, mo, sc, o4⟩ (h.2.2.2.2.2.up F4 (Or.inl (by decide)) (Or.inr ⟨_, put_at a1 (by decide)⟩) (Or.inr ⟨_, put_at a2 (by decide)⟩) (Or.inl (by decide)) (Or.inl (by decide)) (Or.inl (by decide)) (Or.inr ⟨_, put_at a3 (by decide)⟩) (Or.inr ⟨_, put_at a4 (by decide)⟩) (Or.inr ⟨_, g4⟩) (Or.inl (by decide)) (Or.inl (by decide)) (Or.inl (by decide)) (Or.inl (by decide)) (Or.inl (by decide)) (Or.inl (by decide)))
  refine ⟨(S3.put 105 (mO 3 σ dr mo sc)), fun d => ?_, i4, F4.m (by decide)⟩
  refine MetA.of rfl (by decide +kernel) (Nat.le_of_ble_eq_true rfl) ?_
  refine ev_aload_n i_Md_recurrenceCoefficient_0 rfl ?_
  refine ev_iload_n i_Md_recurrenceCoefficient_1 rfl ?_
  refine ev_callS1 i_Md_recurrenceCoefficient_2 rfl (Nat.le_of_ble_eq_true rfl) (m_isTable.1 (inR.of (by decide) ht)) ?_
  refine ev_if_neN i_Md_recurrenceCoefficient_5 (by omega) (fun hc_5 => ?_) (fun hc_5 => ?_)
  · skip
    refine ev_aload_n i_Md_recurrenceCoefficient_12 rfl ?_
    refine ev_iload_n i_Md_recurrenceCoefficient_13 rfl ?_
    refine ev_callV1 i_Md_recurrenceCoefficient_14 rfl h0 (Nat.le_of_ble_eq_true rfl) ((m_unfit h ht).1 hf) ?_
    refine ev_if_leN i_Md_recurrenceCoefficient_17 (by omega) (fun hc_17 => ?_) (fun hc_17 => ?_)
    · skip
      refine ev_iload_n i_Md_recurrenceCoefficient_24 rfl ?_
      refine ev_iconstN (v := 1) i_Md_recurrenceCoefficient_25 (by decide) ?_
      refine ev_aload_n i_Md_recurrenceCoefficient_26 rfl ?_
      refine ev_iload_n i_Md_recurrenceCoefficient_27 rfl ?_
      refine ev_callV1 i_Md_recurrenceCoefficient_28 rfl h0 (Nat.le_of_ble_eq_true rfl) (m3 _) ?_
      refine ev_callS3 i_Md_recurrenceCoefficient_31 rfl (Nat.le_of_ble_eq_true rfl) (m_in.2 (fun z => hq ⟨z.1, Int32.not_lt.mp z.2⟩)) ?_
      refine ev_if_neN i_Md_recurrenceCoefficient_34 (by omega) (fun hc_34 => ?_) (fun hc_34 => ?_)
      · skip
        exfalso; omega
      · skip
        refine ev_iconstN (v := 3) i_Md_recurrenceCoefficient_37 (by decide) ?_
        refine ev_goto i_Md_recurrenceCoefficient_38 ?_
        refine ev_mput_thrown i_Md_recurrenceCoefficient_42 h3 ?_
        refine ev_aload_n i_Md_recurrenceCoefficient_45 rfl ?_
        refine ev_get i_Md_recurrenceCoefficient_46 o4 rfl ?_
        refine ev_if_leN i_Md_recurrenceCoefficient_49 (by omega) (fun hc_49 => ?_) (fun hc_49 => ?_)
        · skip
          exfalso; omega
        · skip
          refine ev_iconstN (v := 0) i_Md_recurrenceCoefficient_52 (by decide) ?_
          refine ev_goto i_Md_recurrenceCoefficient_53 ?_
          exact ev_iret i_Md_recurrenceCoefficient_62 rfl (by first | rfl | decide)
    · skip
      exfalso; omega
  · skip
    exfalso; omega

/-! the model m: its face, words and steps -/
theorem m_setWord_1 {scr : Scr} {l : Launch} {S : Sto} {σ : Sg} {th : Nat} (h : MInv th σ S) (hw : ¬ isW σ.1) : MRun scr l 2 M_Md_setWord [.ref 105] S (some (.int (nI 0))) 1 σ := by
  refine MRun.th h (fun dr mo sc h0 d => ?_)
  have o1 : (S.put 105 (mO 1 σ dr mo sc)).1[105]? = _ := put_self h0
  refine MetA.of rfl (by decide +kernel) (Nat.le_of_ble_eq_true rfl) ?_
  refine ev_aload_n i_Md_setWord_0 rfl ?_
  refine ev_aload_n i_Md_setWord_1 rfl ?_
  refine ev_bipushN (v := 60) i_Md_setWord_2 (by decide) ?_
  refine ev_callV1 i_Md_setWord_4 rfl h0 (Nat.le_of_ble_eq_true rfl) ((m_isWord h (by omega)).2 (fun z => hw z.1)) ?_
  refine ev_if_eqN i_Md_setWord_7 (by omega) (fun hc_7 => ?_) (fun hc_7 => ?_)
  · skip
    refine ev_iconstN (v := 1) i_Md_setWord_14 (by decide) ?_
    refine ev_mput_thrown i_Md_setWord_15 h0 ?_
    refine ev_aload_n i_Md_setWord_18 rfl ?_
    refine ev_get i_Md_setWord_19 o1 rfl ?_
    refine ev_if_leN i_Md_setWord_22 (by omega) (fun hc_22 => ?_) (fun hc_22 => ?_)
    · skip
      exfalso; omega
    · skip
      refine ev_iconstN (v := 0) i_Md_setWord_25 (by decide) ?_
      exact ev_iret i_Md_setWord_26 rfl (by first | rfl | decide)
  · skip
    exfalso; omega
theorem m_setTarget_1 {scr : Scr} {l : Launch} {S : Sto} {σ : Sg} {th : Nat} (h : MInv th σ S) (hw : ¬ isW σ.1) : MRun scr l 2 M_Md_setTarget [.ref 105] S (some (.int (nI 0))) 1 σ := by
  refine MRun.th h (fun dr mo sc h0 d => ?_)
  have o1 : (S.put 105 (mO 1 σ dr mo sc)).1[105]? = _ := put_self h0
  refine MetA.of rfl (by decide +kernel) (Nat.le_of_ble_eq_true rfl) ?_
  refine ev_aload_n i_Md_setTarget_0 rfl ?_
  refine ev_aload_n i_Md_setTarget_1 rfl ?_
  refine ev_bipushN (v := 60) i_Md_setTarget_2 (by decide) ?_
  refine ev_callV1 i_Md_setTarget_4 rfl h0 (Nat.le_of_ble_eq_true rfl) ((m_isWord h (by omega)).2 (fun z => hw z.1)) ?_
  refine ev_if_eqN i_Md_setTarget_7 (by omega) (fun hc_7 => ?_) (fun hc_7 => ?_)
  · skip
    refine ev_iconstN (v := 1) i_Md_setTarget_14 (by decide) ?_
    refine ev_mput_thrown i_Md_setTarget_15 h0 ?_
    refine ev_aload_n i_Md_setTarget_18 rfl ?_
    refine ev_get i_Md_setTarget_19 o1 rfl ?_
    refine ev_if_leN i_Md_setTarget_22 (by omega) (fun hc_22 => ?_) (fun hc_22 => ?_)
    · skip
      exfalso; omega
    · skip
      refine ev_iconstN (v := 0) i_Md_setTarget_25 (by decide) ?_
      exact ev_iret i_Md_setTarget_26 rfl (by first | rfl | decide)
  · skip
    exfalso; omega
theorem RowW.put {g : Nat → Int32} {cs : List Nat} (h60 : cs.length ≤ 60) (hw : isW cs) : RowW (putw g 0 (wOf cs) (wOf cs).length) 0 (wOf cs) := by
  refine ⟨putw_hd, by rw [wOf_len]; exact h60, fun j hj => ⟨putw_in hj, ?_⟩⟩
  have hj2 : j < cs.length := by rw [wOf_len] at hj; exact hj
  rw [wOf_get hj2]
  have := hw j hj2
  omega
theorem m_setWord {scr : Scr} {l : Launch} {S : Sto} {σ : Sg} {th : Nat} (h : MInv th σ S) (hw : isW σ.1) : MRun scr l 2 M_Md_setWord [.ref 105] S (some (.int (nI σ.1.length))) 0 (σ.1, setCur σ.2.1 (wOf σ.1), σ.2.2.1, σ.2.2.2.1, [], σ.2.2.2.2.2) := by
  obtain ⟨dr, mo, sc, h0⟩ := h.get
  obtain ⟨h60, gt, g1, g2⟩ := h.2.1
  obtain ⟨l1, ⟨gw0, w1, w2⟩, ⟨gt0, t1, t2⟩, l4⟩ := h.2.2.1
  have gw : ∀ j, j < σ.1.length → gt j = nI (σ.1.getD j 0) ∧ 97 ≤ σ.1.getD j 0 ∧ σ.1.getD j 0 < 103 := fun j hj => ⟨(g2 j hj).1, hw j hj⟩
  have hxl : (wOf σ.1).length = σ.1.length := wOf_len _
  have o1 : (S.put 105 (mO 0 σ dr mo sc)).1[105]? = _ := put_self h0
  have q1 : (S.put 105 (mO 0 σ dr mo sc)).1[110]? = _ := put_at g1 (by decide)
  have p1 : (S.put 105 (mO 0 σ dr mo sc)).1[107]? = _ := put_at w1 (by decide)
  have oa : ((S.put 105 (mO 0 σ dr mo sc)).put 107 (aI 61 (putw gw0 0 (wOf σ.1) (wOf σ.1).length))).1[105]? = _ := put_at o1 (by decide)
  have hF : Fr [105, 107] S (((S.put 105 (mO 0 σ dr mo sc)).put 107 (aI 61 (putw gw0 0 (wOf σ.1) (wOf σ.1).length))).put 105 (mO 0 (σ.1, setCur σ.2.1 (wOf σ.1), σ.2.2.1, σ.2.2.2.1, [], σ.2.2.2.2.2) dr mo sc)) := ((Fr.put _ _ (by simp)).tr (Fr.put _ _ (by simp))).tr (Fr.put _ _ (by simp))
  refine ⟨(((S.put 105 (mO 0 σ dr mo sc)).put 107 (aI 61 (putw gw0 0 (wOf σ.1) (wOf σ.1).length))).put 105 (mO 0 (σ.1, setCur σ.2.1 (wOf σ.1), σ.2.2.1, σ.2.2.2.1, [], σ.2.2.2.2.2) dr mo sc)), fun d => ?_, ⟨⟨dr, mo, sc, put_self oa⟩, h.2.1.fr hF (by decide), ⟨⟨l1.choose, hF.at l1.choose_spec.1 (by decide), l1.choose_spec.2⟩, ⟨_, put_at (put_self p1) (by decide), RowW.put h60 hw⟩, ⟨gt0, hF.at t1 (by decide), t2⟩, l4.choose, hF.at l4.choose_spec.1 (by decide), l4.choose_spec.2⟩, h.2.2.2.1.fr hF ⟨by decide, by decide, by decide, by decide⟩, ⟨by show 0 ≤ 8; omega, h.2.2.2.2.1.2.choose, hF.at h.2.2.2.2.1.2.choose_spec.1 (by decide), fun k hk => absurd hk (by show ¬ k < 0; omega)⟩, h.2.2.2.2.2.fr hF (fun k a b => by simp; omega)⟩, hF.m (by decide)⟩
  refine MetA.of rfl (by decide +kernel) (Nat.le_of_ble_eq_true rfl) ?_
  refine ev_aload_n i_Md_setWord_0 rfl ?_
  refine ev_aload_n i_Md_setWord_1 rfl ?_
  refine ev_bipushN (v := 60) i_Md_setWord_2 (by decide) ?_
  refine ev_callV1 i_Md_setWord_4 rfl h0 (Nat.le_of_ble_eq_true rfl) ((m_isWord h (by omega)).1 ⟨hw, by omega⟩) ?_
  refine ev_if_eqN i_Md_setWord_7 (by omega) (fun hc_7 => ?_) (fun hc_7 => ?_)
  · skip
    exfalso; omega
  · skip
    refine ev_iconstN (v := 0) i_Md_setWord_10 (by decide) ?_
    refine ev_goto i_Md_setWord_11 ?_
    refine ev_mput_thrown i_Md_setWord_15 h0 ?_
    refine ev_aload_n i_Md_setWord_18 rfl ?_
    refine ev_get i_Md_setWord_19 o1 rfl ?_
    refine ev_if_leN i_Md_setWord_22 (by omega) (fun hc_22 => ?_) (fun hc_22 => ?_)
    · skip
      refine ev_aload_n i_Md_setWord_27 rfl ?_
      refine ev_aload_n i_Md_setWord_28 rfl ?_
      refine ev_get i_Md_setWord_29 o1 rfl ?_
      refine ev_iconstN (v := 0) i_Md_setWord_32 (by decide) ?_
      refine ev_callV2 i_Md_setWord_33 rfl o1 (Nat.le_of_ble_eq_true rfl) (m_putWord o1 q1 h60 gw p1 (by decide) (by omega) (by decide)) ?_
      refine ev_aload_n i_Md_setWord_36 rfl ?_
      refine ev_iconstN (v := 0) i_Md_setWord_37 (by decide) ?_
      refine ev_mput_steps i_Md_setWord_38 oa ?_
      refine ev_aload_n i_Md_setWord_41 rfl ?_
      refine ev_get i_Md_setWord_42 (put_self oa) rfl ?_
      exact ev_iret i_Md_setWord_45 rfl (by first | rfl | decide)
    · skip
      exfalso; omega
theorem m_setTarget {scr : Scr} {l : Launch} {S : Sto} {σ : Sg} {th : Nat} (h : MInv th σ S) (hw : isW σ.1) : MRun scr l 2 M_Md_setTarget [.ref 105] S (some (.int (nI σ.1.length))) 0 (σ.1, setTgt σ.2.1 (wOf σ.1), σ.2.2) := by
  obtain ⟨dr, mo, sc, h0⟩ := h.get
  obtain ⟨h60, gt, g1, g2⟩ := h.2.1
  obtain ⟨l1, ⟨gw0, w1, w2⟩, ⟨gt0, t1, t2⟩, l4⟩ := h.2.2.1
  have gw : ∀ j, j < σ.1.length → gt j = nI (σ.1.getD j 0) ∧ 97 ≤ σ.1.getD j 0 ∧ σ.1.getD j 0 < 103 := fun j hj => ⟨(g2 j hj).1, hw j hj⟩
  have hxl : (wOf σ.1).length = σ.1.length := wOf_len _
  have o1 : (S.put 105 (mO 0 σ dr mo sc)).1[105]? = _ := put_self h0
  have q1 : (S.put 105 (mO 0 σ dr mo sc)).1[110]? = _ := put_at g1 (by decide)
  have p1 : (S.put 105 (mO 0 σ dr mo sc)).1[108]? = _ := put_at t1 (by decide)
  have oa : ((S.put 105 (mO 0 σ dr mo sc)).put 108 (aI 61 (putw gt0 0 (wOf σ.1) (wOf σ.1).length))).1[105]? = _ := put_at o1 (by decide)
  have hF : Fr [105, 108] S ((S.put 105 (mO 0 σ dr mo sc)).put 108 (aI 61 (putw gt0 0 (wOf σ.1) (wOf σ.1).length))) := ((Fr.put _ _ (by simp)).tr (Fr.put _ _ (by simp)))
  refine ⟨((S.put 105 (mO 0 σ dr mo sc)).put 108 (aI 61 (putw gt0 0 (wOf σ.1) (wOf σ.1).length))), fun d => ?_, ⟨⟨dr, mo, sc, oa⟩, h.2.1.fr hF (by decide), ⟨⟨l1.choose, hF.at l1.choose_spec.1 (by decide), l1.choose_spec.2⟩, ⟨gw0, hF.at w1 (by decide), w2⟩, ⟨_, put_self p1, RowW.put h60 hw⟩, l4.choose, hF.at l4.choose_spec.1 (by decide), l4.choose_spec.2⟩, h.2.2.2.1.fr hF ⟨by decide, by decide, by decide, by decide⟩, h.2.2.2.2.1.fr hF (by decide), h.2.2.2.2.2.fr hF (fun k a b => by simp; omega)⟩, hF.m (by decide)⟩
  refine MetA.of rfl (by decide +kernel) (Nat.le_of_ble_eq_true rfl) ?_
  refine ev_aload_n i_Md_setTarget_0 rfl ?_
  refine ev_aload_n i_Md_setTarget_1 rfl ?_
  refine ev_bipushN (v := 60) i_Md_setTarget_2 (by decide) ?_
  refine ev_callV1 i_Md_setTarget_4 rfl h0 (Nat.le_of_ble_eq_true rfl) ((m_isWord h (by omega)).1 ⟨hw, by omega⟩) ?_
  refine ev_if_eqN i_Md_setTarget_7 (by omega) (fun hc_7 => ?_) (fun hc_7 => ?_)
  · skip
    exfalso; omega
  · skip
    refine ev_iconstN (v := 0) i_Md_setTarget_10 (by decide) ?_
    refine ev_goto i_Md_setTarget_11 ?_
    refine ev_mput_thrown i_Md_setTarget_15 h0 ?_
    refine ev_aload_n i_Md_setTarget_18 rfl ?_
    refine ev_get i_Md_setTarget_19 o1 rfl ?_
    refine ev_if_leN i_Md_setTarget_22 (by omega) (fun hc_22 => ?_) (fun hc_22 => ?_)
    · skip
      refine ev_aload_n i_Md_setTarget_27 rfl ?_
      refine ev_aload_n i_Md_setTarget_28 rfl ?_
      refine ev_get i_Md_setTarget_29 o1 rfl ?_
      refine ev_iconstN (v := 0) i_Md_setTarget_32 (by decide) ?_
      refine ev_callV2 i_Md_setTarget_33 rfl o1 (Nat.le_of_ble_eq_true rfl) (m_putWord o1 q1 h60 gw p1 (by decide) (by omega) (by decide)) ?_
      refine ev_aload_n i_Md_setTarget_36 rfl ?_
      refine ev_get i_Md_setTarget_37 oa rfl ?_
      exact ev_iret i_Md_setTarget_40 rfl (by first | rfl | decide)
    · skip
      exfalso; omega
theorem m_wordLength {scr : Scr} {l : Launch} {S : Sto} {σ : Sg} {th : Nat} (h : MInv th σ S) : MRun scr l 0 M_Md_wordLength [.ref 105] S (some (.int (nI σ.2.1.2.1.length))) 0 σ := by
  obtain ⟨l1, ⟨gw0, w1, w2⟩, l3⟩ := h.2.2.1
  refine MRun.th h (fun dr mo sc h0 d => ?_)
  have o1 : (S.put 105 (mO 0 σ dr mo sc)).1[105]? = _ := put_self h0
  refine MetA.of rfl (by decide +kernel) (Nat.le_of_ble_eq_true rfl) ?_
  refine ev_aload_n i_Md_wordLength_0 rfl ?_
  refine ev_iconstN (v := 0) i_Md_wordLength_1 (by decide) ?_
  refine ev_mput_thrown i_Md_wordLength_2 h0 ?_
  refine ev_aload_n i_Md_wordLength_5 rfl ?_
  refine ev_get i_Md_wordLength_6 o1 rfl ?_
  refine ev_iconstN (v := 0) i_Md_wordLength_9 (by decide) ?_
  refine ev_ialdN i_Md_wordLength_10 (put_at w1 (by decide)) (by decide) (by decide) ?_
  rw [w2.1]
  exact ev_iret i_Md_wordLength_11 rfl (by first | rfl | decide)
theorem m_wordLetter {scr : Scr} {l : Launch} {S : Sto} {σ : Sg} {th : Nat} {i : Nat} (h : MInv th σ S) (hi : i < σ.2.1.2.1.length) : MRun scr l 1 M_Md_wordLetter [.ref 105, .int (nI i)] S (some (.int (nI (σ.2.1.2.1.getD i 0)))) 0 σ := by
  obtain ⟨l1, ⟨gw0, w1, w2⟩, l3⟩ := h.2.2.1
  have h60 := w2.2.1
  refine MRun.th h (fun dr mo sc h0 d => ?_)
  have o1 : (S.put 105 (mO 0 σ dr mo sc)).1[105]? = _ := put_self h0
  refine MetA.of rfl (by decide +kernel) (Nat.le_of_ble_eq_true rfl) ?_
  refine ev_aload_n i_Md_wordLetter_0 rfl ?_
  refine ev_iload_n i_Md_wordLetter_1 rfl ?_
  refine ev_iconstN (v := 0) i_Md_wordLetter_2 (by decide) ?_
  refine ev_aload_n i_Md_wordLetter_3 rfl ?_
  refine ev_get i_Md_wordLetter_4 h0 rfl ?_
  refine ev_iconstN (v := 0) i_Md_wordLetter_7 (by decide) ?_
  refine ev_ialdN i_Md_wordLetter_8 w1 (by decide) (by decide) ?_
  rw [w2.1]
  refine ev_iconstN (v := 1) i_Md_wordLetter_9 (by decide) ?_
  first | refine ev_isubN i_Md_wordLetter_10 (by omega) ?_ | refine ev_isub i_Md_wordLetter_10 ?_
  refine ev_callS3 i_Md_wordLetter_11 rfl (Nat.le_of_ble_eq_true rfl) (m_in.1 ((inR_inB (by omega) (by omega)).mp (inR.of (by omega) hi))) ?_
  refine ev_if_eqN i_Md_wordLetter_14 (by omega) (fun hc_14 => ?_) (fun hc_14 => ?_)
  · skip
    exfalso; omega
  · skip
    refine ev_iconstN (v := 0) i_Md_wordLetter_17 (by decide) ?_
    refine ev_goto i_Md_wordLetter_18 ?_
    refine ev_mput_thrown i_Md_wordLetter_22 h0 ?_
    refine ev_aload_n i_Md_wordLetter_25 rfl ?_
    refine ev_get i_Md_wordLetter_26 o1 rfl ?_
    refine ev_if_leN i_Md_wordLetter_29 (by omega) (fun hc_29 => ?_) (fun hc_29 => ?_)
    · skip
      refine ev_aload_n i_Md_wordLetter_36 rfl ?_
      refine ev_get i_Md_wordLetter_37 o1 rfl ?_
      refine ev_iconstN (v := 1) i_Md_wordLetter_40 (by decide) ?_
      refine ev_iload_n i_Md_wordLetter_41 rfl ?_
      first | refine ev_iaddN i_Md_wordLetter_42 ?_ | refine ev_iadd i_Md_wordLetter_42 ?_
      refine ev_ialdN i_Md_wordLetter_43 (put_at w1 (by decide)) (by omega) (by decide) ?_
      rw [show 1 + i = 0 + 1 + i from by omega, (w2.2.2 i hi).1]
      exact ev_iret i_Md_wordLetter_44 rfl (by first | rfl | decide)
    · skip
      exfalso; omega
theorem m_wordLetter_1 {scr : Scr} {l : Launch} {S : Sto} {σ : Sg} {th : Nat} {x : Int32} (h : MInv th σ S) (hp : ¬ inR σ.2.1.2.1.length x) : MRun scr l 1 M_Md_wordLetter [.ref 105, .int x] S (some (.int (nI 0))) 1 σ := by
  obtain ⟨l1, ⟨gw0, w1, w2⟩, l3⟩ := h.2.2.1
  have h60 := w2.2.1
  refine MRun.th h (fun dr mo sc h0 d => ?_)
  have o1 : (S.put 105 (mO 1 σ dr mo sc)).1[105]? = _ := put_self h0
  by_cases hz : σ.2.1.2.1.length = 0
  · refine MetA.of rfl (by decide +kernel) (Nat.le_of_ble_eq_true rfl) ?_
    refine ev_aload_n i_Md_wordLetter_0 rfl ?_
    refine ev_iload_n i_Md_wordLetter_1 rfl ?_
    refine ev_iconstN (v := 0) i_Md_wordLetter_2 (by decide) ?_
    refine ev_aload_n i_Md_wordLetter_3 rfl ?_
    refine ev_get i_Md_wordLetter_4 h0 rfl ?_
    refine ev_iconstN (v := 0) i_Md_wordLetter_7 (by decide) ?_
    refine ev_ialdN i_Md_wordLetter_8 w1 (by decide) (by decide) ?_
    rw [w2.1]
    refine ev_iconstN (v := 1) i_Md_wordLetter_9 (by decide) ?_
    refine ev_isub i_Md_wordLetter_10 ?_
    refine ev_callS3 i_Md_wordLetter_11 rfl (Nat.le_of_ble_eq_true rfl) (m_in.2 (fun z => z.2 (by rw [hz]; have h1 := z.1; rw [Int32.lt_iff_toInt_lt] at h1 ⊢; rw [nI_toInt (by omega)] at h1; show (-1 : Int) < _; omega))) ?_
    refine ev_if_eqN i_Md_wordLetter_14 (by omega) (fun hc_14 => ?_) (fun hc_14 => ?_)
    · skip
      refine ev_iconstN (v := 1) i_Md_wordLetter_21 (by decide) ?_
      refine ev_mput_thrown i_Md_wordLetter_22 h0 ?_
      refine ev_aload_n i_Md_wordLetter_25 rfl ?_
      refine ev_get i_Md_wordLetter_26 o1 rfl ?_
      refine ev_if_leN i_Md_wordLetter_29 (by omega) (fun hc_29 => ?_) (fun hc_29 => ?_)
      · skip
        exfalso; omega
      · skip
        refine ev_iconstN (v := 0) i_Md_wordLetter_32 (by decide) ?_
        refine ev_goto i_Md_wordLetter_33 ?_
        exact ev_iret i_Md_wordLetter_44 rfl (by first | rfl | decide)
    · skip
      exfalso; omega
  · refine MetA.of rfl (by decide +kernel) (Nat.le_of_ble_eq_true rfl) ?_
    refine ev_aload_n i_Md_wordLetter_0 rfl ?_
    refine ev_iload_n i_Md_wordLetter_1 rfl ?_
    refine ev_iconstN (v := 0) i_Md_wordLetter_2 (by decide) ?_
    refine ev_aload_n i_Md_wordLetter_3 rfl ?_
    refine ev_get i_Md_wordLetter_4 h0 rfl ?_
    refine ev_iconstN (v := 0) i_Md_wordLetter_7 (by decide) ?_
    refine ev_ialdN i_Md_wordLetter_8 w1 (by decide) (by decide) ?_
    rw [w2.1]
    refine ev_iconstN (v := 1) i_Md_wordLetter_9 (by decide) ?_
    first | refine ev_isubN i_Md_wordLetter_10 (by omega) ?_ | refine ev_isub i_Md_wordLetter_10 ?_
    refine ev_callS3 i_Md_wordLetter_11 rfl (Nat.le_of_ble_eq_true rfl) (m_in.2 (fun z => hp ((inR_inB (by omega) (by omega)).mpr z))) ?_
    refine ev_if_eqN i_Md_wordLetter_14 (by omega) (fun hc_14 => ?_) (fun hc_14 => ?_)
    · skip
      refine ev_iconstN (v := 1) i_Md_wordLetter_21 (by decide) ?_
      refine ev_mput_thrown i_Md_wordLetter_22 h0 ?_
      refine ev_aload_n i_Md_wordLetter_25 rfl ?_
      refine ev_get i_Md_wordLetter_26 o1 rfl ?_
      refine ev_if_leN i_Md_wordLetter_29 (by omega) (fun hc_29 => ?_) (fun hc_29 => ?_)
      · skip
        exfalso; omega
      · skip
        refine ev_iconstN (v := 0) i_Md_wordLetter_32 (by decide) ?_
        refine ev_goto i_Md_wordLetter_33 ?_
        exact ev_iret i_Md_wordLetter_44 rfl (by first | rfl | decide)
    · skip
      exfalso; omega
theorem lp_same0 {scr : Scr} {l : Launch} {S : Sto} {a b d : Nat} {f g : Nat → Int32} {xs ys : List Nat} (ha : S.1[a]? = some (aI 61 f)) (hb : S.1[b]? = some (aI 61 g)) (hx : RowW f 0 xs) (hy : RowW g 0 ys) {i : Nat} (hi : i ≤ 61) : Ev scr l d M_Md_same 17 [some (.ref a), some (.ref b), some (.int (nI 0)), some (.int (nI i))] [] S (.inl (some (.int (nI 0))), S) := by
  have h60 := hx.2.1
  refine ev_iload_n i_Md_same_17 rfl ?_
  refine ev_aload_n i_Md_same_18 rfl ?_
  refine ev_iconstN (v := 0) i_Md_same_19 (by decide) ?_
  refine ev_ialdN i_Md_same_20 ha (by decide) (by decide) ?_
  rw [hx.1]
  refine ev_icmp_gtN i_Md_same_21 (by omega) (by omega) (fun hc_21 => ?_) (fun hc_21 => ?_)
  · skip
    refine ev_iload_n i_Md_same_49 rfl ?_
    exact ev_iret i_Md_same_50 rfl (by first | rfl | decide)
  · skip
    refine ev_iload_n i_Md_same_24 rfl ?_
    refine ev_if_eqN i_Md_same_25 (by omega) (fun hc_25 => ?_) (fun hc_25 => ?_)
    · skip
      refine ev_iload_n i_Md_same_49 rfl ?_
      exact ev_iret i_Md_same_50 rfl (by first | rfl | decide)
    · skip
      exfalso; omega
theorem lp_same {scr : Scr} {l : Launch} {S : Sto} {a b d : Nat} {f g : Nat → Int32} {xs ys : List Nat} (ha : S.1[a]? = some (aI 61 f)) (hb : S.1[b]? = some (aI 61 g)) (hx : RowW f 0 xs) (hy : RowW g 0 ys) {v : Nat} (hl : xs.length = ys.length) (hv1 : xs = ys → v = 1) (hv0 : xs ≠ ys → v = 0) : ∀ (k i : Nat), i + k = xs.length + 1 → 1 ≤ i → (∀ j, j < i - 1 → xs.getD j 0 = ys.getD j 0) → Ev scr l d M_Md_same 17 [some (.ref a), some (.ref b), some (.int (nI 1)), some (.int (nI i))] [] S (.inl (some (.int (nI v))), S) := by
  have h60 := hx.2.1
  intro k
  induction k with
  | zero =>
    intro i hi h1 hall
    have hv : v = 1 := hv1 (list_ext hl (fun j hj => hall j (by omega)))
    rw [hv]
    refine ev_iload_n i_Md_same_17 rfl ?_
    refine ev_aload_n i_Md_same_18 rfl ?_
    refine ev_iconstN (v := 0) i_Md_same_19 (by decide) ?_
    refine ev_ialdN i_Md_same_20 ha (by decide) (by decide) ?_
    rw [hx.1]
    refine ev_icmp_gtN i_Md_same_21 (by omega) (by omega) (fun hc_21 => ?_) (fun hc_21 => ?_)
    · skip
      refine ev_iload_n i_Md_same_49 rfl ?_
      exact ev_iret i_Md_same_50 rfl (by first | rfl | decide)
    · skip
      exfalso; omega
  | succ k ih =>
    intro i hi h1 hall
    obtain ⟨ex, lx⟩ := hx.2.2 (i - 1) (by omega)
    obtain ⟨ey, ly⟩ := hy.2.2 (i - 1) (by omega)
    rw [show 0 + 1 + (i - 1) = i from by omega] at ex ey
    refine ev_iload_n i_Md_same_17 rfl ?_
    refine ev_aload_n i_Md_same_18 rfl ?_
    refine ev_iconstN (v := 0) i_Md_same_19 (by decide) ?_
    refine ev_ialdN i_Md_same_20 ha (by decide) (by decide) ?_
    rw [hx.1]
    refine ev_icmp_gtN i_Md_same_21 (by omega) (by omega) (fun hc_21 => ?_) (fun hc_21 => ?_)
    · skip
      exfalso; omega
    · skip
      refine ev_iload_n i_Md_same_24 rfl ?_
      refine ev_if_eqN i_Md_same_25 (by omega) (fun hc_25 => ?_) (fun hc_25 => ?_)
      · skip
        exfalso; omega
      · skip
        refine ev_aload_n i_Md_same_28 rfl ?_
        refine ev_iload_n i_Md_same_29 rfl ?_
        refine ev_ialdN i_Md_same_30 ha (by omega) (by decide) ?_
        rw [ex]
        refine ev_aload_n i_Md_same_31 rfl ?_
        refine ev_iload_n i_Md_same_32 rfl ?_
        refine ev_ialdN i_Md_same_33 hb (by omega) (by decide) ?_
        rw [ey]
        refine ev_icmp_neN i_Md_same_34 (by omega) (by omega) (fun hc_34 => ?_) (fun hc_34 => ?_)
        · skip
          refine ev_iconstN (v := 0) i_Md_same_41 (by decide) ?_
          refine ev_ist_n_2 i_Md_same_42 rfl ?_
          refine ev_iincN_3 (c := 1) i_Md_same_43 (by decide) rfl ?_
          refine ev_goto i_Md_same_46 ?_
          have hv : v = 0 := hv0 (fun q => hc_34 (by rw [q]))
          rw [hv]
          exact lp_same0 ha hb hx hy (by omega)
        · skip
          refine ev_iconstN (v := 1) i_Md_same_37 (by decide) ?_
          refine ev_goto i_Md_same_38 ?_
          refine ev_ist_n_2 i_Md_same_42 rfl ?_
          refine ev_iincN_3 (c := 1) i_Md_same_43 (by decide) rfl ?_
          refine ev_goto i_Md_same_46 ?_
          refine ih (i + 1) (by omega) (by omega) (fun j hj => ?_)
          by_cases zj : j = i - 1
          · rw [zj]; exact hc_34
          · exact hall j (by omega)
theorem m_samev {scr : Scr} {l : Launch} {S : Sto} {a b d : Nat} {f g : Nat → Int32} {xs ys : List Nat} (ha : S.1[a]? = some (aI 61 f)) (hb : S.1[b]? = some (aI 61 g)) (hx : RowW f 0 xs) (hy : RowW g 0 ys) {v : Nat} (hv1 : xs = ys → v = 1) (hv0 : xs ≠ ys → v = 0) : MetA scr l d M_Md_same [.ref a, .ref b] S (.inl (some (.int (nI v))), S) := by
  have h60 := hx.2.1
  have h61 := hy.2.1
  refine MetA.of rfl (by decide +kernel) (Nat.le_of_ble_eq_true rfl) ?_
  refine ev_aload_n i_Md_same_0 rfl ?_
  refine ev_iconstN (v := 0) i_Md_same_1 (by decide) ?_
  refine ev_ialdN i_Md_same_2 ha (by decide) (by decide) ?_
  rw [hx.1]
  refine ev_aload_n i_Md_same_3 rfl ?_
  refine ev_iconstN (v := 0) i_Md_same_4 (by decide) ?_
  refine ev_ialdN i_Md_same_5 hb (by decide) (by decide) ?_
  rw [hy.1]
  refine ev_icmp_neN i_Md_same_6 (by omega) (by omega) (fun hc_6 => ?_) (fun hc_6 => ?_)
  · skip
    refine ev_iconstN (v := 0) i_Md_same_13 (by decide) ?_
    refine ev_ist_n_2 i_Md_same_14 rfl ?_
    refine ev_iconstN (v := 1) i_Md_same_15 (by decide) ?_
    refine ev_ist_n_3 i_Md_same_16 rfl ?_
    have hv : v = 0 := hv0 (fun q => hc_6 (by rw [q]))
    rw [hv]
    exact lp_same0 ha hb hx hy (by omega)
  · skip
    refine ev_iconstN (v := 1) i_Md_same_9 (by decide) ?_
    refine ev_goto i_Md_same_10 ?_
    refine ev_ist_n_2 i_Md_same_14 rfl ?_
    refine ev_iconstN (v := 1) i_Md_same_15 (by decide) ?_
    refine ev_ist_n_3 i_Md_same_16 rfl ?_
    exact lp_same ha hb hx hy hc_6 hv1 hv0 xs.length 1 (by omega) (by omega) (fun j hj => absurd hj (by omega))
theorem m_same {scr : Scr} {l : Launch} {S : Sto} {a b d : Nat} {f g : Nat → Int32} {xs ys : List Nat} (ha : S.1[a]? = some (aI 61 f)) (hb : S.1[b]? = some (aI 61 g)) (hx : RowW f 0 xs) (hy : RowW g 0 ys) : MetA scr l d M_Md_same [.ref a, .ref b] S (.inl (some (.int (nI (if xs = ys then 1 else 0)))), S) := by
  by_cases q : xs = ys
  · rw [if_pos q]; exact m_samev ha hb hx hy (fun _ => rfl) (fun z => absurd q z)
  · rw [if_neg q]; exact m_samev ha hb hx hy (fun z => absurd z q) (fun _ => rfl)
theorem m_isTarget {scr : Scr} {l : Launch} {S : Sto} {σ : Sg} {th : Nat} (h : MInv th σ S) : MRun scr l 1 M_Md_isTarget [.ref 105] S (some (.int (nI (if σ.2.1.2.1 = σ.2.1.2.2.1 then 1 else 0)))) 0 σ := by
  obtain ⟨l1, ⟨gw0, w1, w2⟩, ⟨gt0, t1, t2⟩, l4⟩ := h.2.2.1
  refine MRun.th h (fun dr mo sc h0 d => ?_)
  have o1 : (S.put 105 (mO 0 σ dr mo sc)).1[105]? = _ := put_self h0
  refine MetA.of rfl (by decide +kernel) (Nat.le_of_ble_eq_true rfl) ?_
  refine ev_aload_n i_Md_isTarget_0 rfl ?_
  refine ev_iconstN (v := 0) i_Md_isTarget_1 (by decide) ?_
  refine ev_mput_thrown i_Md_isTarget_2 h0 ?_
  refine ev_aload_n i_Md_isTarget_5 rfl ?_
  refine ev_get i_Md_isTarget_6 o1 rfl ?_
  refine ev_aload_n i_Md_isTarget_9 rfl ?_
  refine ev_get i_Md_isTarget_10 o1 rfl ?_
  refine ev_callS2 i_Md_isTarget_13 rfl (Nat.le_of_ble_eq_true rfl) (m_same (put_at w1 (by decide)) (put_at t1 (by decide)) w2 t2) ?_
  exact ev_iret i_Md_isTarget_16 rfl (by split <;> decide)

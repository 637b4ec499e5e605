/-! ParallelRewriting: rules, words, steps, save -/
theorem x_setRule {scr : Scr} {l : Launch} {S : Sto} {σ : Sg} {t p q : Nat} (h : XInv σ S) (ht : t < 3) (hp : p < 6) (hq : q < 6) (hw : isW σ.1) (hl : σ.1.length ≤ 4) (hc : ((σ.2.1.1 t).2 p q).isSome ∨ rcount (σ.2.1.1 t) < 6) : ∃ S1, (∀ d, MetA scr l (d + 3) M_Pr_setContextRule [.ref 0, .int (nI t), .int (nI p), .int (nI q)] S (.inl (some (.int (nI (if ((σ.2.1.1 t).2 p q).isSome then 1 else 0)))), S1)) ∧ XInv (σ.1, setTab σ.2.1 t (setRule (σ.2.1.1 t) p q (wOf σ.1)), σ.2.2) S1 ∧ Fr xK S S1 := by
  obtain ⟨h0, hT, hL, hSv, hH, hRs, hrest⟩ := id h
  obtain ⟨rc, tb, hrc⟩ := tab_obj (live_tab h ht)
  have h36 := rcount_le (σ.2.1.1 t)
  obtain ⟨S1, m1, t2, f1⟩ := t_setRule (scr := scr) (l := l) (live_tab h ht) hT hw hl hp hq (by simp; omega) (by simp; omega)
  refine ⟨S1, fun d => ?_, h.live f1 (tab_hk ht) (St_tab hL ht t2 f1), f1.x (fun k hk => by have := tab_hk ht k hk; omega)⟩
  by_cases hz : ((σ.2.1.1 t).2 p q).isSome
  · have hi : (if ((σ.2.1.1 t).2 p q).isSome then 1 else 0) = 1 := if_pos hz
    rw [hi]
    refine MetA.of rfl (by decide +kernel) (Nat.le_of_ble_eq_true rfl) ?_
    refine ev_aload_n i_Pr_setContextRule_0 rfl ?_
    refine ev_iload_n i_Pr_setContextRule_1 rfl ?_
    refine ev_callV1 i_Pr_setContextRule_2 rfl h0 (Nat.le_of_ble_eq_true rfl) (x_tableAt h ht) ?_
    refine ev_astore i_Pr_setContextRule_5 (Nat.le_of_ble_eq_true rfl) ?_
    refine ev_iload_n i_Pr_setContextRule_7 rfl ?_
    refine ev_callS1 i_Pr_setContextRule_8 rfl (Nat.le_of_ble_eq_true rfl) (x_checkLetter hp) ?_
    refine ev_iload_n i_Pr_setContextRule_11 rfl ?_
    refine ev_callS1 i_Pr_setContextRule_12 rfl (Nat.le_of_ble_eq_true rfl) (x_checkLetter hq) ?_
    refine ev_aload_n i_Pr_setContextRule_15 rfl ?_
    refine ev_iconstN (v := 4) i_Pr_setContextRule_16 (by decide) ?_
    refine ev_callV1 i_Pr_setContextRule_17 rfl h0 (Nat.le_of_ble_eq_true rfl) (x_checkWord h (by omega) hw hl) ?_
    refine ev_aload i_Pr_setContextRule_20 rfl ?_
    refine ev_iload_n i_Pr_setContextRule_22 rfl ?_
    refine ev_iload_n i_Pr_setContextRule_23 rfl ?_
    refine ev_callV2 i_Pr_setContextRule_24 rfl tb (Nat.le_of_ble_eq_true rfl) (t_hasRule (live_tab h ht) hp hq) ?_
    rw [hi]
    refine ev_istore i_Pr_setContextRule_27 (Nat.le_of_ble_eq_true rfl) ?_
    refine ev_iload i_Pr_setContextRule_29 rfl ?_
    refine ev_if_neN i_Pr_setContextRule_31 (by omega) (fun hc_31 => ?_) (fun hc_31 => ?_)
    · skip
      refine ev_aload i_Pr_setContextRule_54 rfl ?_
      refine ev_iload_n i_Pr_setContextRule_56 rfl ?_
      refine ev_iload_n i_Pr_setContextRule_57 rfl ?_
      refine ev_aload_n i_Pr_setContextRule_58 rfl ?_
      refine ev_get i_Pr_setContextRule_59 h0 rfl ?_
      refine ev_callV3 i_Pr_setContextRule_62 rfl tb (Nat.le_of_ble_eq_true rfl) (m1 _) ?_
      refine ev_iload i_Pr_setContextRule_65 rfl ?_
      exact ev_iret i_Pr_setContextRule_67 rfl (by first | rfl | decide)
    · skip
      exfalso; omega
  · have hi : (if ((σ.2.1.1 t).2 p q).isSome then 1 else 0) = 0 := if_neg hz
    have hc : rcount (σ.2.1.1 t) < 6 := by
      rcases hc with hc | hc
      · exact absurd hc hz
      · exact hc
    rw [hi]
    refine MetA.of rfl (by decide +kernel) (Nat.le_of_ble_eq_true rfl) ?_
    refine ev_aload_n i_Pr_setContextRule_0 rfl ?_
    refine ev_iload_n i_Pr_setContextRule_1 rfl ?_
    refine ev_callV1 i_Pr_setContextRule_2 rfl h0 (Nat.le_of_ble_eq_true rfl) (x_tableAt h ht) ?_
    refine ev_astore i_Pr_setContextRule_5 (Nat.le_of_ble_eq_true rfl) ?_
    refine ev_iload_n i_Pr_setContextRule_7 rfl ?_
    refine ev_callS1 i_Pr_setContextRule_8 rfl (Nat.le_of_ble_eq_true rfl) (x_checkLetter hp) ?_
    refine ev_iload_n i_Pr_setContextRule_11 rfl ?_
    refine ev_callS1 i_Pr_setContextRule_12 rfl (Nat.le_of_ble_eq_true rfl) (x_checkLetter hq) ?_
    refine ev_aload_n i_Pr_setContextRule_15 rfl ?_
    refine ev_iconstN (v := 4) i_Pr_setContextRule_16 (by decide) ?_
    refine ev_callV1 i_Pr_setContextRule_17 rfl h0 (Nat.le_of_ble_eq_true rfl) (x_checkWord h (by omega) hw hl) ?_
    refine ev_aload i_Pr_setContextRule_20 rfl ?_
    refine ev_iload_n i_Pr_setContextRule_22 rfl ?_
    refine ev_iload_n i_Pr_setContextRule_23 rfl ?_
    refine ev_callV2 i_Pr_setContextRule_24 rfl tb (Nat.le_of_ble_eq_true rfl) (t_hasRule (live_tab h ht) hp hq) ?_
    rw [hi]
    refine ev_istore i_Pr_setContextRule_27 (Nat.le_of_ble_eq_true rfl) ?_
    refine ev_iload i_Pr_setContextRule_29 rfl ?_
    refine ev_if_neN i_Pr_setContextRule_31 (by omega) (fun hc_31 => ?_) (fun hc_31 => ?_)
    · skip
      exfalso; omega
    · skip
      refine ev_aload i_Pr_setContextRule_34 rfl ?_
      refine ev_get i_Pr_setContextRule_36 tb rfl ?_
      refine ev_bipushN (v := 6) i_Pr_setContextRule_39 (by decide) ?_
      refine ev_icmp_ltN i_Pr_setContextRule_41 (by omega) (by omega) (fun hc_41 => ?_) (fun hc_41 => ?_)
      · skip
        refine ev_aload i_Pr_setContextRule_54 rfl ?_
        refine ev_iload_n i_Pr_setContextRule_56 rfl ?_
        refine ev_iload_n i_Pr_setContextRule_57 rfl ?_
        refine ev_aload_n i_Pr_setContextRule_58 rfl ?_
        refine ev_get i_Pr_setContextRule_59 h0 rfl ?_
        refine ev_callV3 i_Pr_setContextRule_62 rfl tb (Nat.le_of_ble_eq_true rfl) (m1 _) ?_
        refine ev_iload i_Pr_setContextRule_65 rfl ?_
        exact ev_iret i_Pr_setContextRule_67 rfl (by first | rfl | decide)
      · skip
        exfalso; omega
theorem x_setRule_3 {scr : Scr} {l : Launch} {S : Sto} {σ : Sg} {t p q d : Nat} (h : XInv σ S) (ht : t < 3) (hp : p < 6) (hq : q < 6) (hw : isW σ.1) (hl : σ.1.length ≤ 4) (hz : ¬ ((σ.2.1.1 t).2 p q).isSome) (hc : 6 ≤ rcount (σ.2.1.1 t)) : MetA scr l (d + 3) M_Pr_setContextRule [.ref 0, .int (nI t), .int (nI p), .int (nI q)] S (.inr xIse, S.thrown) := by
  obtain ⟨h0, hT, hL, hSv, hH, hRs, hrest⟩ := id h
  obtain ⟨rc, tb, hrc⟩ := tab_obj (live_tab h ht)
  have h36 := rcount_le (σ.2.1.1 t)
  have hi : (if ((σ.2.1.1 t).2 p q).isSome then 1 else 0) = 0 := if_neg hz
  refine MetA.of rfl (by decide +kernel) (Nat.le_of_ble_eq_true rfl) ?_
  refine ev_aload_n i_Pr_setContextRule_0 rfl ?_
  refine ev_iload_n i_Pr_setContextRule_1 rfl ?_
  refine ev_callV1 i_Pr_setContextRule_2 rfl h0 (Nat.le_of_ble_eq_true rfl) (x_tableAt h ht) ?_
  refine ev_astore i_Pr_setContextRule_5 (Nat.le_of_ble_eq_true rfl) ?_
  refine ev_iload_n i_Pr_setContextRule_7 rfl ?_
  refine ev_callS1 i_Pr_setContextRule_8 rfl (Nat.le_of_ble_eq_true rfl) (x_checkLetter hp) ?_
  refine ev_iload_n i_Pr_setContextRule_11 rfl ?_
  refine ev_callS1 i_Pr_setContextRule_12 rfl (Nat.le_of_ble_eq_true rfl) (x_checkLetter hq) ?_
  refine ev_aload_n i_Pr_setContextRule_15 rfl ?_
  refine ev_iconstN (v := 4) i_Pr_setContextRule_16 (by decide) ?_
  refine ev_callV1 i_Pr_setContextRule_17 rfl h0 (Nat.le_of_ble_eq_true rfl) (x_checkWord h (by omega) hw hl) ?_
  refine ev_aload i_Pr_setContextRule_20 rfl ?_
  refine ev_iload_n i_Pr_setContextRule_22 rfl ?_
  refine ev_iload_n i_Pr_setContextRule_23 rfl ?_
  refine ev_callV2 i_Pr_setContextRule_24 rfl tb (Nat.le_of_ble_eq_true rfl) (t_hasRule (live_tab h ht) hp hq) ?_
  rw [hi]
  refine ev_istore i_Pr_setContextRule_27 (Nat.le_of_ble_eq_true rfl) ?_
  refine ev_iload i_Pr_setContextRule_29 rfl ?_
  refine ev_if_neN i_Pr_setContextRule_31 (by omega) (fun hc_31 => ?_) (fun hc_31 => ?_)
  · skip
    exfalso; omega
  · skip
    refine ev_aload i_Pr_setContextRule_34 rfl ?_
    refine ev_get i_Pr_setContextRule_36 tb rfl ?_
    refine ev_bipushN (v := 6) i_Pr_setContextRule_39 (by decide) ?_
    refine ev_icmp_ltN i_Pr_setContextRule_41 (by omega) (by omega) (fun hc_41 => ?_) (fun hc_41 => ?_)
    · skip
      exfalso; omega
    · skip
      exact ev_throw i_Pr_setContextRule_44 ex_Ise rfl rfl (Nat.le_of_ble_eq_true rfl)
theorem x_delRule {scr : Scr} {l : Launch} {S : Sto} {σ : Sg} {t p q : Nat} (h : XInv σ S) (ht : t < 3) (hp : p < 6) (hq : q < 6) (hz : ((σ.2.1.1 t).2 p q).isSome) : ∃ S1, (∀ d, MetA scr l (d + 3) M_Pr_removeContextRule [.ref 0, .int (nI t), .int (nI p), .int (nI q)] S (.inl (some (.int (nI 1))), S1)) ∧ XInv (σ.1, setTab σ.2.1 t (delRule (σ.2.1.1 t) p q), σ.2.2) S1 ∧ Fr xK S S1 := by
  obtain ⟨h0, hT, hL, hSv, hH, hRs, hrest⟩ := id h
  obtain ⟨rc, tb, hrc⟩ := tab_obj (live_tab h ht)
  obtain ⟨S1, m1, t2, f1⟩ := t_delRule (scr := scr) (l := l) (live_tab h ht) hp hq hz
  refine ⟨S1, fun d => ?_, h.live f1 (tab_hk ht) (St_tab hL ht t2 f1), f1.x (fun k hk => by have := tab_hk ht k hk; omega)⟩
  refine MetA.of rfl (by decide +kernel) (Nat.le_of_ble_eq_true rfl) ?_
  refine ev_aload_n i_Pr_removeContextRule_0 rfl ?_
  refine ev_iload_n i_Pr_removeContextRule_1 rfl ?_
  refine ev_callV1 i_Pr_removeContextRule_2 rfl h0 (Nat.le_of_ble_eq_true rfl) (x_tableAt h ht) ?_
  refine ev_astore i_Pr_removeContextRule_5 (Nat.le_of_ble_eq_true rfl) ?_
  refine ev_iload_n i_Pr_removeContextRule_7 rfl ?_
  refine ev_callS1 i_Pr_removeContextRule_8 rfl (Nat.le_of_ble_eq_true rfl) (x_checkLetter hp) ?_
  refine ev_iload_n i_Pr_removeContextRule_11 rfl ?_
  refine ev_callS1 i_Pr_removeContextRule_12 rfl (Nat.le_of_ble_eq_true rfl) (x_checkLetter hq) ?_
  refine ev_aload i_Pr_removeContextRule_15 rfl ?_
  refine ev_iload_n i_Pr_removeContextRule_17 rfl ?_
  refine ev_iload_n i_Pr_removeContextRule_18 rfl ?_
  refine ev_callV2 i_Pr_removeContextRule_19 rfl tb (Nat.le_of_ble_eq_true rfl) (m1 _) ?_
  exact ev_iret i_Pr_removeContextRule_22 rfl (by first | rfl | decide)
theorem x_delRule_no {scr : Scr} {l : Launch} {S : Sto} {σ : Sg} {t p q d : Nat} (h : XInv σ S) (ht : t < 3) (hp : p < 6) (hq : q < 6) (hz : ¬ ((σ.2.1.1 t).2 p q).isSome) : MetA scr l (d + 3) M_Pr_removeContextRule [.ref 0, .int (nI t), .int (nI p), .int (nI q)] S (.inl (some (.int (nI 0))), S) := by
  obtain ⟨h0, hT, hL, hSv, hH, hRs, hrest⟩ := id h
  obtain ⟨rc, tb, hrc⟩ := tab_obj (live_tab h ht)
  refine MetA.of rfl (by decide +kernel) (Nat.le_of_ble_eq_true rfl) ?_
  refine ev_aload_n i_Pr_removeContextRule_0 rfl ?_
  refine ev_iload_n i_Pr_removeContextRule_1 rfl ?_
  refine ev_callV1 i_Pr_removeContextRule_2 rfl h0 (Nat.le_of_ble_eq_true rfl) (x_tableAt h ht) ?_
  refine ev_astore i_Pr_removeContextRule_5 (Nat.le_of_ble_eq_true rfl) ?_
  refine ev_iload_n i_Pr_removeContextRule_7 rfl ?_
  refine ev_callS1 i_Pr_removeContextRule_8 rfl (Nat.le_of_ble_eq_true rfl) (x_checkLetter hp) ?_
  refine ev_iload_n i_Pr_removeContextRule_11 rfl ?_
  refine ev_callS1 i_Pr_removeContextRule_12 rfl (Nat.le_of_ble_eq_true rfl) (x_checkLetter hq) ?_
  refine ev_aload i_Pr_removeContextRule_15 rfl ?_
  refine ev_iload_n i_Pr_removeContextRule_17 rfl ?_
  refine ev_iload_n i_Pr_removeContextRule_18 rfl ?_
  refine ev_callV2 i_Pr_removeContextRule_19 rfl tb (Nat.le_of_ble_eq_true rfl) (t_delRule_no (live_tab h ht) hp hq hz) ?_
  exact ev_iret i_Pr_removeContextRule_22 rfl (by first | rfl | decide)
def setCur (C : Core) (xs : List Nat) : Core := (C.1, xs, C.2.2)
def setTgt (C : Core) (xs : List Nat) : Core := (C.1, C.2.1, xs, C.2.2.2)
theorem St_cur {S S1 : Sto} {C : Core} {xs : List Nat} (h : StAt S 3 C) (hx : WordAt S1 17 18 xs) (hF : Fr [17, 18] S S1) : StAt S1 3 (setCur C xs) := by
  obtain ⟨l1, ⟨lf, l2, l3⟩, l4, l5, l6, lg, l7, l8⟩ := h
  exact ⟨hF.at l1 (by decide), ⟨lf, hF.at l2 (by decide), l3⟩, fun j hj => (l4 j hj).fr hF ⟨by simp; omega, by simp; omega, by simp; omega, by simp; omega⟩, hx, l6.fr hF ⟨by decide, by decide⟩, lg, hF.at l7 (by decide), l8⟩
theorem St_tgt {S S1 : Sto} {C : Core} {xs : List Nat} (h : StAt S 3 C) (hx : WordAt S1 19 20 xs) (hF : Fr [19, 20] S S1) : StAt S1 3 (setTgt C xs) := by
  obtain ⟨l1, ⟨lf, l2, l3⟩, l4, l5, l6, lg, l7, l8⟩ := h
  exact ⟨hF.at l1 (by decide), ⟨lf, hF.at l2 (by decide), l3⟩, fun j hj => (l4 j hj).fr hF ⟨by simp; omega, by simp; omega, by simp; omega, by simp; omega⟩, l5.fr hF ⟨by decide, by decide⟩, hx, lg, hF.at l7 (by decide), l8⟩
theorem x_setWord {scr : Scr} {l : Launch} {S : Sto} {σ : Sg} (h : XInv σ S) (hw : isW σ.1) : ∃ S1, (∀ d, MetA scr l (d + 2) M_Pr_setWord [.ref 0] S (.inl (some (.int (nI σ.1.length))), S1)) ∧ XInv (σ.1, setCur σ.2.1 (wOf σ.1), σ.2.2.1, σ.2.2.2.1, [], σ.2.2.2.2.2) S1 ∧ Fr xK S S1 := by
  obtain ⟨h0, hT, hL, hSv, hH, hRs, hrest⟩ := id h
  have h60 := hT.1.2.1
  obtain ⟨S1, m1, w1, f1⟩ := w_read (scr := scr) (l := l) hL.2.2.2.1 hT hw ⟨by decide, by decide⟩
  have h1 := h.live f1 (by decide) (St_cur hL w1 f1)
  have o1 := h1.1
  have hh1 := h1.2.2.2.2.1
  obtain ⟨S2, m2, hh2, f2⟩ := h_forget (scr := scr) (l := l) hh1
  have h2 := h1.hist f2 (by decide) hh2
  have o2 := h2.1
  have q1 := h2.2.2.1.1
  have q2 := h2.2.2.1.2.2.2.1.1
  rw [show (setCur σ.2.1 (wOf σ.1)).2.1.length = σ.1.length from wOf_len _] at q2
  refine ⟨S2, fun d => ?_, h2, (f1.x (by decide)).tr (f2.x (by decide))⟩
  refine MetA.of rfl (by decide +kernel) (Nat.le_of_ble_eq_true rfl) ?_
  refine ev_aload_n i_Pr_setWord_0 rfl ?_
  refine ev_bipushN (v := 60) i_Pr_setWord_1 (by decide) ?_
  refine ev_callV1 i_Pr_setWord_3 rfl h0 (Nat.le_of_ble_eq_true rfl) (x_checkWord h (by omega) hw (by omega)) ?_
  refine ev_aload_n i_Pr_setWord_6 rfl ?_
  refine ev_get i_Pr_setWord_7 h0 rfl ?_
  refine ev_get i_Pr_setWord_10 hL.1 rfl ?_
  refine ev_aload_n i_Pr_setWord_13 rfl ?_
  refine ev_get i_Pr_setWord_14 h0 rfl ?_
  refine ev_callV1 i_Pr_setWord_17 rfl hL.2.2.2.1.1 (Nat.le_of_ble_eq_true rfl) (m1 _) ?_
  refine ev_aload_n i_Pr_setWord_20 rfl ?_
  refine ev_get i_Pr_setWord_21 o1 rfl ?_
  refine ev_callV0 i_Pr_setWord_24 rfl hh1.choose_spec.choose_spec.choose_spec.2.2.1 (Nat.le_of_ble_eq_true rfl) (m2 _) ?_
  refine ev_aload_n i_Pr_setWord_27 rfl ?_
  refine ev_get i_Pr_setWord_28 o2 rfl ?_
  refine ev_get i_Pr_setWord_31 q1 rfl ?_
  refine ev_get i_Pr_setWord_34 q2 rfl ?_
  exact ev_iret i_Pr_setWord_37 rfl (by first | rfl | decide)
theorem x_setWord_1 {scr : Scr} {l : Launch} {S : Sto} {σ : Sg} {d : Nat} (h : XInv σ S) (hw : ¬ isW σ.1) : MetA scr l (d + 2) M_Pr_setWord [.ref 0] S (.inr xIae, S.thrown) := by
  refine MetA.of rfl (by decide +kernel) (Nat.le_of_ble_eq_true rfl) ?_
  refine ev_aload_n i_Pr_setWord_0 rfl ?_
  refine ev_bipushN (v := 60) i_Pr_setWord_1 (by decide) ?_
  exact ev_callV1x rfl i_Pr_setWord_3 rfl h.1 (Nat.le_of_ble_eq_true rfl) (x_checkWord_no h (by omega) (fun q => hw q.1))
theorem x_setTarget {scr : Scr} {l : Launch} {S : Sto} {σ : Sg} (h : XInv σ S) (hw : isW σ.1) : ∃ S1, (∀ d, MetA scr l (d + 2) M_Pr_setTarget [.ref 0] S (.inl (some (.int (nI σ.1.length))), S1)) ∧ XInv (σ.1, setTgt σ.2.1 (wOf σ.1), σ.2.2) S1 ∧ Fr xK S S1 := by
  obtain ⟨h0, hT, hL, hSv, hH, hRs, hrest⟩ := id h
  have h60 := hT.1.2.1
  obtain ⟨S1, m1, w1, f1⟩ := w_read (scr := scr) (l := l) hL.2.2.2.2.1 hT hw ⟨by decide, by decide⟩
  have h1 := h.live f1 (by decide) (St_tgt hL w1 f1)
  have o1 := h1.1
  have q1 := h1.2.2.1.1
  have q2 := h1.2.2.1.2.2.2.2.1.1
  rw [show (setTgt σ.2.1 (wOf σ.1)).2.2.1.length = σ.1.length from wOf_len _] at q2
  refine ⟨S1, fun d => ?_, h1, f1.x (by decide)⟩
  refine MetA.of rfl (by decide +kernel) (Nat.le_of_ble_eq_true rfl) ?_
  refine ev_aload_n i_Pr_setTarget_0 rfl ?_
  refine ev_bipushN (v := 60) i_Pr_setTarget_1 (by decide) ?_
  refine ev_callV1 i_Pr_setTarget_3 rfl h0 (Nat.le_of_ble_eq_true rfl) (x_checkWord h (by omega) hw (by omega)) ?_
  refine ev_aload_n i_Pr_setTarget_6 rfl ?_
  refine ev_get i_Pr_setTarget_7 h0 rfl ?_
  refine ev_get i_Pr_setTarget_10 hL.1 rfl ?_
  refine ev_aload_n i_Pr_setTarget_13 rfl ?_
  refine ev_get i_Pr_setTarget_14 h0 rfl ?_
  refine ev_callV1 i_Pr_setTarget_17 rfl hL.2.2.2.2.1.1 (Nat.le_of_ble_eq_true rfl) (m1 _) ?_
  refine ev_aload_n i_Pr_setTarget_20 rfl ?_
  refine ev_get i_Pr_setTarget_21 o1 rfl ?_
  refine ev_get i_Pr_setTarget_24 q1 rfl ?_
  refine ev_get i_Pr_setTarget_27 q2 rfl ?_
  exact ev_iret i_Pr_setTarget_30 rfl (by first | rfl | decide)
theorem x_setTarget_1 {scr : Scr} {l : Launch} {S : Sto} {σ : Sg} {d : Nat} (h : XInv σ S) (hw : ¬ isW σ.1) : MetA scr l (d + 2) M_Pr_setTarget [.ref 0] S (.inr xIae, S.thrown) := by
  refine MetA.of rfl (by decide +kernel) (Nat.le_of_ble_eq_true rfl) ?_
  refine ev_aload_n i_Pr_setTarget_0 rfl ?_
  refine ev_bipushN (v := 60) i_Pr_setTarget_1 (by decide) ?_
  exact ev_callV1x rfl i_Pr_setTarget_3 rfl h.1 (Nat.le_of_ble_eq_true rfl) (x_checkWord_no h (by omega) (fun q => hw q.1))
theorem x_wordLength {scr : Scr} {l : Launch} {S : Sto} {σ : Sg} {d : Nat} (h : XInv σ S) : MetA scr l d M_Pr_wordLength [.ref 0] S (.inl (some (.int (nI σ.2.1.2.1.length))), S) := by
  obtain ⟨h0, hT, hL, hSv, hH, hRs, hrest⟩ := id h
  refine MetA.of rfl (by decide +kernel) (Nat.le_of_ble_eq_true rfl) ?_
  refine ev_aload_n i_Pr_wordLength_0 rfl ?_
  refine ev_get i_Pr_wordLength_1 h0 rfl ?_
  refine ev_get i_Pr_wordLength_4 hL.1 rfl ?_
  refine ev_get i_Pr_wordLength_7 hL.2.2.2.1.1 rfl ?_
  exact ev_iret i_Pr_wordLength_10 rfl (by first | rfl | decide)
theorem x_wordLetter {scr : Scr} {l : Launch} {S : Sto} {σ : Sg} {i d : Nat} (h : XInv σ S) (hi : i < σ.2.1.2.1.length) : MetA scr l d M_Pr_wordLetter [.ref 0, .int (nI i)] S (.inl (some (.int (nI (σ.2.1.2.1.getD i 0)))), S) := by
  obtain ⟨h0, hT, hL, hSv, hH, hRs, hrest⟩ := id h
  obtain ⟨w1, w2, w3, f, w4, w5⟩ := hL.2.2.2.1
  refine MetA.of rfl (by decide +kernel) (Nat.le_of_ble_eq_true rfl) ?_
  refine ev_iload_n i_Pr_wordLetter_0 rfl ?_
  refine ev_if_lt_N i_Pr_wordLetter_1 (by omega) (fun hc_1 => ?_) (fun hc_1 => ?_)
  · skip
    exfalso; omega
  · skip
    refine ev_iload_n i_Pr_wordLetter_4 rfl ?_
    refine ev_aload_n i_Pr_wordLetter_5 rfl ?_
    refine ev_get i_Pr_wordLetter_6 h0 rfl ?_
    refine ev_get i_Pr_wordLetter_9 hL.1 rfl ?_
    refine ev_get i_Pr_wordLetter_12 w1 rfl ?_
    refine ev_icmp_ltN i_Pr_wordLetter_15 (by omega) (by omega) (fun hc_15 => ?_) (fun hc_15 => ?_)
    · skip
      refine ev_aload_n i_Pr_wordLetter_28 rfl ?_
      refine ev_get i_Pr_wordLetter_29 h0 rfl ?_
      refine ev_get i_Pr_wordLetter_32 hL.1 rfl ?_
      refine ev_get i_Pr_wordLetter_35 w1 rfl ?_
      refine ev_iload_n i_Pr_wordLetter_38 rfl ?_
      refine ev_ialdN i_Pr_wordLetter_39 w4 (by omega) (by decide) ?_
      rw [w5 i hi]
      exact ev_iret i_Pr_wordLetter_40 rfl (by first | rfl | decide)
    · skip
      exfalso; omega
theorem x_wordLetter_1 {scr : Scr} {l : Launch} {S : Sto} {σ : Sg} {p : Int32} {d : Nat} (h : XInv σ S) (hp : ¬ inR σ.2.1.2.1.length p) : MetA scr l d M_Pr_wordLetter [.ref 0, .int p] S (.inr xIob, S.thrown) := by
  obtain ⟨h0, hT, hL, hSv, hH, hRs, hrest⟩ := id h
  obtain ⟨w1, w2, w3, f, w4, w5⟩ := hL.2.2.2.1
  refine MetA.of rfl (by decide +kernel) (Nat.le_of_ble_eq_true rfl) ?_
  refine ev_iload_n i_Pr_wordLetter_0 rfl ?_
  refine ev_if_lt i_Pr_wordLetter_1 (fun hc_1 => ?_) (fun hc_1 => ?_)
  · skip
    exact ev_throw i_Pr_wordLetter_18 ex_Iob rfl rfl (Nat.le_of_ble_eq_true rfl)
  · skip
    refine ev_iload_n i_Pr_wordLetter_4 rfl ?_
    refine ev_aload_n i_Pr_wordLetter_5 rfl ?_
    refine ev_get i_Pr_wordLetter_6 h0 rfl ?_
    refine ev_get i_Pr_wordLetter_9 hL.1 rfl ?_
    refine ev_get i_Pr_wordLetter_12 w1 rfl ?_
    refine ev_icmp_lt i_Pr_wordLetter_15 (fun hc_15 => ?_) (fun hc_15 => ?_)
    · skip
      exact absurd ⟨hc_1, hc_15⟩ hp
    · skip
      exact ev_throw i_Pr_wordLetter_18 ex_Iob rfl rfl (Nat.le_of_ble_eq_true rfl)
theorem x_isTarget {scr : Scr} {l : Launch} {S : Sto} {σ : Sg} {d : Nat} (h : XInv σ S) : MetA scr l (d + 3) M_Pr_isTarget [.ref 0] S (.inl (some (.int (nI (if σ.2.1.2.1 = σ.2.1.2.2.1 then 1 else 0)))), S) := by
  obtain ⟨h0, hT, hL, hSv, hH, hRs, hrest⟩ := id h
  refine MetA.of rfl (by decide +kernel) (Nat.le_of_ble_eq_true rfl) ?_
  refine ev_aload_n i_Pr_isTarget_0 rfl ?_
  refine ev_get i_Pr_isTarget_1 h0 rfl ?_
  refine ev_get i_Pr_isTarget_4 hL.1 rfl ?_
  refine ev_aload_n i_Pr_isTarget_7 rfl ?_
  refine ev_get i_Pr_isTarget_8 h0 rfl ?_
  refine ev_get i_Pr_isTarget_11 hL.1 rfl ?_
  refine ev_callV1 i_Pr_isTarget_14 rfl hL.2.2.2.1.1 (Nat.le_of_ble_eq_true rfl) (w_same hL.2.2.2.1 hL.2.2.2.2.1) ?_
  by_cases hq : σ.2.1.2.1 = σ.2.1.2.2.1
  · rw [if_pos hq]
    exact ev_iret i_Pr_isTarget_17 rfl (by decide)
  · rw [if_neg hq]
    exact ev_iret i_Pr_isTarget_17 rfl (by decide)
theorem x_step {scr : Scr} {l : Launch} {S : Sto} {σ : Sg} {t : Nat} {seed : Int32} (h : XInv σ S) (ht : t < 3) (hl : (stepW (σ.2.1.1 t) σ.2.1.2.1 seed).length ≤ 60) : ∃ S1, (∀ d, MetA scr l (d + 3) M_Pr_step [.ref 0, .int (nI t), .int seed] S (.inl (some (.int (nI (stepW (σ.2.1.1 t) σ.2.1.2.1 seed).length))), S1)) ∧ XInv (σ.1, setCur σ.2.1 (stepW (σ.2.1.1 t) σ.2.1.2.1 seed), σ.2.2.1, σ.2.2.2.1, histPush σ.2.2.2.2.1 σ.2.1.2.1, σ.2.2.2.2.2) S1 ∧ Fr xK S S1 := by
  obtain ⟨h0, hT, hL, hSv, hH, hRs, hrest⟩ := id h
  obtain ⟨rc, tb, -⟩ := tab_obj (live_tab h ht)
  obtain ⟨zs, hz⟩ := hRs
  obtain ⟨S1, m1, w1, f1⟩ := (t_rewrite (scr := scr) (l := l) (seed := seed) (live_tab h ht) hL.2.2.2.1 ⟨by simp; omega, by simp; omega, by simp; omega, by simp; omega⟩ ⟨by decide, by decide⟩ hz).1 hl
  have h1 := h.res f1 (by decide) ⟨_, w1⟩
  have o1 := h1.1
  have a1 := h1.2.2.1.1
  have hh1 := h1.2.2.2.2.1
  have c1 := h1.2.2.1.2.2.2.1
  obtain ⟨S2, m2, hh2, f2⟩ := h_remember (scr := scr) (l := l) hh1 c1 ⟨by decide, by decide⟩
  have h2 := h1.hist f2 (fun k hk => by rw [List.mem_range'_1] at hk; omega) hh2
  have o2 := h2.1
  have a2 := h2.2.2.1.1
  have c2 := h2.2.2.1.2.2.2.1
  have r2 : WordAt S2 59 60 _ := w1.fr f2 ⟨by decide, by decide⟩
  obtain ⟨S3, m3, w3, f3⟩ := w_copy (scr := scr) (l := l) c2 r2
  have h3 := h2.live f3 (by decide) (St_cur h2.2.2.1 w3 f3)
  have o3 := h3.1
  have a3 := h3.2.2.1.1
  have c3 := w3.1
  refine ⟨S3, fun d => ?_, h3, ((f1.x (by decide)).tr (f2.x (fun k hk => by rw [List.mem_range'_1] at hk; omega))).tr (f3.x (by decide))⟩
  refine MetA.of rfl (by decide +kernel) (Nat.le_of_ble_eq_true rfl) ?_
  refine ev_aload_n i_Pr_step_0 rfl ?_
  refine ev_iload_n i_Pr_step_1 rfl ?_
  refine ev_callV1 i_Pr_step_2 rfl h0 (Nat.le_of_ble_eq_true rfl) (x_tableAt h ht) ?_
  refine ev_astore_n i_Pr_step_5 (Nat.le_of_ble_eq_true rfl) ?_
  refine ev_aload_n i_Pr_step_6 rfl ?_
  refine ev_aload_n i_Pr_step_7 rfl ?_
  refine ev_get i_Pr_step_8 h0 rfl ?_
  refine ev_get i_Pr_step_11 hL.1 rfl ?_
  refine ev_iload_n i_Pr_step_14 rfl ?_
  refine ev_aload_n i_Pr_step_15 rfl ?_
  refine ev_get i_Pr_step_16 h0 rfl ?_
  refine ev_callV3 i_Pr_step_19 rfl tb (Nat.le_of_ble_eq_true rfl) (m1 _) ?_
  refine ev_if_neN i_Pr_step_22 (by omega) (fun hc_22 => ?_) (fun hc_22 => ?_)
  · skip
    refine ev_aload_n i_Pr_step_35 rfl ?_
    refine ev_get i_Pr_step_36 o1 rfl ?_
    refine ev_aload_n i_Pr_step_39 rfl ?_
    refine ev_get i_Pr_step_40 o1 rfl ?_
    refine ev_get i_Pr_step_43 a1 rfl ?_
    refine ev_callV1 i_Pr_step_46 rfl hh1.choose_spec.choose_spec.choose_spec.2.2.1 (Nat.le_of_ble_eq_true rfl) (m2 _) ?_
    refine ev_aload_n i_Pr_step_49 rfl ?_
    refine ev_get i_Pr_step_50 o2 rfl ?_
    refine ev_get i_Pr_step_53 a2 rfl ?_
    refine ev_aload_n i_Pr_step_56 rfl ?_
    refine ev_get i_Pr_step_57 o2 rfl ?_
    refine ev_callV1 i_Pr_step_60 rfl c2.1 (Nat.le_of_ble_eq_true rfl) (m3 _) ?_
    refine ev_aload_n i_Pr_step_63 rfl ?_
    refine ev_get i_Pr_step_64 o3 rfl ?_
    refine ev_get i_Pr_step_67 a3 rfl ?_
    refine ev_get i_Pr_step_70 c3 rfl ?_
    exact ev_iret i_Pr_step_73 rfl (by first | rfl | decide)
  · skip
    exfalso; omega
theorem x_step_2 {scr : Scr} {l : Launch} {S : Sto} {σ : Sg} {t : Nat} {seed : Int32} (h : XInv σ S) (ht : t < 3) (hl : 60 < (stepW (σ.2.1.1 t) σ.2.1.2.1 seed).length) : ∃ S1, (∀ d, MetA scr l (d + 3) M_Pr_step [.ref 0, .int (nI t), .int seed] S (.inr xIse, S1.thrown)) ∧ XInv σ S1 ∧ Fr xK S S1 := by
  obtain ⟨h0, hT, hL, hSv, hH, hRs, hrest⟩ := id h
  obtain ⟨rc, tb, -⟩ := tab_obj (live_tab h ht)
  obtain ⟨zs, hz⟩ := hRs
  obtain ⟨S1, m1, w1, f1⟩ := (t_rewrite (scr := scr) (l := l) (seed := seed) (live_tab h ht) hL.2.2.2.1 ⟨by simp; omega, by simp; omega, by simp; omega, by simp; omega⟩ ⟨by decide, by decide⟩ hz).2 hl
  refine ⟨S1, fun d => ?_, h.res f1 (by decide) w1, f1.x (by decide)⟩
  refine MetA.of rfl (by decide +kernel) (Nat.le_of_ble_eq_true rfl) ?_
  refine ev_aload_n i_Pr_step_0 rfl ?_
  refine ev_iload_n i_Pr_step_1 rfl ?_
  refine ev_callV1 i_Pr_step_2 rfl h0 (Nat.le_of_ble_eq_true rfl) (x_tableAt h ht) ?_
  refine ev_astore_n i_Pr_step_5 (Nat.le_of_ble_eq_true rfl) ?_
  refine ev_aload_n i_Pr_step_6 rfl ?_
  refine ev_aload_n i_Pr_step_7 rfl ?_
  refine ev_get i_Pr_step_8 h0 rfl ?_
  refine ev_get i_Pr_step_11 hL.1 rfl ?_
  refine ev_iload_n i_Pr_step_14 rfl ?_
  refine ev_aload_n i_Pr_step_15 rfl ?_
  refine ev_get i_Pr_step_16 h0 rfl ?_
  refine ev_callV3 i_Pr_step_19 rfl tb (Nat.le_of_ble_eq_true rfl) (m1 _) ?_
  refine ev_if_neN i_Pr_step_22 (by omega) (fun hc_22 => ?_) (fun hc_22 => ?_)
  · skip
    exfalso; omega
  · skip
    exact ev_throw i_Pr_step_25 ex_Ise rfl rfl (Nat.le_of_ble_eq_true rfl)
theorem x_step_1 {scr : Scr} {l : Launch} {S : Sto} {σ : Sg} {p seed : Int32} {d : Nat} (h : XInv σ S) (hp : ¬ inR 3 p) : MetA scr l (d + 3) M_Pr_step [.ref 0, .int p, .int seed] S (.inr xIob, S.thrown) := by
  refine MetA.of rfl (by decide +kernel) (Nat.le_of_ble_eq_true rfl) ?_
  refine ev_aload_n i_Pr_step_0 rfl ?_
  refine ev_iload_n i_Pr_step_1 rfl ?_
  exact ev_callV1x rfl i_Pr_step_2 rfl h.1 (Nat.le_of_ble_eq_true rfl) (x_tableAt_no hp)
theorem x_undo {scr : Scr} {l : Launch} {S : Sto} {σ : Sg} (h : XInv σ S) (hne : σ.2.2.2.2.1 ≠ []) : ∃ S1, (∀ d, MetA scr l (d + 2) M_Pr_undo [.ref 0] S (.inl (some (.int (nI 1))), S1)) ∧ XInv (σ.1, setCur σ.2.1 (σ.2.2.2.2.1.getD (σ.2.2.2.2.1.length - 1) []), σ.2.2.1, σ.2.2.2.1, σ.2.2.2.2.1.dropLast, σ.2.2.2.2.2) S1 ∧ Fr xK S S1 := by
  obtain ⟨h0, hT, hL, hSv, hH, hRs, hrest⟩ := id h
  obtain ⟨S1, m1, hh, w1, f1⟩ := h_takeBack (scr := scr) (l := l) hH hL.2.2.2.1 ⟨by decide, by decide⟩ hne
  refine ⟨S1, fun d => ?_, ?_, f1.x (by decide)⟩
  · refine MetA.of rfl (by decide +kernel) (Nat.le_of_ble_eq_true rfl) ?_
    refine ev_aload_n i_Pr_undo_0 rfl ?_
    refine ev_get i_Pr_undo_1 h0 rfl ?_
    refine ev_aload_n i_Pr_undo_4 rfl ?_
    refine ev_get i_Pr_undo_5 h0 rfl ?_
    refine ev_get i_Pr_undo_8 hL.1 rfl ?_
    refine ev_callV1 i_Pr_undo_11 rfl hH.choose_spec.choose_spec.choose_spec.2.2.1 (Nat.le_of_ble_eq_true rfl) (m1 _) ?_
    exact ev_iret i_Pr_undo_14 rfl (by first | rfl | decide)
  · obtain ⟨k0, k1, k2, k3, k4, k5, k6, k7, k8, k9, k10, k11, k12⟩ := id h
    have hn : ∀ k, ¬ (k = 41 ∨ k = 17 ∨ k = 18) → k ∉ [41, 3 + 14, 3 + 15] := fun k q z => q (by simpa using z)
    obtain ⟨l1, ⟨lf, l2, l3⟩, l4, l5, l6, lg, l7, l8⟩ := k2
    exact ⟨f1.at k0 (hn _ (by omega)), k1.fr f1 ⟨hn _ (by omega), hn _ (by omega)⟩, ⟨f1.at l1 (hn _ (by omega)), ⟨lf, f1.at l2 (hn _ (by omega)), l3⟩, fun j hj => (l4 j hj).fr f1 ⟨hn _ (by omega), hn _ (by omega), hn _ (by omega), hn _ (by omega)⟩, w1, l6.fr f1 ⟨hn _ (by omega), hn _ (by omega)⟩, lg, f1.at l7 (hn _ (by omega)), l8⟩, k3.fr f1 (fun i hi => hn _ (by omega)), hh, wfr k5 f1 ⟨hn _ (by omega), hn _ (by omega)⟩, k6.fr f1 (fun k _ _ => hn k (by omega)), k7.fr f1 (fun k _ _ => hn k (by omega)), k8.fr f1 (fun k _ _ => hn k (by omega)), k9.fr f1 (fun k _ _ => hn k (by omega)), k10.fr f1 (fun k _ _ => hn k (by omega)), k11.fr f1 (fun k _ _ => hn k (by omega)), k12.fr f1 (fun k _ _ => hn k (by omega))⟩
theorem x_undo_no {scr : Scr} {l : Launch} {S : Sto} {σ : Sg} {d : Nat} (h : XInv σ S) (hne : σ.2.2.2.2.1 = []) : MetA scr l (d + 2) M_Pr_undo [.ref 0] S (.inl (some (.int (nI 0))), S) := by
  obtain ⟨h0, hT, hL, hSv, hH, hRs, hrest⟩ := id h
  refine MetA.of rfl (by decide +kernel) (Nat.le_of_ble_eq_true rfl) ?_
  refine ev_aload_n i_Pr_undo_0 rfl ?_
  refine ev_get i_Pr_undo_1 h0 rfl ?_
  refine ev_aload_n i_Pr_undo_4 rfl ?_
  refine ev_get i_Pr_undo_5 h0 rfl ?_
  refine ev_get i_Pr_undo_8 hL.1 rfl ?_
  refine ev_callV1 i_Pr_undo_11 rfl hH.choose_spec.choose_spec.choose_spec.2.2.1 (Nat.le_of_ble_eq_true rfl) (h_takeBack_no (by rw [hne] at hH; exact hH)) ?_
  exact ev_iret i_Pr_undo_14 rfl (by first | rfl | decide)
theorem x_save {scr : Scr} {l : Launch} {S : Sto} {σ : Sg} (h : XInv σ S) : ∃ S1, (∀ d, MetA scr l (d + 2) M_Pr_save [.ref 0] S (.inl none, S1)) ∧ XInv (σ.1, σ.2.1, σ.2.1, true, σ.2.2.2.2) S1 ∧ Fr xK S S1 := by
  obtain ⟨h0, hT, hL, hSv, hH, hRs, hrest⟩ := id h
  obtain ⟨S1, m1, s1, f1⟩ := s_copy (scr := scr) (l := l) hSv hL (by omega)
  have h1 := h.saved f1 (fun k hk => by rw [List.mem_range'_1] at hk; omega) s1
  have o1 := h1.1
  have f2 : Fr [0] S1 (S1.put 0 (xObj true)) := Fr.put _ _ (by simp)
  refine ⟨S1.put 0 (xObj true), fun d => ?_, h1.obj f2 (by decide) (put_self o1), (f1.x (fun k hk => by rw [List.mem_range'_1] at hk; omega)).tr (f2.x (by decide))⟩
  refine MetA.of rfl (by decide +kernel) (Nat.le_of_ble_eq_true rfl) ?_
  refine ev_aload_n i_Pr_save_0 rfl ?_
  refine ev_get i_Pr_save_1 h0 rfl ?_
  refine ev_aload_n i_Pr_save_4 rfl ?_
  refine ev_get i_Pr_save_5 h0 rfl ?_
  refine ev_callV1 i_Pr_save_8 rfl hSv.1 (Nat.le_of_ble_eq_true rfl) (m1 _) ?_
  refine ev_aload_n i_Pr_save_11 rfl ?_
  refine ev_iconstN (v := 1) i_Pr_save_12 (by decide) ?_
  refine ev_put i_Pr_save_13 o1 (Nat.le_of_ble_eq_true rfl) rfl rfl ?_
  exact ev_vret i_Pr_save_16 rfl
theorem x_restore {scr : Scr} {l : Launch} {S : Sto} {σ : Sg} (h : XInv σ S) (hs : σ.2.2.2.1 = true) : ∃ S1, (∀ d, MetA scr l (d + 2) M_Pr_restore [.ref 0] S (.inl none, S1)) ∧ XInv (σ.1, σ.2.2.1, σ.2.2.1, σ.2.2.2.1, [], σ.2.2.2.2.2) S1 ∧ Fr xK S S1 := by
  obtain ⟨h0, hT, hL, hSv, hH, hRs, hrest⟩ := id h
  rw [hs] at h0
  have h0 : S.1[0]? = some (oB 13 [.ref 1, .ref 3, .ref 22, .ref 41, .ref 59, .ref 61, .ref 66, .ref 73, .ref 78, .ref 81, .ref 95, .ref 101, .ref 104, .int (nI 1)]) := h0
  obtain ⟨S1, m1, s1, f1⟩ := s_copy (scr := scr) (l := l) hL hSv (by omega)
  have h1 := h.live f1 (fun k hk => by rw [List.mem_range'_1] at hk; omega) s1
  have o1 := h1.1
  have hh1 := h1.2.2.2.2.1
  obtain ⟨S2, m2, hh2, f2⟩ := h_forget (scr := scr) (l := l) hh1
  refine ⟨S2, fun d => ?_, h1.hist f2 (by decide) hh2, (f1.x (fun k hk => by rw [List.mem_range'_1] at hk; omega)).tr (f2.x (by decide))⟩
  refine MetA.of rfl (by decide +kernel) (Nat.le_of_ble_eq_true rfl) ?_
  refine ev_aload_n i_Pr_restore_0 rfl ?_
  refine ev_get i_Pr_restore_1 h0 rfl ?_
  refine ev_if_neN i_Pr_restore_4 (by omega) (fun hc_4 => ?_) (fun hc_4 => ?_)
  · skip
    refine ev_aload_n i_Pr_restore_18 rfl ?_
    refine ev_get i_Pr_restore_19 h0 rfl ?_
    refine ev_aload_n i_Pr_restore_22 rfl ?_
    refine ev_get i_Pr_restore_23 h0 rfl ?_
    refine ev_callV1 i_Pr_restore_26 rfl hL.1 (Nat.le_of_ble_eq_true rfl) (m1 _) ?_
    refine ev_aload_n i_Pr_restore_29 rfl ?_
    refine ev_get i_Pr_restore_30 o1 rfl ?_
    refine ev_callV0 i_Pr_restore_33 rfl hh1.choose_spec.choose_spec.choose_spec.2.2.1 (Nat.le_of_ble_eq_true rfl) (m2 _) ?_
    exact ev_vret i_Pr_restore_36 rfl
  · skip
    exfalso; omega
theorem x_restore_1 {scr : Scr} {l : Launch} {S : Sto} {σ : Sg} {d : Nat} (h : XInv σ S) (hs : σ.2.2.2.1 = false) : MetA scr l (d + 2) M_Pr_restore [.ref 0] S (.inr xIse, S.thrown) := by
  obtain ⟨h0, hT, hL, hSv, hH, hRs, hrest⟩ := id h
  rw [hs] at h0
  have h0 : S.1[0]? = some (oB 13 [.ref 1, .ref 3, .ref 22, .ref 41, .ref 59, .ref 61, .ref 66, .ref 73, .ref 78, .ref 81, .ref 95, .ref 101, .ref 104, .int (nI 0)]) := h0
  refine MetA.of rfl (by decide +kernel) (Nat.le_of_ble_eq_true rfl) ?_
  refine ev_aload_n i_Pr_restore_0 rfl ?_
  refine ev_get i_Pr_restore_1 h0 rfl ?_
  refine ev_if_neN i_Pr_restore_4 (by omega) (fun hc_4 => ?_) (fun hc_4 => ?_)
  · skip
    exfalso; omega
  · skip
    exact ev_throw i_Pr_restore_7 ex_Ise rfl rfl (Nat.le_of_ble_eq_true rfl)

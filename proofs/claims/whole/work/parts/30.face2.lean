/-! ParallelRewriting: the methods over tables and words -/
/-- the live state with table t changed -/
def setTab (C : Core) (t : Nat) (T : TabV) : Core := (fun j => if j = t then T else C.1 j, C.2)
theorem St_tab {S S1 : Sto} {C : Core} {t : Nat} {T : TabV} (h : StAt S 3 C) (ht : t < 3) (hT : TabAt S1 (5 + 4 * t) T) (hF : Fr [5 + 4 * t, 5 + 4 * t + 1, 5 + 4 * t + 2, 5 + 4 * t + 3] S S1) : StAt S1 3 (setTab C t T) := by
  obtain ⟨l1, ⟨lf, l2, l3⟩, l4, l5, l6, lg, l7, l8⟩ := h
  refine ⟨hF.at l1 (by simp; omega), ⟨lf, hF.at l2 (by simp; omega), l3⟩, fun j hj => ?_, l5.fr hF ⟨by simp; omega, by simp; omega⟩, l6.fr hF ⟨by simp; omega, by simp; omega⟩, lg, hF.at l7 (by simp; omega), l8⟩
  unfold setTab
  by_cases q : j = t
  · subst q
    simp only [if_true]
    exact hT
  · simp only [if_neg q]
    exact (l4 j hj).fr hF ⟨by simp; omega, by simp; omega, by simp; omega, by simp; omega⟩
theorem tab_hk {t : Nat} (ht : t < 3) : ∀ k, k ∈ [5 + 4 * t, 5 + 4 * t + 1, 5 + 4 * t + 2, 5 + 4 * t + 3] → 3 ≤ k ∧ k < 22 := by
  intro k hk
  simp at hk
  omega
theorem tab_obj {S : Sto} {t : Nat} {T : TabV} (h : TabAt S t T) : ∃ rc, S.1[t]? = some (oB 9 [.ref (t + 1), .ref (t + 2), .ref (t + 3), .int (nI rc)]) ∧ rc = rcount T := by
  obtain ⟨rc, fs, fl, fe, hT, hR⟩ := h
  exact ⟨rc, hT.1, hR.2.2⟩
theorem live_tab {σ : Sg} {S : Sto} {t : Nat} (h : XInv σ S) (ht : t < 3) : TabAt S (5 + 4 * t) (σ.2.1.1 t) := h.2.2.1.2.2.1 t ht
theorem x_setProd {scr : Scr} {l : Launch} {S : Sto} {σ : Sg} {t a : Nat} (h : XInv σ S) (ht : t < 3) (ha : a < 6) (hw : isW σ.1) (hl : σ.1.length ≤ 4) : ∃ S1, (∀ d, MetA scr l (d + 3) M_Pr_setProduction [.ref 0, .int (nI t), .int (nI a)] S (.inl (some (.int (nI σ.1.length))), S1)) ∧ XInv (σ.1, setTab σ.2.1 t (setList (σ.2.1.1 t) a (wOf σ.1)), σ.2.2) S1 ∧ Fr xK S S1 := by
  obtain ⟨h0, hT, hL, hSv, hH, hRs, hrest⟩ := id h
  obtain ⟨rc, tb, -⟩ := tab_obj (live_tab h ht)
  obtain ⟨S1, m1, t2, f1⟩ := t_setList (scr := scr) (l := l) (live_tab h ht) hT hw hl ha (by simp; omega) (by simp; omega)
  have o0 := f1.at h0 (by simp; omega)
  have t1 := f1.at hT.1.1 (by simp; omega)
  refine ⟨S1, fun d => ?_, h.live f1 (tab_hk ht) (St_tab hL ht t2 f1), f1.x (fun k hk => by have := tab_hk ht k hk; omega)⟩
  refine MetA.of rfl (by decide +kernel) (Nat.le_of_ble_eq_true rfl) ?_
  refine ev_aload_n i_Pr_setProduction_0 rfl ?_
  refine ev_iload_n i_Pr_setProduction_1 rfl ?_
  refine ev_callV1 i_Pr_setProduction_2 rfl h0 (Nat.le_of_ble_eq_true rfl) (x_tableAt h ht) ?_
  refine ev_astore_n i_Pr_setProduction_5 (Nat.le_of_ble_eq_true rfl) ?_
  refine ev_iload_n i_Pr_setProduction_6 rfl ?_
  refine ev_callS1 i_Pr_setProduction_7 rfl (Nat.le_of_ble_eq_true rfl) (x_checkLetter ha) ?_
  refine ev_aload_n i_Pr_setProduction_10 rfl ?_
  refine ev_iconstN (v := 4) i_Pr_setProduction_11 (by decide) ?_
  refine ev_callV1 i_Pr_setProduction_12 rfl h0 (Nat.le_of_ble_eq_true rfl) (x_checkWord h (by omega) hw hl) ?_
  refine ev_aload_n i_Pr_setProduction_15 rfl ?_
  refine ev_iload_n i_Pr_setProduction_16 rfl ?_
  refine ev_aload_n i_Pr_setProduction_17 rfl ?_
  refine ev_get i_Pr_setProduction_18 h0 rfl ?_
  refine ev_callV2 i_Pr_setProduction_21 rfl tb (Nat.le_of_ble_eq_true rfl) (m1 _) ?_
  refine ev_aload_n i_Pr_setProduction_24 rfl ?_
  refine ev_get i_Pr_setProduction_25 o0 rfl ?_
  refine ev_get i_Pr_setProduction_28 t1 rfl ?_
  exact ev_iret i_Pr_setProduction_31 rfl (by first | rfl | decide)
theorem x_setProd_1t {scr : Scr} {l : Launch} {S : Sto} {σ : Sg} {p q : Int32} {d : Nat} (h : XInv σ S) (hp : ¬ inR 3 p) : MetA scr l (d + 3) M_Pr_setProduction [.ref 0, .int p, .int q] S (.inr xIob, S.thrown) := by
  refine MetA.of rfl (by decide +kernel) (Nat.le_of_ble_eq_true rfl) ?_
  refine ev_aload_n i_Pr_setProduction_0 rfl ?_
  refine ev_iload_n i_Pr_setProduction_1 rfl ?_
  exact ev_callV1x rfl i_Pr_setProduction_2 rfl h.1 (Nat.le_of_ble_eq_true rfl) (x_tableAt_no hp)
theorem x_setProd_1l0 {scr : Scr} {l : Launch} {S : Sto} {σ : Sg} {t : Nat} {q : Int32} {d : Nat} (h : XInv σ S) (ht : t < 3) (hq : ¬ inR 6 q) : MetA scr l (d + 3) M_Pr_setProduction [.ref 0, .int (nI t), .int q] S (.inr xIob, S.thrown) := by
  refine MetA.of rfl (by decide +kernel) (Nat.le_of_ble_eq_true rfl) ?_
  refine ev_aload_n i_Pr_setProduction_0 rfl ?_
  refine ev_iload_n i_Pr_setProduction_1 rfl ?_
  refine ev_callV1 i_Pr_setProduction_2 rfl h.1 (Nat.le_of_ble_eq_true rfl) (x_tableAt h ht) ?_
  refine ev_astore_n i_Pr_setProduction_5 (Nat.le_of_ble_eq_true rfl) ?_
  refine ev_iload_n i_Pr_setProduction_6 rfl ?_
  exact ev_callS1x rfl i_Pr_setProduction_7 rfl (Nat.le_of_ble_eq_true rfl) (x_checkLetter_no hq)
theorem x_setProd_2 {scr : Scr} {l : Launch} {S : Sto} {σ : Sg} {t a0 d : Nat} (h : XInv σ S) (ht : t < 3) (ha0 : a0 < 6) (hw : ¬ (isW σ.1 ∧ σ.1.length ≤ 4)) : MetA scr l (d + 3) M_Pr_setProduction [.ref 0, .int (nI t), .int (nI a0)] S (.inr xIae, S.thrown) := by
  refine MetA.of rfl (by decide +kernel) (Nat.le_of_ble_eq_true rfl) ?_
  refine ev_aload_n i_Pr_setProduction_0 rfl ?_
  refine ev_iload_n i_Pr_setProduction_1 rfl ?_
  refine ev_callV1 i_Pr_setProduction_2 rfl h.1 (Nat.le_of_ble_eq_true rfl) (x_tableAt h ht) ?_
  refine ev_astore_n i_Pr_setProduction_5 (Nat.le_of_ble_eq_true rfl) ?_
  refine ev_iload_n i_Pr_setProduction_6 rfl ?_
  refine ev_callS1 i_Pr_setProduction_7 rfl (Nat.le_of_ble_eq_true rfl) (x_checkLetter ha0) ?_
  refine ev_aload_n i_Pr_setProduction_10 rfl ?_
  refine ev_iconstN (v := 4) i_Pr_setProduction_11 (by decide) ?_
  exact ev_callV1x rfl i_Pr_setProduction_12 rfl h.1 (Nat.le_of_ble_eq_true rfl) (x_checkWord_no h (by omega) hw)
theorem x_addProd_1t {scr : Scr} {l : Launch} {S : Sto} {σ : Sg} {p q : Int32} {d : Nat} (h : XInv σ S) (hp : ¬ inR 3 p) : MetA scr l (d + 3) M_Pr_addProduction [.ref 0, .int p, .int q] S (.inr xIob, S.thrown) := by
  refine MetA.of rfl (by decide +kernel) (Nat.le_of_ble_eq_true rfl) ?_
  refine ev_aload_n i_Pr_addProduction_0 rfl ?_
  refine ev_iload_n i_Pr_addProduction_1 rfl ?_
  exact ev_callV1x rfl i_Pr_addProduction_2 rfl h.1 (Nat.le_of_ble_eq_true rfl) (x_tableAt_no hp)
theorem x_addProd_1l0 {scr : Scr} {l : Launch} {S : Sto} {σ : Sg} {t : Nat} {q : Int32} {d : Nat} (h : XInv σ S) (ht : t < 3) (hq : ¬ inR 6 q) : MetA scr l (d + 3) M_Pr_addProduction [.ref 0, .int (nI t), .int q] S (.inr xIob, S.thrown) := by
  refine MetA.of rfl (by decide +kernel) (Nat.le_of_ble_eq_true rfl) ?_
  refine ev_aload_n i_Pr_addProduction_0 rfl ?_
  refine ev_iload_n i_Pr_addProduction_1 rfl ?_
  refine ev_callV1 i_Pr_addProduction_2 rfl h.1 (Nat.le_of_ble_eq_true rfl) (x_tableAt h ht) ?_
  refine ev_astore_n i_Pr_addProduction_5 (Nat.le_of_ble_eq_true rfl) ?_
  refine ev_iload_n i_Pr_addProduction_6 rfl ?_
  exact ev_callS1x rfl i_Pr_addProduction_7 rfl (Nat.le_of_ble_eq_true rfl) (x_checkLetter_no hq)
theorem x_addProd_2 {scr : Scr} {l : Launch} {S : Sto} {σ : Sg} {t a0 d : Nat} (h : XInv σ S) (ht : t < 3) (ha0 : a0 < 6) (hw : ¬ (isW σ.1 ∧ σ.1.length ≤ 4)) : MetA scr l (d + 3) M_Pr_addProduction [.ref 0, .int (nI t), .int (nI a0)] S (.inr xIae, S.thrown) := by
  refine MetA.of rfl (by decide +kernel) (Nat.le_of_ble_eq_true rfl) ?_
  refine ev_aload_n i_Pr_addProduction_0 rfl ?_
  refine ev_iload_n i_Pr_addProduction_1 rfl ?_
  refine ev_callV1 i_Pr_addProduction_2 rfl h.1 (Nat.le_of_ble_eq_true rfl) (x_tableAt h ht) ?_
  refine ev_astore_n i_Pr_addProduction_5 (Nat.le_of_ble_eq_true rfl) ?_
  refine ev_iload_n i_Pr_addProduction_6 rfl ?_
  refine ev_callS1 i_Pr_addProduction_7 rfl (Nat.le_of_ble_eq_true rfl) (x_checkLetter ha0) ?_
  refine ev_aload_n i_Pr_addProduction_10 rfl ?_
  refine ev_iconstN (v := 4) i_Pr_addProduction_11 (by decide) ?_
  exact ev_callV1x rfl i_Pr_addProduction_12 rfl h.1 (Nat.le_of_ble_eq_true rfl) (x_checkWord_no h (by omega) hw)
theorem x_prodCount_1t {scr : Scr} {l : Launch} {S : Sto} {σ : Sg} {p q : Int32} {d : Nat} (h : XInv σ S) (hp : ¬ inR 3 p) : MetA scr l (d + 1) M_Pr_productionCount [.ref 0, .int p, .int q] S (.inr xIob, S.thrown) := by
  refine MetA.of rfl (by decide +kernel) (Nat.le_of_ble_eq_true rfl) ?_
  refine ev_aload_n i_Pr_productionCount_0 rfl ?_
  refine ev_iload_n i_Pr_productionCount_1 rfl ?_
  exact ev_callV1x rfl i_Pr_productionCount_2 rfl h.1 (Nat.le_of_ble_eq_true rfl) (x_tableAt_no hp)
theorem x_prodCount_1l0 {scr : Scr} {l : Launch} {S : Sto} {σ : Sg} {t : Nat} {q : Int32} {d : Nat} (h : XInv σ S) (ht : t < 3) (hq : ¬ inR 6 q) : MetA scr l (d + 1) M_Pr_productionCount [.ref 0, .int (nI t), .int q] S (.inr xIob, S.thrown) := by
  refine MetA.of rfl (by decide +kernel) (Nat.le_of_ble_eq_true rfl) ?_
  refine ev_aload_n i_Pr_productionCount_0 rfl ?_
  refine ev_iload_n i_Pr_productionCount_1 rfl ?_
  refine ev_callV1 i_Pr_productionCount_2 rfl h.1 (Nat.le_of_ble_eq_true rfl) (x_tableAt h ht) ?_
  refine ev_astore_n i_Pr_productionCount_5 (Nat.le_of_ble_eq_true rfl) ?_
  refine ev_iload_n i_Pr_productionCount_6 rfl ?_
  exact ev_callS1x rfl i_Pr_productionCount_7 rfl (Nat.le_of_ble_eq_true rfl) (x_checkLetter_no hq)
theorem x_setRule_1t {scr : Scr} {l : Launch} {S : Sto} {σ : Sg} {p q r : Int32} {d : Nat} (h : XInv σ S) (hp : ¬ inR 3 p) : MetA scr l (d + 3) M_Pr_setContextRule [.ref 0, .int p, .int q, .int r] S (.inr xIob, S.thrown) := by
  refine MetA.of rfl (by decide +kernel) (Nat.le_of_ble_eq_true rfl) ?_
  refine ev_aload_n i_Pr_setContextRule_0 rfl ?_
  refine ev_iload_n i_Pr_setContextRule_1 rfl ?_
  exact ev_callV1x rfl i_Pr_setContextRule_2 rfl h.1 (Nat.le_of_ble_eq_true rfl) (x_tableAt_no hp)
theorem x_setRule_1l0 {scr : Scr} {l : Launch} {S : Sto} {σ : Sg} {t : Nat} {q r : Int32} {d : Nat} (h : XInv σ S) (ht : t < 3) (hq : ¬ inR 6 q) : MetA scr l (d + 3) M_Pr_setContextRule [.ref 0, .int (nI t), .int q, .int r] S (.inr xIob, S.thrown) := by
  refine MetA.of rfl (by decide +kernel) (Nat.le_of_ble_eq_true rfl) ?_
  refine ev_aload_n i_Pr_setContextRule_0 rfl ?_
  refine ev_iload_n i_Pr_setContextRule_1 rfl ?_
  refine ev_callV1 i_Pr_setContextRule_2 rfl h.1 (Nat.le_of_ble_eq_true rfl) (x_tableAt h ht) ?_
  refine ev_astore i_Pr_setContextRule_5 (Nat.le_of_ble_eq_true rfl) ?_
  refine ev_iload_n i_Pr_setContextRule_7 rfl ?_
  exact ev_callS1x rfl i_Pr_setContextRule_8 rfl (Nat.le_of_ble_eq_true rfl) (x_checkLetter_no hq)
theorem x_setRule_1l1 {scr : Scr} {l : Launch} {S : Sto} {σ : Sg} {t a0 : Nat} {r : Int32} {d : Nat} (h : XInv σ S) (ht : t < 3) (ha0 : a0 < 6) (hq : ¬ inR 6 r) : MetA scr l (d + 3) M_Pr_setContextRule [.ref 0, .int (nI t), .int (nI a0), .int r] S (.inr xIob, S.thrown) := by
  refine MetA.of rfl (by decide +kernel) (Nat.le_of_ble_eq_true rfl) ?_
  refine ev_aload_n i_Pr_setContextRule_0 rfl ?_
  refine ev_iload_n i_Pr_setContextRule_1 rfl ?_
  refine ev_callV1 i_Pr_setContextRule_2 rfl h.1 (Nat.le_of_ble_eq_true rfl) (x_tableAt h ht) ?_
  refine ev_astore i_Pr_setContextRule_5 (Nat.le_of_ble_eq_true rfl) ?_
  refine ev_iload_n i_Pr_setContextRule_7 rfl ?_
  refine ev_callS1 i_Pr_setContextRule_8 rfl (Nat.le_of_ble_eq_true rfl) (x_checkLetter ha0) ?_
  refine ev_iload_n i_Pr_setContextRule_11 rfl ?_
  exact ev_callS1x rfl i_Pr_setContextRule_12 rfl (Nat.le_of_ble_eq_true rfl) (x_checkLetter_no hq)
theorem x_setRule_2 {scr : Scr} {l : Launch} {S : Sto} {σ : Sg} {t a0 a1 d : Nat} (h : XInv σ S) (ht : t < 3) (ha0 : a0 < 6) (ha1 : a1 < 6) (hw : ¬ (isW σ.1 ∧ σ.1.length ≤ 4)) : MetA scr l (d + 3) M_Pr_setContextRule [.ref 0, .int (nI t), .int (nI a0), .int (nI a1)] S (.inr xIae, S.thrown) := by
  refine MetA.of rfl (by decide +kernel) (Nat.le_of_ble_eq_true rfl) ?_
  refine ev_aload_n i_Pr_setContextRule_0 rfl ?_
  refine ev_iload_n i_Pr_setContextRule_1 rfl ?_
  refine ev_callV1 i_Pr_setContextRule_2 rfl h.1 (Nat.le_of_ble_eq_true rfl) (x_tableAt h ht) ?_
  refine ev_astore i_Pr_setContextRule_5 (Nat.le_of_ble_eq_true rfl) ?_
  refine ev_iload_n i_Pr_setContextRule_7 rfl ?_
  refine ev_callS1 i_Pr_setContextRule_8 rfl (Nat.le_of_ble_eq_true rfl) (x_checkLetter ha0) ?_
  refine ev_iload_n i_Pr_setContextRule_11 rfl ?_
  refine ev_callS1 i_Pr_setContextRule_12 rfl (Nat.le_of_ble_eq_true rfl) (x_checkLetter ha1) ?_
  refine ev_aload_n i_Pr_setContextRule_15 rfl ?_
  refine ev_iconstN (v := 4) i_Pr_setContextRule_16 (by decide) ?_
  exact ev_callV1x rfl i_Pr_setContextRule_17 rfl h.1 (Nat.le_of_ble_eq_true rfl) (x_checkWord_no h (by omega) hw)
theorem x_delRule_1t {scr : Scr} {l : Launch} {S : Sto} {σ : Sg} {p q r : Int32} {d : Nat} (h : XInv σ S) (hp : ¬ inR 3 p) : MetA scr l (d + 3) M_Pr_removeContextRule [.ref 0, .int p, .int q, .int r] S (.inr xIob, S.thrown) := by
  refine MetA.of rfl (by decide +kernel) (Nat.le_of_ble_eq_true rfl) ?_
  refine ev_aload_n i_Pr_removeContextRule_0 rfl ?_
  refine ev_iload_n i_Pr_removeContextRule_1 rfl ?_
  exact ev_callV1x rfl i_Pr_removeContextRule_2 rfl h.1 (Nat.le_of_ble_eq_true rfl) (x_tableAt_no hp)
theorem x_delRule_1l0 {scr : Scr} {l : Launch} {S : Sto} {σ : Sg} {t : Nat} {q r : Int32} {d : Nat} (h : XInv σ S) (ht : t < 3) (hq : ¬ inR 6 q) : MetA scr l (d + 3) M_Pr_removeContextRule [.ref 0, .int (nI t), .int q, .int r] S (.inr xIob, S.thrown) := by
  refine MetA.of rfl (by decide +kernel) (Nat.le_of_ble_eq_true rfl) ?_
  refine ev_aload_n i_Pr_removeContextRule_0 rfl ?_
  refine ev_iload_n i_Pr_removeContextRule_1 rfl ?_
  refine ev_callV1 i_Pr_removeContextRule_2 rfl h.1 (Nat.le_of_ble_eq_true rfl) (x_tableAt h ht) ?_
  refine ev_astore i_Pr_removeContextRule_5 (Nat.le_of_ble_eq_true rfl) ?_
  refine ev_iload_n i_Pr_removeContextRule_7 rfl ?_
  exact ev_callS1x rfl i_Pr_removeContextRule_8 rfl (Nat.le_of_ble_eq_true rfl) (x_checkLetter_no hq)
theorem x_delRule_1l1 {scr : Scr} {l : Launch} {S : Sto} {σ : Sg} {t a0 : Nat} {r : Int32} {d : Nat} (h : XInv σ S) (ht : t < 3) (ha0 : a0 < 6) (hq : ¬ inR 6 r) : MetA scr l (d + 3) M_Pr_removeContextRule [.ref 0, .int (nI t), .int (nI a0), .int r] S (.inr xIob, S.thrown) := by
  refine MetA.of rfl (by decide +kernel) (Nat.le_of_ble_eq_true rfl) ?_
  refine ev_aload_n i_Pr_removeContextRule_0 rfl ?_
  refine ev_iload_n i_Pr_removeContextRule_1 rfl ?_
  refine ev_callV1 i_Pr_removeContextRule_2 rfl h.1 (Nat.le_of_ble_eq_true rfl) (x_tableAt h ht) ?_
  refine ev_astore i_Pr_removeContextRule_5 (Nat.le_of_ble_eq_true rfl) ?_
  refine ev_iload_n i_Pr_removeContextRule_7 rfl ?_
  refine ev_callS1 i_Pr_removeContextRule_8 rfl (Nat.le_of_ble_eq_true rfl) (x_checkLetter ha0) ?_
  refine ev_iload_n i_Pr_removeContextRule_11 rfl ?_
  exact ev_callS1x rfl i_Pr_removeContextRule_12 rfl (Nat.le_of_ble_eq_true rfl) (x_checkLetter_no hq)
theorem x_isDet_1t {scr : Scr} {l : Launch} {S : Sto} {σ : Sg} {p : Int32} {d : Nat} (h : XInv σ S) (hp : ¬ inR 3 p) : MetA scr l (d + 1) M_Pr_isDeterministic [.ref 0, .int p] S (.inr xIob, S.thrown) := by
  refine MetA.of rfl (by decide +kernel) (Nat.le_of_ble_eq_true rfl) ?_
  refine ev_aload_n i_Pr_isDeterministic_0 rfl ?_
  refine ev_iload_n i_Pr_isDeterministic_1 rfl ?_
  exact ev_callV1x rfl i_Pr_isDeterministic_2 rfl h.1 (Nat.le_of_ble_eq_true rfl) (x_tableAt_no hp)
theorem x_isPlain_1t {scr : Scr} {l : Launch} {S : Sto} {σ : Sg} {p : Int32} {d : Nat} (h : XInv σ S) (hp : ¬ inR 3 p) : MetA scr l (d + 1) M_Pr_isPlain [.ref 0, .int p] S (.inr xIob, S.thrown) := by
  refine MetA.of rfl (by decide +kernel) (Nat.le_of_ble_eq_true rfl) ?_
  refine ev_aload_n i_Pr_isPlain_0 rfl ?_
  refine ev_iload_n i_Pr_isPlain_1 rfl ?_
  exact ev_callV1x rfl i_Pr_isPlain_2 rfl h.1 (Nat.le_of_ble_eq_true rfl) (x_tableAt_no hp)
theorem x_addProd {scr : Scr} {l : Launch} {S : Sto} {σ : Sg} {t a : Nat} (h : XInv σ S) (ht : t < 3) (ha : a < 6) (hw : isW σ.1) (hl : σ.1.length ≤ 4) (h3 : ((σ.2.1.1 t).1 a).length < 3) : ∃ S1, (∀ d, MetA scr l (d + 3) M_Pr_addProduction [.ref 0, .int (nI t), .int (nI a)] S (.inl (some (.int (nI ((σ.2.1.1 t).1 a).length))), S1)) ∧ XInv (σ.1, setTab σ.2.1 t (addList (σ.2.1.1 t) a (wOf σ.1)), σ.2.2) S1 ∧ Fr xK S S1 := by
  obtain ⟨h0, hT, hL, hSv, hH, hRs, hrest⟩ := id h
  obtain ⟨rc, tb, -⟩ := tab_obj (live_tab h ht)
  obtain ⟨S1, m1, t2, f1⟩ := t_addList (scr := scr) (l := l) (live_tab h ht) hT hw hl ha h3 (by simp; omega) (by simp; omega)
  refine ⟨S1, fun d => ?_, h.live f1 (tab_hk ht) (St_tab hL ht t2 f1), f1.x (fun k hk => by have := tab_hk ht k hk; omega)⟩
  refine MetA.of rfl (by decide +kernel) (Nat.le_of_ble_eq_true rfl) ?_
  refine ev_aload_n i_Pr_addProduction_0 rfl ?_
  refine ev_iload_n i_Pr_addProduction_1 rfl ?_
  refine ev_callV1 i_Pr_addProduction_2 rfl h0 (Nat.le_of_ble_eq_true rfl) (x_tableAt h ht) ?_
  refine ev_astore_n i_Pr_addProduction_5 (Nat.le_of_ble_eq_true rfl) ?_
  refine ev_iload_n i_Pr_addProduction_6 rfl ?_
  refine ev_callS1 i_Pr_addProduction_7 rfl (Nat.le_of_ble_eq_true rfl) (x_checkLetter ha) ?_
  refine ev_aload_n i_Pr_addProduction_10 rfl ?_
  refine ev_iconstN (v := 4) i_Pr_addProduction_11 (by decide) ?_
  refine ev_callV1 i_Pr_addProduction_12 rfl h0 (Nat.le_of_ble_eq_true rfl) (x_checkWord h (by omega) hw hl) ?_
  refine ev_aload_n i_Pr_addProduction_15 rfl ?_
  refine ev_iload_n i_Pr_addProduction_16 rfl ?_
  refine ev_aload_n i_Pr_addProduction_17 rfl ?_
  refine ev_get i_Pr_addProduction_18 h0 rfl ?_
  refine ev_callV2 i_Pr_addProduction_21 rfl tb (Nat.le_of_ble_eq_true rfl) (m1 _) ?_
  refine ev_istore i_Pr_addProduction_24 (Nat.le_of_ble_eq_true rfl) ?_
  refine ev_iload i_Pr_addProduction_26 rfl ?_
  refine ev_iconst (v := -1) i_Pr_addProduction_28 (by decide) ?_
  refine ev_icmp_ne i_Pr_addProduction_29 (fun hc_29 => ?_) (fun hc_29 => ?_)
  · skip
    refine ev_iload i_Pr_addProduction_42 rfl ?_
    exact ev_iret i_Pr_addProduction_44 rfl (by first | rfl | decide)
  · skip
    exact absurd hc_29 (nI_ne_m1 (by omega))
theorem x_addProd_3 {scr : Scr} {l : Launch} {S : Sto} {σ : Sg} {t a d : Nat} (h : XInv σ S) (ht : t < 3) (ha : a < 6) (hw : isW σ.1) (hl : σ.1.length ≤ 4) (h3 : ((σ.2.1.1 t).1 a).length = 3) : MetA scr l (d + 3) M_Pr_addProduction [.ref 0, .int (nI t), .int (nI a)] S (.inr xIse, S.thrown) := by
  obtain ⟨h0, hT, hL, hSv, hH, hRs, hrest⟩ := id h
  obtain ⟨rc, tb, -⟩ := tab_obj (live_tab h ht)
  refine MetA.of rfl (by decide +kernel) (Nat.le_of_ble_eq_true rfl) ?_
  refine ev_aload_n i_Pr_addProduction_0 rfl ?_
  refine ev_iload_n i_Pr_addProduction_1 rfl ?_
  refine ev_callV1 i_Pr_addProduction_2 rfl h0 (Nat.le_of_ble_eq_true rfl) (x_tableAt h ht) ?_
  refine ev_astore_n i_Pr_addProduction_5 (Nat.le_of_ble_eq_true rfl) ?_
  refine ev_iload_n i_Pr_addProduction_6 rfl ?_
  refine ev_callS1 i_Pr_addProduction_7 rfl (Nat.le_of_ble_eq_true rfl) (x_checkLetter ha) ?_
  refine ev_aload_n i_Pr_addProduction_10 rfl ?_
  refine ev_iconstN (v := 4) i_Pr_addProduction_11 (by decide) ?_
  refine ev_callV1 i_Pr_addProduction_12 rfl h0 (Nat.le_of_ble_eq_true rfl) (x_checkWord h (by omega) hw hl) ?_
  refine ev_aload_n i_Pr_addProduction_15 rfl ?_
  refine ev_iload_n i_Pr_addProduction_16 rfl ?_
  refine ev_aload_n i_Pr_addProduction_17 rfl ?_
  refine ev_get i_Pr_addProduction_18 h0 rfl ?_
  refine ev_callV2 i_Pr_addProduction_21 rfl tb (Nat.le_of_ble_eq_true rfl) (t_addList_no (live_tab h ht) ha h3) ?_
  refine ev_istore i_Pr_addProduction_24 (Nat.le_of_ble_eq_true rfl) ?_
  refine ev_iload i_Pr_addProduction_26 rfl ?_
  refine ev_iconst (v := -1) i_Pr_addProduction_28 (by decide) ?_
  refine ev_icmp_ne i_Pr_addProduction_29 (fun hc_29 => ?_) (fun hc_29 => ?_)
  · skip
    exact absurd rfl hc_29
  · skip
    exact ev_throw i_Pr_addProduction_32 ex_Ise rfl rfl (Nat.le_of_ble_eq_true rfl)
theorem x_prodCount {scr : Scr} {l : Launch} {S : Sto} {σ : Sg} {t a d : Nat} (h : XInv σ S) (ht : t < 3) (ha : a < 6) : MetA scr l (d + 1) M_Pr_productionCount [.ref 0, .int (nI t), .int (nI a)] S (.inl (some (.int (nI ((σ.2.1.1 t).1 a).length))), S) := by
  obtain ⟨h0, hT, hL, hSv, hH, hRs, hrest⟩ := id h
  obtain ⟨rc, fs, fl, fe, tb, hR⟩ := live_tab h ht
  refine MetA.of rfl (by decide +kernel) (Nat.le_of_ble_eq_true rfl) ?_
  refine ev_aload_n i_Pr_productionCount_0 rfl ?_
  refine ev_iload_n i_Pr_productionCount_1 rfl ?_
  refine ev_callV1 i_Pr_productionCount_2 rfl h0 (Nat.le_of_ble_eq_true rfl) (x_tableAt h ht) ?_
  refine ev_astore_n i_Pr_productionCount_5 (Nat.le_of_ble_eq_true rfl) ?_
  refine ev_iload_n i_Pr_productionCount_6 rfl ?_
  refine ev_callS1 i_Pr_productionCount_7 rfl (Nat.le_of_ble_eq_true rfl) (x_checkLetter ha) ?_
  refine ev_aload_n i_Pr_productionCount_10 rfl ?_
  refine ev_get i_Pr_productionCount_11 tb.1 rfl ?_
  refine ev_iload_n i_Pr_productionCount_14 rfl ?_
  refine ev_ialdN i_Pr_productionCount_15 tb.2.1 (by omega) (by decide) ?_
  rw [(hR.1 a ha).1]
  exact ev_iret i_Pr_productionCount_16 rfl (by first | rfl | decide)
theorem x_isDet {scr : Scr} {l : Launch} {S : Sto} {σ : Sg} {t d : Nat} (h : XInv σ S) (ht : t < 3) : (isDet (σ.2.1.1 t) → MetA scr l (d + 1) M_Pr_isDeterministic [.ref 0, .int (nI t)] S (.inl (some (.int (nI 1))), S)) ∧ (¬ isDet (σ.2.1.1 t) → MetA scr l (d + 1) M_Pr_isDeterministic [.ref 0, .int (nI t)] S (.inl (some (.int (nI 0))), S)) := by
  obtain ⟨h0, hT, hL, hSv, hH, hRs, hrest⟩ := id h
  obtain ⟨rc, tb, -⟩ := tab_obj (live_tab h ht)
  refine ⟨fun hq => ?_, fun hq => ?_⟩
  · refine MetA.of rfl (by decide +kernel) (Nat.le_of_ble_eq_true rfl) ?_
    refine ev_aload_n i_Pr_isDeterministic_0 rfl ?_
    refine ev_iload_n i_Pr_isDeterministic_1 rfl ?_
    refine ev_callV1 i_Pr_isDeterministic_2 rfl h0 (Nat.le_of_ble_eq_true rfl) (x_tableAt h ht) ?_
    refine ev_callV0 i_Pr_isDeterministic_5 rfl tb (Nat.le_of_ble_eq_true rfl) ((t_det (live_tab h ht)).1 hq) ?_
    exact ev_iret i_Pr_isDeterministic_8 rfl (by first | rfl | decide)
  · refine MetA.of rfl (by decide +kernel) (Nat.le_of_ble_eq_true rfl) ?_
    refine ev_aload_n i_Pr_isDeterministic_0 rfl ?_
    refine ev_iload_n i_Pr_isDeterministic_1 rfl ?_
    refine ev_callV1 i_Pr_isDeterministic_2 rfl h0 (Nat.le_of_ble_eq_true rfl) (x_tableAt h ht) ?_
    refine ev_callV0 i_Pr_isDeterministic_5 rfl tb (Nat.le_of_ble_eq_true rfl) ((t_det (live_tab h ht)).2 hq) ?_
    exact ev_iret i_Pr_isDeterministic_8 rfl (by first | rfl | decide)
theorem x_isPlain {scr : Scr} {l : Launch} {S : Sto} {σ : Sg} {t d : Nat} (h : XInv σ S) (ht : t < 3) : (rcount (σ.2.1.1 t) = 0 → MetA scr l (d + 1) M_Pr_isPlain [.ref 0, .int (nI t)] S (.inl (some (.int (nI 1))), S)) ∧ (rcount (σ.2.1.1 t) ≠ 0 → MetA scr l (d + 1) M_Pr_isPlain [.ref 0, .int (nI t)] S (.inl (some (.int (nI 0))), S)) := by
  obtain ⟨h0, hT, hL, hSv, hH, hRs, hrest⟩ := id h
  obtain ⟨rc, tb, hrc⟩ := tab_obj (live_tab h ht)
  have h36 := rcount_le (σ.2.1.1 t)
  refine ⟨fun hq => ?_, fun hq => ?_⟩
  · refine MetA.of rfl (by decide +kernel) (Nat.le_of_ble_eq_true rfl) ?_
    refine ev_aload_n i_Pr_isPlain_0 rfl ?_
    refine ev_iload_n i_Pr_isPlain_1 rfl ?_
    refine ev_callV1 i_Pr_isPlain_2 rfl h0 (Nat.le_of_ble_eq_true rfl) (x_tableAt h ht) ?_
    refine ev_get i_Pr_isPlain_5 tb rfl ?_
    refine ev_if_neN i_Pr_isPlain_8 (by omega) (fun hc_8 => ?_) (fun hc_8 => ?_)
    · skip
      exfalso; omega
    · skip
      refine ev_iconstN (v := 1) i_Pr_isPlain_11 (by decide) ?_
      refine ev_goto i_Pr_isPlain_12 ?_
      exact ev_iret i_Pr_isPlain_16 rfl (by first | rfl | decide)
  · refine MetA.of rfl (by decide +kernel) (Nat.le_of_ble_eq_true rfl) ?_
    refine ev_aload_n i_Pr_isPlain_0 rfl ?_
    refine ev_iload_n i_Pr_isPlain_1 rfl ?_
    refine ev_callV1 i_Pr_isPlain_2 rfl h0 (Nat.le_of_ble_eq_true rfl) (x_tableAt h ht) ?_
    refine ev_get i_Pr_isPlain_5 tb rfl ?_
    refine ev_if_neN i_Pr_isPlain_8 (by omega) (fun hc_8 => ?_) (fun hc_8 => ?_)
    · skip
      refine ev_iconstN (v := 0) i_Pr_isPlain_15 (by decide) ?_
      exact ev_iret i_Pr_isPlain_16 rfl (by first | rfl | decide)
    · skip
      exfalso; omega

/-! ParallelRewriting: sequences -/
def detB (T : TabV) : Bool := allB (fun a => decide ((T.1 a).length = 1)) 6
theorem detB_iff {T : TabV} : detB T = true ↔ isDet T := by
  unfold detB isDet
  rw [allB_iff]
  exact ⟨fun h a ha => of_decide_eq_true (h a ha), fun h a ha => decide_eq_true (h a ha)⟩
def allDet (C : Core) : Prop := ∀ t, t < 3 → isDet (C.1 t)
theorem XInv.sqs {σ : Sg} {S : Sto} (h : XInv σ S) : SqOK S := h.2.2.2.2.2.2.2.2.2.2.1
theorem x_search {scr : Scr} {l : Launch} {S : Sto} {σ : Sg} {n : Nat} (h : XInv σ S) (hn : n < 6) (hd : allDet σ.2.1) : ∃ S1, (∀ d, MetA scr l (d + 10) M_Pr_searchSequences [.ref 0, .int (nI n)] S (.inl none, S1)) ∧ S1.1[81]? = some (sqO (sqL σ.2.1.1 σ.2.1.2.2.1 n σ.2.1.2.1 0).length (fstR 0 (-1) (sqL σ.2.1.1 σ.2.1.2.2.1 n σ.2.1.2.1 0))) ∧ XInv σ S1 ∧ Fr xK S S1 := by
  obtain ⟨l1, ⟨lf, l2, l3⟩, -⟩ := id h.2.2.1
  obtain ⟨x, y, f, hs1, -⟩ := id h.sqs
  obtain ⟨S1, m1, o1, s1, f1⟩ := q_run (scr := scr) (l := l) h.sqs h.2.2.1 (show n ≤ 5 by omega)
  refine ⟨S1, fun d => ?_, o1, h.sq f1 (fun k hk => by rw [sqA_mem] at hk; omega) s1, f1.x (fun k hk => by rw [sqA_mem] at hk; omega)⟩
  have m1 := m1 (d + (5 - n))
  rw [show d + (5 - n) + n + 4 = d + 9 from by omega] at m1
  have hf : ∀ i, i < 3 → (!detB (σ.2.1.1 i)) = false := fun i hi => by rw [detB_iff.mpr (hd i hi)]; rfl
  refine MetA.of rfl (by decide +kernel) (Nat.le_of_ble_eq_true rfl) ?_
  refine ev_iload_n i_Pr_searchSequences_0 rfl ?_
  refine ev_if_lt_N i_Pr_searchSequences_1 (by omega) (fun hc_1 => ?_) (fun hc_1 => ?_)
  · skip
    exfalso; omega
  · skip
    refine ev_iload_n i_Pr_searchSequences_4 rfl ?_
    refine ev_iconstN (v := 5) i_Pr_searchSequences_5 (by decide) ?_
    refine ev_icmp_leN i_Pr_searchSequences_6 (by omega) (by omega) (fun hc_6 => ?_) (fun hc_6 => ?_)
    · skip
      refine ev_iconstN (v := 0) i_Pr_searchSequences_20 (by decide) ?_
      refine ev_ist_n_2 i_Pr_searchSequences_21 rfl ?_
      refine ev_loop (n := 3) (fun i => [some (.ref 0), some (.int (nI n)), some (.int (nI i))]) (fun i => S) (fun i hi ki => ?_) ?_
      · try dsimp only at ki ⊢
        have hfi : detB (σ.2.1.1 i) = true := by simpa using hf i (by omega)
        obtain ⟨rc, tb, -⟩ := tab_obj (live_tab h (show i < 3 by omega))
        refine ev_iload_n i_Pr_searchSequences_22 rfl ?_
        refine ev_iconstN (v := 3) i_Pr_searchSequences_23 (by decide) ?_
        refine ev_icmp_geN i_Pr_searchSequences_24 (by omega) (by omega) (fun hc_24 => ?_) (fun hc_24 => ?_)
        · skip
          exfalso; omega
        · skip
          refine ev_aload_n i_Pr_searchSequences_27 rfl ?_
          refine ev_get i_Pr_searchSequences_28 h.1 rfl ?_
          refine ev_get i_Pr_searchSequences_31 l1 rfl ?_
          refine ev_iload_n i_Pr_searchSequences_34 rfl ?_
          refine ev_qaldN i_Pr_searchSequences_35 l2 (by omega) (by decide) (l3 i (by omega)) ?_
          refine ev_callV0 i_Pr_searchSequences_36 rfl tb (Nat.le_of_ble_eq_true rfl) ((t_det (live_tab h (by omega))).1 (detB_iff.mp hfi)) ?_
          refine ev_if_neN i_Pr_searchSequences_39 (by omega) (fun hc_39 => ?_) (fun hc_39 => ?_)
          · skip
            refine ev_iincN_2 (c := 1) i_Pr_searchSequences_53 (by decide) rfl ?_
            refine ev_goto i_Pr_searchSequences_56 ?_
            exact ki
          · skip
            exfalso; omega
      · try dsimp only
        refine ev_iload_n i_Pr_searchSequences_22 rfl ?_
        refine ev_iconstN (v := 3) i_Pr_searchSequences_23 (by decide) ?_
        refine ev_icmp_geN i_Pr_searchSequences_24 (by omega) (by omega) (fun hc_24 => ?_) (fun hc_24 => ?_)
        · skip
          refine ev_aload_n i_Pr_searchSequences_59 rfl ?_
          refine ev_get i_Pr_searchSequences_60 h.1 rfl ?_
          refine ev_aload_n i_Pr_searchSequences_63 rfl ?_
          refine ev_get i_Pr_searchSequences_64 h.1 rfl ?_
          refine ev_iload_n i_Pr_searchSequences_67 rfl ?_
          refine ev_callV2 i_Pr_searchSequences_68 rfl hs1 (Nat.le_of_ble_eq_true rfl) m1 ?_
          exact ev_vret i_Pr_searchSequences_71 rfl
        · skip
          exfalso; omega
    · skip
      exfalso; omega
theorem x_search_1 {scr : Scr} {l : Launch} {S : Sto} {q : Int32} {d : Nat} (hq : ¬ inR 6 q) : MetA scr l (d + 10) M_Pr_searchSequences [.ref 0, .int q] S (.inr xIae, S.thrown) := by
  refine MetA.of rfl (by decide +kernel) (Nat.le_of_ble_eq_true rfl) ?_
  refine ev_iload_n i_Pr_searchSequences_0 rfl ?_
  refine ev_if_lt i_Pr_searchSequences_1 (fun hc_1 => ?_) (fun hc_1 => ?_)
  · skip
    exact ev_throw i_Pr_searchSequences_9 ex_Iae rfl rfl (Nat.le_of_ble_eq_true rfl)
  · skip
    refine ev_iload_n i_Pr_searchSequences_4 rfl ?_
    refine ev_iconstN (v := 5) i_Pr_searchSequences_5 (by decide) ?_
    refine ev_icmp_le i_Pr_searchSequences_6 (fun hc_6 => ?_) (fun hc_6 => ?_)
    · skip
      exact absurd hc_6 (not_le_of (by decide) hq hc_1)
    · skip
      exact ev_throw i_Pr_searchSequences_9 ex_Iae rfl rfl (Nat.le_of_ble_eq_true rfl)
theorem x_search_2 {scr : Scr} {l : Launch} {S : Sto} {σ : Sg} {n d : Nat} (h : XInv σ S) (hn : n < 6) (hd : ¬ allDet σ.2.1) : MetA scr l (d + 10) M_Pr_searchSequences [.ref 0, .int (nI n)] S (.inr xIse, S.thrown) := by
  obtain ⟨l1, ⟨lf, l2, l3⟩, -⟩ := id h.2.2.1
  rcases first_or (fun i => !detB (σ.2.1.1 i)) 3 with hf | ⟨m, hm, hne, hf⟩
  · exact absurd (fun t ht => detB_iff.mp (by simpa using hf t ht)) hd
  · have hd : ¬ isDet (σ.2.1.1 m) := fun q => by rw [← detB_iff] at q; rw [q] at hne; cases hne
    refine MetA.of rfl (by decide +kernel) (Nat.le_of_ble_eq_true rfl) ?_
    refine ev_iload_n i_Pr_searchSequences_0 rfl ?_
    refine ev_if_lt_N i_Pr_searchSequences_1 (by omega) (fun hc_1 => ?_) (fun hc_1 => ?_)
    · skip
      exfalso; omega
    · skip
      refine ev_iload_n i_Pr_searchSequences_4 rfl ?_
      refine ev_iconstN (v := 5) i_Pr_searchSequences_5 (by decide) ?_
      refine ev_icmp_leN i_Pr_searchSequences_6 (by omega) (by omega) (fun hc_6 => ?_) (fun hc_6 => ?_)
      · skip
        refine ev_iconstN (v := 0) i_Pr_searchSequences_20 (by decide) ?_
        refine ev_ist_n_2 i_Pr_searchSequences_21 rfl ?_
        refine ev_loop (n := m) (fun i => [some (.ref 0), some (.int (nI n)), some (.int (nI i))]) (fun i => S) (fun i hi ki => ?_) ?_
        · try dsimp only at ki ⊢
          have hfi : detB (σ.2.1.1 i) = true := by simpa using hf i (by omega)
          obtain ⟨rc, tb, -⟩ := tab_obj (live_tab h (show i < 3 by omega))
          refine ev_iload_n i_Pr_searchSequences_22 rfl ?_
          refine ev_iconstN (v := 3) i_Pr_searchSequences_23 (by decide) ?_
          refine ev_icmp_geN i_Pr_searchSequences_24 (by omega) (by omega) (fun hc_24 => ?_) (fun hc_24 => ?_)
          · skip
            exfalso; omega
          · skip
            refine ev_aload_n i_Pr_searchSequences_27 rfl ?_
            refine ev_get i_Pr_searchSequences_28 h.1 rfl ?_
            refine ev_get i_Pr_searchSequences_31 l1 rfl ?_
            refine ev_iload_n i_Pr_searchSequences_34 rfl ?_
            refine ev_qaldN i_Pr_searchSequences_35 l2 (by omega) (by decide) (l3 i (by omega)) ?_
            refine ev_callV0 i_Pr_searchSequences_36 rfl tb (Nat.le_of_ble_eq_true rfl) ((t_det (live_tab h (by omega))).1 (detB_iff.mp hfi)) ?_
            refine ev_if_neN i_Pr_searchSequences_39 (by omega) (fun hc_39 => ?_) (fun hc_39 => ?_)
            · skip
              refine ev_iincN_2 (c := 1) i_Pr_searchSequences_53 (by decide) rfl ?_
              refine ev_goto i_Pr_searchSequences_56 ?_
              exact ki
            · skip
              exfalso; omega
        · try dsimp only
          obtain ⟨rc, tb, -⟩ := tab_obj (live_tab h (show m < 3 by omega))
          refine ev_iload_n i_Pr_searchSequences_22 rfl ?_
          refine ev_iconstN (v := 3) i_Pr_searchSequences_23 (by decide) ?_
          refine ev_icmp_geN i_Pr_searchSequences_24 (by omega) (by omega) (fun hc_24 => ?_) (fun hc_24 => ?_)
          · skip
            exfalso; omega
          · skip
            refine ev_aload_n i_Pr_searchSequences_27 rfl ?_
            refine ev_get i_Pr_searchSequences_28 h.1 rfl ?_
            refine ev_get i_Pr_searchSequences_31 l1 rfl ?_
            refine ev_iload_n i_Pr_searchSequences_34 rfl ?_
            refine ev_qaldN i_Pr_searchSequences_35 l2 (by omega) (by decide) (l3 m (by omega)) ?_
            refine ev_callV0 i_Pr_searchSequences_36 rfl tb (Nat.le_of_ble_eq_true rfl) ((t_det (live_tab h (by omega))).2 hd) ?_
            refine ev_if_neN i_Pr_searchSequences_39 (by omega) (fun hc_39 => ?_) (fun hc_39 => ?_)
            · skip
              exfalso; omega
            · skip
              exact ev_throw i_Pr_searchSequences_42 ex_Ise rfl rfl (Nat.le_of_ble_eq_true rfl)
      · skip
        exfalso; omega
theorem x_seqCount_1 {scr : Scr} {l : Launch} {S : Sto} {σ : Sg} {q : Int32} (h : XInv σ S) (hq : ¬ inR 6 q) : XThr scr l 11 M_Pr_sequenceCount [.ref 0, .int q] S xIae σ := by
  refine XThr.of h (fun d => ?_)
  refine MetA.of rfl (by decide +kernel) (Nat.le_of_ble_eq_true rfl) ?_
  refine ev_aload_n i_Pr_sequenceCount_0 rfl ?_
  refine ev_iload_n i_Pr_sequenceCount_1 rfl ?_
  exact ev_callV1x rfl i_Pr_sequenceCount_2 rfl h.1 (Nat.le_of_ble_eq_true rfl) (x_search_1 hq)
theorem x_seqCount_2 {scr : Scr} {l : Launch} {S : Sto} {σ : Sg} {n : Nat} (h : XInv σ S) (hn : n < 6) (hd : ¬ allDet σ.2.1) : XThr scr l 11 M_Pr_sequenceCount [.ref 0, .int (nI n)] S xIse σ := by
  refine XThr.of h (fun d => ?_)
  refine MetA.of rfl (by decide +kernel) (Nat.le_of_ble_eq_true rfl) ?_
  refine ev_aload_n i_Pr_sequenceCount_0 rfl ?_
  refine ev_iload_n i_Pr_sequenceCount_1 rfl ?_
  exact ev_callV1x rfl i_Pr_sequenceCount_2 rfl h.1 (Nat.le_of_ble_eq_true rfl) (x_search_2 h hn hd)
theorem x_seqFirst_1 {scr : Scr} {l : Launch} {S : Sto} {σ : Sg} {q : Int32} (h : XInv σ S) (hq : ¬ inR 6 q) : XThr scr l 11 M_Pr_firstSequence [.ref 0, .int q] S xIae σ := by
  refine XThr.of h (fun d => ?_)
  refine MetA.of rfl (by decide +kernel) (Nat.le_of_ble_eq_true rfl) ?_
  refine ev_aload_n i_Pr_firstSequence_0 rfl ?_
  refine ev_iload_n i_Pr_firstSequence_1 rfl ?_
  exact ev_callV1x rfl i_Pr_firstSequence_2 rfl h.1 (Nat.le_of_ble_eq_true rfl) (x_search_1 hq)
theorem x_seqFirst_2 {scr : Scr} {l : Launch} {S : Sto} {σ : Sg} {n : Nat} (h : XInv σ S) (hn : n < 6) (hd : ¬ allDet σ.2.1) : XThr scr l 11 M_Pr_firstSequence [.ref 0, .int (nI n)] S xIse σ := by
  refine XThr.of h (fun d => ?_)
  refine MetA.of rfl (by decide +kernel) (Nat.le_of_ble_eq_true rfl) ?_
  refine ev_aload_n i_Pr_firstSequence_0 rfl ?_
  refine ev_iload_n i_Pr_firstSequence_1 rfl ?_
  exact ev_callV1x rfl i_Pr_firstSequence_2 rfl h.1 (Nat.le_of_ble_eq_true rfl) (x_search_2 h hn hd)
theorem x_seqCount {scr : Scr} {l : Launch} {S : Sto} {σ : Sg} {n : Nat} (h : XInv σ S) (hn : n < 6) (hd : allDet σ.2.1) : XRun scr l 11 M_Pr_sequenceCount [.ref 0, .int (nI n)] S (some (.int (nI (sqL σ.2.1.1 σ.2.1.2.2.1 n σ.2.1.2.1 0).length))) σ := by
  obtain ⟨S1, m1, o1, h1, f1⟩ := x_search (scr := scr) (l := l) h hn hd
  refine ⟨S1, fun d => ?_, h1, f1⟩
  refine MetA.of rfl (by decide +kernel) (Nat.le_of_ble_eq_true rfl) ?_
  refine ev_aload_n i_Pr_sequenceCount_0 rfl ?_
  refine ev_iload_n i_Pr_sequenceCount_1 rfl ?_
  refine ev_callV1 i_Pr_sequenceCount_2 rfl h.1 (Nat.le_of_ble_eq_true rfl) (m1 _) ?_
  refine ev_aload_n i_Pr_sequenceCount_5 rfl ?_
  refine ev_get i_Pr_sequenceCount_6 h1.1 rfl ?_
  refine ev_get i_Pr_sequenceCount_9 o1 rfl ?_
  exact ev_iret i_Pr_sequenceCount_12 rfl (by first | rfl | decide)
theorem x_seqFirst {scr : Scr} {l : Launch} {S : Sto} {σ : Sg} {n a : Nat} {L : List Nat} (h : XInv σ S) (hn : n < 6) (hd : allDet σ.2.1) (hL : sqL σ.2.1.1 σ.2.1.2.2.1 n σ.2.1.2.1 0 = a :: L) (ha : a < 2 ^ 31) : XRun scr l 11 M_Pr_firstSequence [.ref 0, .int (nI n)] S (some (.int (nI a))) σ := by
  obtain ⟨S1, m1, o1, h1, f1⟩ := x_search (scr := scr) (l := l) h hn hd
  rw [hL] at o1
  have o1 : S1.1[81]? = some (oB 7 [.ref 82, .int (nI (a :: L).length), .int (nI a)]) := o1
  refine ⟨S1, fun d => ?_, h1, f1⟩
  refine MetA.of rfl (by decide +kernel) (Nat.le_of_ble_eq_true rfl) ?_
  refine ev_aload_n i_Pr_firstSequence_0 rfl ?_
  refine ev_iload_n i_Pr_firstSequence_1 rfl ?_
  refine ev_callV1 i_Pr_firstSequence_2 rfl h.1 (Nat.le_of_ble_eq_true rfl) (m1 _) ?_
  refine ev_aload_n i_Pr_firstSequence_5 rfl ?_
  refine ev_get i_Pr_firstSequence_6 h1.1 rfl ?_
  refine ev_get i_Pr_firstSequence_9 o1 rfl ?_
  refine ev_iconst (v := -1) i_Pr_firstSequence_12 (by decide) ?_
  refine ev_icmp_ne i_Pr_firstSequence_13 (fun hc_13 => ?_) (fun hc_13 => ?_)
  · skip
    refine ev_aload_n i_Pr_firstSequence_27 rfl ?_
    refine ev_get i_Pr_firstSequence_28 h1.1 rfl ?_
    refine ev_get i_Pr_firstSequence_31 o1 rfl ?_
    exact ev_iret i_Pr_firstSequence_34 rfl (by first | rfl | decide)
  · skip
    exact absurd hc_13 (nI_ne_m1 ha)

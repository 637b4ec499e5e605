/-! adult words: what they are, the class Adults -/
/-- whether all productions of a list agree -/
def uniP (ps : List (List Nat)) : Bool := allB (fun k => decide (ps.getD 0 [] = ps.getD (1 + k) [])) (ps.length - 1)
/-- whether no choice matters -/
def oneI (T : TabV) (xs : List Nat) : Bool := allB (fun i => (ruleAt T xs i).isSome || uniP (T.1 (xs.getD i 0))) xs.length
def adB (T : TabV) (xs : List Nat) : Bool := oneI T xs && decide (stepW T xs (nI 0) = xs)
theorem bI_t : bI true = 1 := rfl
theorem bI_f : bI false = 0 := rfl
theorem t_sameP {scr : Scr} {l : Launch} {S : Sto} {t s u rc d : Nat} {fs fl fe : Nat → Int32} {p q : List Nat} (hT : TabIs S t (t + 1) (t + 2) (t + 3) rc fs fl fe) (hs : s < 54) (hu : u < 54) (hp : SlotR fl fe s p) (hq : SlotR fl fe u q) (hp4 : PrOK p) (hq4 : PrOK q) : MetA scr l (d + 1) M_Tb_sameProductions [.ref t, .int (nI s), .int (nI u)] S (.inl (some (.int (nI (bI (decide (p = q)))))), S) := by
  have h4a := hp4.1
  have h4b := hq4.1
  by_cases hl : p.length = q.length
  · rcases first_or (fun i => decide (p.getD i 0 ≠ q.getD i 0)) p.length with hf | ⟨m, hm, hne, hf⟩
    · have e : p = q := list_ext hl (fun j hj => by have := hf j hj; simpa using this)
      rw [decide_eq_true e, bI_t]
      refine MetA.of rfl (by decide +kernel) (Nat.le_of_ble_eq_true rfl) ?_
      refine ev_aload_n i_Tb_sameProductions_0 rfl ?_
      refine ev_get i_Tb_sameProductions_1 hT.1 rfl ?_
      refine ev_iload_n i_Tb_sameProductions_4 rfl ?_
      refine ev_ialdN i_Tb_sameProductions_5 hT.2.2.1 hs (by decide) ?_
      rw [hp.1]
      refine ev_aload_n i_Tb_sameProductions_6 rfl ?_
      refine ev_get i_Tb_sameProductions_7 hT.1 rfl ?_
      refine ev_iload_n i_Tb_sameProductions_10 rfl ?_
      refine ev_ialdN i_Tb_sameProductions_11 hT.2.2.1 hu (by decide) ?_
      rw [hq.1]
      refine ev_icmp_eqN i_Tb_sameProductions_12 (by omega) (by omega) (fun hc_12 => ?_) (fun hc_12 => ?_)
      · skip
        refine ev_iconstN (v := 0) i_Tb_sameProductions_17 (by decide) ?_
        refine ev_ist_n_3 i_Tb_sameProductions_18 rfl ?_
        refine ev_loop (n := p.length) (fun i => [some (.ref t), some (.int (nI s)), some (.int (nI u)), some (.int (nI i))]) (fun i => S) (fun i hi ki => ?_) ?_
        · try dsimp only at ki ⊢
          have h6a := hp4.2 i (by omega)
          have h6b := hq4.2 i (by omega)
          have hfi := hf i (by omega)
          have he : p.getD i 0 = q.getD i 0 := by simpa using hfi
          refine ev_iload_n i_Tb_sameProductions_19 rfl ?_
          refine ev_aload_n i_Tb_sameProductions_20 rfl ?_
          refine ev_get i_Tb_sameProductions_21 hT.1 rfl ?_
          refine ev_iload_n i_Tb_sameProductions_24 rfl ?_
          refine ev_ialdN i_Tb_sameProductions_25 hT.2.2.1 hs (by decide) ?_
          rw [hp.1]
          refine ev_icmp_geN i_Tb_sameProductions_26 (by omega) (by omega) (fun hc_26 => ?_) (fun hc_26 => ?_)
          · skip
            exfalso; omega
          · skip
            refine ev_aload_n i_Tb_sameProductions_29 rfl ?_
            refine ev_iload_n i_Tb_sameProductions_30 rfl ?_
            refine ev_iload_n i_Tb_sameProductions_31 rfl ?_
            refine ev_callV2 i_Tb_sameProductions_32 rfl hT.1 (Nat.le_of_ble_eq_true rfl) (c_Tb_letterOf hT hs (by omega)) ?_
            rw [hp.2 i (by omega)]
            refine ev_aload_n i_Tb_sameProductions_35 rfl ?_
            refine ev_iload_n i_Tb_sameProductions_36 rfl ?_
            refine ev_iload_n i_Tb_sameProductions_37 rfl ?_
            refine ev_callV2 i_Tb_sameProductions_38 rfl hT.1 (Nat.le_of_ble_eq_true rfl) (c_Tb_letterOf hT hu (by omega)) ?_
            rw [hq.2 i (by omega)]
            refine ev_icmp_eqN i_Tb_sameProductions_41 (by omega) (by omega) (fun hc_41 => ?_) (fun hc_41 => ?_)
            · skip
              refine ev_iincN_3 (c := 1) i_Tb_sameProductions_46 (by decide) rfl ?_
              refine ev_goto i_Tb_sameProductions_49 ?_
              exact ki
            · skip
              exfalso; omega
        · try dsimp only
          refine ev_iload_n i_Tb_sameProductions_19 rfl ?_
          refine ev_aload_n i_Tb_sameProductions_20 rfl ?_
          refine ev_get i_Tb_sameProductions_21 hT.1 rfl ?_
          refine ev_iload_n i_Tb_sameProductions_24 rfl ?_
          refine ev_ialdN i_Tb_sameProductions_25 hT.2.2.1 hs (by decide) ?_
          rw [hp.1]
          refine ev_icmp_geN i_Tb_sameProductions_26 (by omega) (by omega) (fun hc_26 => ?_) (fun hc_26 => ?_)
          · skip
            refine ev_iconstN (v := 1) i_Tb_sameProductions_52 (by decide) ?_
            exact ev_iret i_Tb_sameProductions_53 rfl (by first | rfl | decide)
          · skip
            exfalso; omega
      · skip
        exfalso; omega
    · have hne : p.getD m 0 ≠ q.getD m 0 := by simpa using hne
      have e : p ≠ q := fun z => hne (by rw [z])
      rw [decide_eq_false e, bI_f]
      refine MetA.of rfl (by decide +kernel) (Nat.le_of_ble_eq_true rfl) ?_
      refine ev_aload_n i_Tb_sameProductions_0 rfl ?_
      refine ev_get i_Tb_sameProductions_1 hT.1 rfl ?_
      refine ev_iload_n i_Tb_sameProductions_4 rfl ?_
      refine ev_ialdN i_Tb_sameProductions_5 hT.2.2.1 hs (by decide) ?_
      rw [hp.1]
      refine ev_aload_n i_Tb_sameProductions_6 rfl ?_
      refine ev_get i_Tb_sameProductions_7 hT.1 rfl ?_
      refine ev_iload_n i_Tb_sameProductions_10 rfl ?_
      refine ev_ialdN i_Tb_sameProductions_11 hT.2.2.1 hu (by decide) ?_
      rw [hq.1]
      refine ev_icmp_eqN i_Tb_sameProductions_12 (by omega) (by omega) (fun hc_12 => ?_) (fun hc_12 => ?_)
      · skip
        refine ev_iconstN (v := 0) i_Tb_sameProductions_17 (by decide) ?_
        refine ev_ist_n_3 i_Tb_sameProductions_18 rfl ?_
        refine ev_loop (n := m) (fun i => [some (.ref t), some (.int (nI s)), some (.int (nI u)), some (.int (nI i))]) (fun i => S) (fun i hi ki => ?_) ?_
        · try dsimp only at ki ⊢
          have h6a := hp4.2 i (by omega)
          have h6b := hq4.2 i (by omega)
          have hfi := hf i (by omega)
          have he : p.getD i 0 = q.getD i 0 := by simpa using hfi
          refine ev_iload_n i_Tb_sameProductions_19 rfl ?_
          refine ev_aload_n i_Tb_sameProductions_20 rfl ?_
          refine ev_get i_Tb_sameProductions_21 hT.1 rfl ?_
          refine ev_iload_n i_Tb_sameProductions_24 rfl ?_
          refine ev_ialdN i_Tb_sameProductions_25 hT.2.2.1 hs (by decide) ?_
          rw [hp.1]
          refine ev_icmp_geN i_Tb_sameProductions_26 (by omega) (by omega) (fun hc_26 => ?_) (fun hc_26 => ?_)
          · skip
            exfalso; omega
          · skip
            refine ev_aload_n i_Tb_sameProductions_29 rfl ?_
            refine ev_iload_n i_Tb_sameProductions_30 rfl ?_
            refine ev_iload_n i_Tb_sameProductions_31 rfl ?_
            refine ev_callV2 i_Tb_sameProductions_32 rfl hT.1 (Nat.le_of_ble_eq_true rfl) (c_Tb_letterOf hT hs (by omega)) ?_
            rw [hp.2 i (by omega)]
            refine ev_aload_n i_Tb_sameProductions_35 rfl ?_
            refine ev_iload_n i_Tb_sameProductions_36 rfl ?_
            refine ev_iload_n i_Tb_sameProductions_37 rfl ?_
            refine ev_callV2 i_Tb_sameProductions_38 rfl hT.1 (Nat.le_of_ble_eq_true rfl) (c_Tb_letterOf hT hu (by omega)) ?_
            rw [hq.2 i (by omega)]
            refine ev_icmp_eqN i_Tb_sameProductions_41 (by omega) (by omega) (fun hc_41 => ?_) (fun hc_41 => ?_)
            · skip
              refine ev_iincN_3 (c := 1) i_Tb_sameProductions_46 (by decide) rfl ?_
              refine ev_goto i_Tb_sameProductions_49 ?_
              exact ki
            · skip
              exfalso; omega
        · try dsimp only
          have h6a := hp4.2 m (by omega)
          have h6b := hq4.2 m (by omega)
          refine ev_iload_n i_Tb_sameProductions_19 rfl ?_
          refine ev_aload_n i_Tb_sameProductions_20 rfl ?_
          refine ev_get i_Tb_sameProductions_21 hT.1 rfl ?_
          refine ev_iload_n i_Tb_sameProductions_24 rfl ?_
          refine ev_ialdN i_Tb_sameProductions_25 hT.2.2.1 hs (by decide) ?_
          rw [hp.1]
          refine ev_icmp_geN i_Tb_sameProductions_26 (by omega) (by omega) (fun hc_26 => ?_) (fun hc_26 => ?_)
          · skip
            exfalso; omega
          · skip
            refine ev_aload_n i_Tb_sameProductions_29 rfl ?_
            refine ev_iload_n i_Tb_sameProductions_30 rfl ?_
            refine ev_iload_n i_Tb_sameProductions_31 rfl ?_
            refine ev_callV2 i_Tb_sameProductions_32 rfl hT.1 (Nat.le_of_ble_eq_true rfl) (c_Tb_letterOf hT hs (by omega)) ?_
            rw [hp.2 m (by omega)]
            refine ev_aload_n i_Tb_sameProductions_35 rfl ?_
            refine ev_iload_n i_Tb_sameProductions_36 rfl ?_
            refine ev_iload_n i_Tb_sameProductions_37 rfl ?_
            refine ev_callV2 i_Tb_sameProductions_38 rfl hT.1 (Nat.le_of_ble_eq_true rfl) (c_Tb_letterOf hT hu (by omega)) ?_
            rw [hq.2 m (by omega)]
            refine ev_icmp_eqN i_Tb_sameProductions_41 (by omega) (by omega) (fun hc_41 => ?_) (fun hc_41 => ?_)
            · skip
              exfalso; omega
            · skip
              refine ev_iconstN (v := 0) i_Tb_sameProductions_44 (by decide) ?_
              exact ev_iret i_Tb_sameProductions_45 rfl (by first | rfl | decide)
      · skip
        exfalso; omega
  · have e : p ≠ q := fun z => hl (by rw [z])
    rw [decide_eq_false e, bI_f]
    refine MetA.of rfl (by decide +kernel) (Nat.le_of_ble_eq_true rfl) ?_
    refine ev_aload_n i_Tb_sameProductions_0 rfl ?_
    refine ev_get i_Tb_sameProductions_1 hT.1 rfl ?_
    refine ev_iload_n i_Tb_sameProductions_4 rfl ?_
    refine ev_ialdN i_Tb_sameProductions_5 hT.2.2.1 hs (by decide) ?_
    rw [hp.1]
    refine ev_aload_n i_Tb_sameProductions_6 rfl ?_
    refine ev_get i_Tb_sameProductions_7 hT.1 rfl ?_
    refine ev_iload_n i_Tb_sameProductions_10 rfl ?_
    refine ev_ialdN i_Tb_sameProductions_11 hT.2.2.1 hu (by decide) ?_
    rw [hq.1]
    refine ev_icmp_eqN i_Tb_sameProductions_12 (by omega) (by omega) (fun hc_12 => ?_) (fun hc_12 => ?_)
    · skip
      exfalso; omega
    · skip
      refine ev_iconstN (v := 0) i_Tb_sameProductions_15 (by decide) ?_
      exact ev_iret i_Tb_sameProductions_16 rfl (by first | rfl | decide)
theorem t_uni {scr : Scr} {l : Launch} {S : Sto} {t a d : Nat} {T : TabV} (h : TabAt S t T) (ha : a < 6) : MetA scr l (d + 2) M_Tb_listIsUniform [.ref t, .int (nI a)] S (.inl (some (.int (nI (bI (uniP (T.1 a)))))), S) := by
  obtain ⟨rc, fs, fl, fe, hT, hR⟩ := h
  have hA := hR.1 a ha
  rcases first_or (fun i => decide (¬ (T.1 a).getD 0 [] = (T.1 a).getD (1 + i) [])) ((T.1 a).length - 1) with hf | ⟨m, hm, hne, hf⟩
  · have e : uniP (T.1 a) = true := allB_iff.mpr (fun i hi => by have := hf i hi; simpa using this)
    rw [e, bI_t]
    refine MetA.of rfl (by decide +kernel) (Nat.le_of_ble_eq_true rfl) ?_
    refine ev_iconstN (v := 1) i_Tb_listIsUniform_0 (by decide) ?_
    refine ev_ist_n_2 i_Tb_listIsUniform_1 rfl ?_
    refine ev_loop (n := (T.1 a).length - 1) (fun i => [some (.ref t), some (.int (nI a)), some (.int (nI (1 + i)))]) (fun i => S) (fun i hi ki => ?_) ?_
    · try dsimp only at ki ⊢
      have hfi := hf i (by omega)
      have he : (T.1 a).getD 0 [] = (T.1 a).getD (1 + i) [] := by simpa using hfi
      refine ev_iload_n i_Tb_listIsUniform_2 rfl ?_
      refine ev_aload_n i_Tb_listIsUniform_3 rfl ?_
      refine ev_get i_Tb_listIsUniform_4 hT.1 rfl ?_
      refine ev_iload_n i_Tb_listIsUniform_7 rfl ?_
      refine ev_ialdN i_Tb_listIsUniform_8 hT.2.1 ha (by decide) ?_
      rw [hA.1]
      refine ev_icmp_geN i_Tb_listIsUniform_9 (by omega) (by omega) (fun hc_9 => ?_) (fun hc_9 => ?_)
      · skip
        exfalso; omega
      · skip
        refine ev_aload_n i_Tb_listIsUniform_12 rfl ?_
        refine ev_iload_n i_Tb_listIsUniform_13 rfl ?_
        refine ev_iconstN (v := 0) i_Tb_listIsUniform_14 (by decide) ?_
        refine ev_callS2 i_Tb_listIsUniform_15 rfl (Nat.le_of_ble_eq_true rfl) c_Tb_listSlot ?_
        refine ev_iload_n i_Tb_listIsUniform_18 rfl ?_
        refine ev_iload_n i_Tb_listIsUniform_19 rfl ?_
        refine ev_callS2 i_Tb_listIsUniform_20 rfl (Nat.le_of_ble_eq_true rfl) c_Tb_listSlot ?_
        refine ev_callV2 i_Tb_listIsUniform_23 rfl hT.1 (Nat.le_of_ble_eq_true rfl) (t_sameP (p := (T.1 a).getD 0 []) (q := (T.1 a).getD (1 + i) []) hT (by omega) (by omega) (hA.2.2.2 0 (by omega)).1 (hA.2.2.2 (1 + i) (by omega)).1 (hA.2.2.2 0 (by omega)).2 (hA.2.2.2 (1 + i) (by omega)).2) ?_
        rw [decide_eq_true he, bI_t]
        refine ev_if_neN i_Tb_listIsUniform_26 (by omega) (fun hc_26 => ?_) (fun hc_26 => ?_)
        · skip
          refine ev_iincN_2 (c := 1) i_Tb_listIsUniform_31 (by decide) rfl ?_
          refine ev_goto i_Tb_listIsUniform_34 ?_
          rw [show 1 + i + 1 = 1 + (i + 1) from by omega]
          exact ki
        · skip
          exfalso; omega
    · try dsimp only
      refine ev_iload_n i_Tb_listIsUniform_2 rfl ?_
      refine ev_aload_n i_Tb_listIsUniform_3 rfl ?_
      refine ev_get i_Tb_listIsUniform_4 hT.1 rfl ?_
      refine ev_iload_n i_Tb_listIsUniform_7 rfl ?_
      refine ev_ialdN i_Tb_listIsUniform_8 hT.2.1 ha (by decide) ?_
      rw [hA.1]
      refine ev_icmp_geN i_Tb_listIsUniform_9 (by omega) (by omega) (fun hc_9 => ?_) (fun hc_9 => ?_)
      · skip
        refine ev_iconstN (v := 1) i_Tb_listIsUniform_37 (by decide) ?_
        exact ev_iret i_Tb_listIsUniform_38 rfl (by first | rfl | decide)
      · skip
        exfalso; omega
  · have hne : ¬ (T.1 a).getD 0 [] = (T.1 a).getD (1 + m) [] := by simpa using hne
    have e : uniP (T.1 a) = false := by
      cases hu : uniP (T.1 a) with
      | false => rfl
      | true => exact absurd (by simpa using allB_iff.mp hu m hm) hne
    rw [e, bI_f]
    refine MetA.of rfl (by decide +kernel) (Nat.le_of_ble_eq_true rfl) ?_
    refine ev_iconstN (v := 1) i_Tb_listIsUniform_0 (by decide) ?_
    refine ev_ist_n_2 i_Tb_listIsUniform_1 rfl ?_
    refine ev_loop (n := m) (fun i => [some (.ref t), some (.int (nI a)), some (.int (nI (1 + i)))]) (fun i => S) (fun i hi ki => ?_) ?_
    · try dsimp only at ki ⊢
      have hfi := hf i (by omega)
      have he : (T.1 a).getD 0 [] = (T.1 a).getD (1 + i) [] := by simpa using hfi
      refine ev_iload_n i_Tb_listIsUniform_2 rfl ?_
      refine ev_aload_n i_Tb_listIsUniform_3 rfl ?_
      refine ev_get i_Tb_listIsUniform_4 hT.1 rfl ?_
      refine ev_iload_n i_Tb_listIsUniform_7 rfl ?_
      refine ev_ialdN i_Tb_listIsUniform_8 hT.2.1 ha (by decide) ?_
      rw [hA.1]
      refine ev_icmp_geN i_Tb_listIsUniform_9 (by omega) (by omega) (fun hc_9 => ?_) (fun hc_9 => ?_)
      · skip
        exfalso; omega
      · skip
        refine ev_aload_n i_Tb_listIsUniform_12 rfl ?_
        refine ev_iload_n i_Tb_listIsUniform_13 rfl ?_
        refine ev_iconstN (v := 0) i_Tb_listIsUniform_14 (by decide) ?_
        refine ev_callS2 i_Tb_listIsUniform_15 rfl (Nat.le_of_ble_eq_true rfl) c_Tb_listSlot ?_
        refine ev_iload_n i_Tb_listIsUniform_18 rfl ?_
        refine ev_iload_n i_Tb_listIsUniform_19 rfl ?_
        refine ev_callS2 i_Tb_listIsUniform_20 rfl (Nat.le_of_ble_eq_true rfl) c_Tb_listSlot ?_
        refine ev_callV2 i_Tb_listIsUniform_23 rfl hT.1 (Nat.le_of_ble_eq_true rfl) (t_sameP (p := (T.1 a).getD 0 []) (q := (T.1 a).getD (1 + i) []) hT (by omega) (by omega) (hA.2.2.2 0 (by omega)).1 (hA.2.2.2 (1 + i) (by omega)).1 (hA.2.2.2 0 (by omega)).2 (hA.2.2.2 (1 + i) (by omega)).2) ?_
        rw [decide_eq_true he, bI_t]
        refine ev_if_neN i_Tb_listIsUniform_26 (by omega) (fun hc_26 => ?_) (fun hc_26 => ?_)
        · skip
          refine ev_iincN_2 (c := 1) i_Tb_listIsUniform_31 (by decide) rfl ?_
          refine ev_goto i_Tb_listIsUniform_34 ?_
          rw [show 1 + i + 1 = 1 + (i + 1) from by omega]
          exact ki
        · skip
          exfalso; omega
    · try dsimp only
      refine ev_iload_n i_Tb_listIsUniform_2 rfl ?_
      refine ev_aload_n i_Tb_listIsUniform_3 rfl ?_
      refine ev_get i_Tb_listIsUniform_4 hT.1 rfl ?_
      refine ev_iload_n i_Tb_listIsUniform_7 rfl ?_
      refine ev_ialdN i_Tb_listIsUniform_8 hT.2.1 ha (by decide) ?_
      rw [hA.1]
      refine ev_icmp_geN i_Tb_listIsUniform_9 (by omega) (by omega) (fun hc_9 => ?_) (fun hc_9 => ?_)
      · skip
        exfalso; omega
      · skip
        refine ev_aload_n i_Tb_listIsUniform_12 rfl ?_
        refine ev_iload_n i_Tb_listIsUniform_13 rfl ?_
        refine ev_iconstN (v := 0) i_Tb_listIsUniform_14 (by decide) ?_
        refine ev_callS2 i_Tb_listIsUniform_15 rfl (Nat.le_of_ble_eq_true rfl) c_Tb_listSlot ?_
        refine ev_iload_n i_Tb_listIsUniform_18 rfl ?_
        refine ev_iload_n i_Tb_listIsUniform_19 rfl ?_
        refine ev_callS2 i_Tb_listIsUniform_20 rfl (Nat.le_of_ble_eq_true rfl) c_Tb_listSlot ?_
        refine ev_callV2 i_Tb_listIsUniform_23 rfl hT.1 (Nat.le_of_ble_eq_true rfl) (t_sameP (p := (T.1 a).getD 0 []) (q := (T.1 a).getD (1 + m) []) hT (by omega) (by omega) (hA.2.2.2 0 (by omega)).1 (hA.2.2.2 (1 + m) (by omega)).1 (hA.2.2.2 0 (by omega)).2 (hA.2.2.2 (1 + m) (by omega)).2) ?_
        rw [decide_eq_false hne, bI_f]
        refine ev_if_neN i_Tb_listIsUniform_26 (by omega) (fun hc_26 => ?_) (fun hc_26 => ?_)
        · skip
          exfalso; omega
        · skip
          refine ev_iconstN (v := 0) i_Tb_listIsUniform_29 (by decide) ?_
          exact ev_iret i_Tb_listIsUniform_30 rfl (by first | rfl | decide)
theorem a_oneI {scr : Scr} {l : Launch} {S : Sto} {t w a d : Nat} {T : TabV} {xs : List Nat} (ht : TabAt S t T) (hx : WordAt S w a xs) : MetA scr l (d + 3) M_Ad_hasOneImage [.ref t, .ref w] S (.inl (some (.int (nI (bI (oneI T xs))))), S) := by
  obtain ⟨h1, h60, h3, f, h4, h5⟩ := id hx
  obtain ⟨rc, htb, -⟩ := tab_obj ht
  rcases first_or (fun i => (ruleAt T xs i).isNone && !uniP (T.1 (xs.getD i 0))) xs.length with hf | ⟨m, hm, hne, hf⟩
  · have e : oneI T xs = true := allB_iff.mpr (fun i hi => by
      have := hf i hi
      cases hr : ruleAt T xs i with
      | none => simp only [hr] at this; simpa using this
      | some p => rfl)
    rw [e, bI_t]
    refine MetA.of rfl (by decide +kernel) (Nat.le_of_ble_eq_true rfl) ?_
    refine ev_iconstN (v := 0) i_Ad_hasOneImage_0 (by decide) ?_
    refine ev_ist_n_2 i_Ad_hasOneImage_1 rfl ?_
    refine ev_loop (n := xs.length) (fun i => [some (.ref t), some (.ref w), some (.int (nI i))]) (fun i => S) (fun i hi ki => ?_) ?_
    · try dsimp only at ki ⊢
      have hfi := hf i (by omega)
      have h3a := h3 (i - 1) (by omega)
      have h3b := h3 i (by omega)
      cases hr : ruleAt T xs i with
      | none =>
        have hu : uniP (T.1 (xs.getD i 0)) = true := by
          simp only [hr] at hfi
          simpa using hfi
        refine ev_iload_n i_Ad_hasOneImage_2 rfl ?_
        refine ev_aload_n i_Ad_hasOneImage_3 rfl ?_
        refine ev_get i_Ad_hasOneImage_4 hx.1 rfl ?_
        refine ev_icmp_geN i_Ad_hasOneImage_7 (by omega) (by omega) (fun hc_7 => ?_) (fun hc_7 => ?_)
        · skip
          exfalso; omega
        · skip
          refine ev_aload_n i_Ad_hasOneImage_10 rfl ?_
          refine ev_aload_n i_Ad_hasOneImage_11 rfl ?_
          refine ev_iload_n i_Ad_hasOneImage_12 rfl ?_
          refine ev_callV2 i_Ad_hasOneImage_13 rfl htb (Nat.le_of_ble_eq_true rfl) ((t_ruleAt ht hx (by omega)).1 hr _) ?_
          refine ev_iconst (v := -1) i_Ad_hasOneImage_16 (by decide) ?_
          refine ev_icmp_ne i_Ad_hasOneImage_17 (fun hc_17 => ?_) (fun hc_17 => ?_)
          · skip
            exact absurd rfl hc_17
          · skip
            refine ev_aload_n i_Ad_hasOneImage_20 rfl ?_
            refine ev_aload_n i_Ad_hasOneImage_21 rfl ?_
            refine ev_get i_Ad_hasOneImage_22 hx.1 rfl ?_
            refine ev_iload_n i_Ad_hasOneImage_25 rfl ?_
            refine ev_ialdN i_Ad_hasOneImage_26 h4 (by omega) (by decide) ?_
            rw [h5 i (by omega)]
            refine ev_callV1 i_Ad_hasOneImage_27 rfl htb (Nat.le_of_ble_eq_true rfl) (t_uni ht (h3 i (by omega))) ?_
            rw [hu, bI_t]
            refine ev_if_neN i_Ad_hasOneImage_30 (by omega) (fun hc_30 => ?_) (fun hc_30 => ?_)
            · skip
              refine ev_iincN_2 (c := 1) i_Ad_hasOneImage_35 (by decide) rfl ?_
              refine ev_goto i_Ad_hasOneImage_38 ?_
              exact ki
            · skip
              exfalso; omega
      | some p =>
        refine ev_iload_n i_Ad_hasOneImage_2 rfl ?_
        refine ev_aload_n i_Ad_hasOneImage_3 rfl ?_
        refine ev_get i_Ad_hasOneImage_4 hx.1 rfl ?_
        refine ev_icmp_geN i_Ad_hasOneImage_7 (by omega) (by omega) (fun hc_7 => ?_) (fun hc_7 => ?_)
        · skip
          exfalso; omega
        · skip
          refine ev_aload_n i_Ad_hasOneImage_10 rfl ?_
          refine ev_aload_n i_Ad_hasOneImage_11 rfl ?_
          refine ev_iload_n i_Ad_hasOneImage_12 rfl ?_
          refine ev_callV2 i_Ad_hasOneImage_13 rfl htb (Nat.le_of_ble_eq_true rfl) ((t_ruleAt ht hx (by omega)).2 _ hr _) ?_
          refine ev_iconst (v := -1) i_Ad_hasOneImage_16 (by decide) ?_
          refine ev_icmp_ne i_Ad_hasOneImage_17 (fun hc_17 => ?_) (fun hc_17 => ?_)
          · skip
            refine ev_iincN_2 (c := 1) i_Ad_hasOneImage_35 (by decide) rfl ?_
            refine ev_goto i_Ad_hasOneImage_38 ?_
            exact ki
          · skip
            exact absurd hc_17 (nI_ne_m1 (by omega))
    · try dsimp only
      refine ev_iload_n i_Ad_hasOneImage_2 rfl ?_
      refine ev_aload_n i_Ad_hasOneImage_3 rfl ?_
      refine ev_get i_Ad_hasOneImage_4 hx.1 rfl ?_
      refine ev_icmp_geN i_Ad_hasOneImage_7 (by omega) (by omega) (fun hc_7 => ?_) (fun hc_7 => ?_)
      · skip
        refine ev_iconstN (v := 1) i_Ad_hasOneImage_41 (by decide) ?_
        exact ev_iret i_Ad_hasOneImage_42 rfl (by first | rfl | decide)
      · skip
        exfalso; omega
  · obtain ⟨hr, hu⟩ : ruleAt T xs m = none ∧ uniP (T.1 (xs.getD m 0)) = false := by
      simpa using hne
    have e : oneI T xs = false := by
      cases hz : oneI T xs with
      | false => rfl
      | true =>
        have this : ((ruleAt T xs m).isSome || uniP (T.1 (xs.getD m 0))) = true := allB_iff.mp hz m hm
        rw [hr, hu] at this
        cases this
    rw [e, bI_f]
    refine MetA.of rfl (by decide +kernel) (Nat.le_of_ble_eq_true rfl) ?_
    refine ev_iconstN (v := 0) i_Ad_hasOneImage_0 (by decide) ?_
    refine ev_ist_n_2 i_Ad_hasOneImage_1 rfl ?_
    refine ev_loop (n := m) (fun i => [some (.ref t), some (.ref w), some (.int (nI i))]) (fun i => S) (fun i hi ki => ?_) ?_
    · try dsimp only at ki ⊢
      have hfi := hf i (by omega)
      have h3a := h3 (i - 1) (by omega)
      have h3b := h3 i (by omega)
      cases hr : ruleAt T xs i with
      | none =>
        have hu : uniP (T.1 (xs.getD i 0)) = true := by
          simp only [hr] at hfi
          simpa using hfi
        refine ev_iload_n i_Ad_hasOneImage_2 rfl ?_
        refine ev_aload_n i_Ad_hasOneImage_3 rfl ?_
        refine ev_get i_Ad_hasOneImage_4 hx.1 rfl ?_
        refine ev_icmp_geN i_Ad_hasOneImage_7 (by omega) (by omega) (fun hc_7 => ?_) (fun hc_7 => ?_)
        · skip
          exfalso; omega
        · skip
          refine ev_aload_n i_Ad_hasOneImage_10 rfl ?_
          refine ev_aload_n i_Ad_hasOneImage_11 rfl ?_
          refine ev_iload_n i_Ad_hasOneImage_12 rfl ?_
          refine ev_callV2 i_Ad_hasOneImage_13 rfl htb (Nat.le_of_ble_eq_true rfl) ((t_ruleAt ht hx (by omega)).1 hr _) ?_
          refine ev_iconst (v := -1) i_Ad_hasOneImage_16 (by decide) ?_
          refine ev_icmp_ne i_Ad_hasOneImage_17 (fun hc_17 => ?_) (fun hc_17 => ?_)
          · skip
            exact absurd rfl hc_17
          · skip
            refine ev_aload_n i_Ad_hasOneImage_20 rfl ?_
            refine ev_aload_n i_Ad_hasOneImage_21 rfl ?_
            refine ev_get i_Ad_hasOneImage_22 hx.1 rfl ?_
            refine ev_iload_n i_Ad_hasOneImage_25 rfl ?_
            refine ev_ialdN i_Ad_hasOneImage_26 h4 (by omega) (by decide) ?_
            rw [h5 i (by omega)]
            refine ev_callV1 i_Ad_hasOneImage_27 rfl htb (Nat.le_of_ble_eq_true rfl) (t_uni ht (h3 i (by omega))) ?_
            rw [hu, bI_t]
            refine ev_if_neN i_Ad_hasOneImage_30 (by omega) (fun hc_30 => ?_) (fun hc_30 => ?_)
            · skip
              refine ev_iincN_2 (c := 1) i_Ad_hasOneImage_35 (by decide) rfl ?_
              refine ev_goto i_Ad_hasOneImage_38 ?_
              exact ki
            · skip
              exfalso; omega
      | some p =>
        refine ev_iload_n i_Ad_hasOneImage_2 rfl ?_
        refine ev_aload_n i_Ad_hasOneImage_3 rfl ?_
        refine ev_get i_Ad_hasOneImage_4 hx.1 rfl ?_
        refine ev_icmp_geN i_Ad_hasOneImage_7 (by omega) (by omega) (fun hc_7 => ?_) (fun hc_7 => ?_)
        · skip
          exfalso; omega
        · skip
          refine ev_aload_n i_Ad_hasOneImage_10 rfl ?_
          refine ev_aload_n i_Ad_hasOneImage_11 rfl ?_
          refine ev_iload_n i_Ad_hasOneImage_12 rfl ?_
          refine ev_callV2 i_Ad_hasOneImage_13 rfl htb (Nat.le_of_ble_eq_true rfl) ((t_ruleAt ht hx (by omega)).2 _ hr _) ?_
          refine ev_iconst (v := -1) i_Ad_hasOneImage_16 (by decide) ?_
          refine ev_icmp_ne i_Ad_hasOneImage_17 (fun hc_17 => ?_) (fun hc_17 => ?_)
          · skip
            refine ev_iincN_2 (c := 1) i_Ad_hasOneImage_35 (by decide) rfl ?_
            refine ev_goto i_Ad_hasOneImage_38 ?_
            exact ki
          · skip
            exact absurd hc_17 (nI_ne_m1 (by omega))
    · try dsimp only
      refine ev_iload_n i_Ad_hasOneImage_2 rfl ?_
      refine ev_aload_n i_Ad_hasOneImage_3 rfl ?_
      refine ev_get i_Ad_hasOneImage_4 hx.1 rfl ?_
      refine ev_icmp_geN i_Ad_hasOneImage_7 (by omega) (by omega) (fun hc_7 => ?_) (fun hc_7 => ?_)
      · skip
        exfalso; omega
      · skip
        refine ev_aload_n i_Ad_hasOneImage_10 rfl ?_
        refine ev_aload_n i_Ad_hasOneImage_11 rfl ?_
        refine ev_iload_n i_Ad_hasOneImage_12 rfl ?_
        refine ev_callV2 i_Ad_hasOneImage_13 rfl htb (Nat.le_of_ble_eq_true rfl) ((t_ruleAt ht hx (by omega)).1 hr _) ?_
        refine ev_iconst (v := -1) i_Ad_hasOneImage_16 (by decide) ?_
        refine ev_icmp_ne i_Ad_hasOneImage_17 (fun hc_17 => ?_) (fun hc_17 => ?_)
        · skip
          exact absurd rfl hc_17
        · skip
          refine ev_aload_n i_Ad_hasOneImage_20 rfl ?_
          refine ev_aload_n i_Ad_hasOneImage_21 rfl ?_
          refine ev_get i_Ad_hasOneImage_22 hx.1 rfl ?_
          refine ev_iload_n i_Ad_hasOneImage_25 rfl ?_
          refine ev_ialdN i_Ad_hasOneImage_26 h4 (by omega) (by decide) ?_
          rw [h5 m (by omega)]
          refine ev_callV1 i_Ad_hasOneImage_27 rfl htb (Nat.le_of_ble_eq_true rfl) (t_uni ht (h3 m (by omega))) ?_
          rw [hu, bI_f]
          refine ev_if_neN i_Ad_hasOneImage_30 (by omega) (fun hc_30 => ?_) (fun hc_30 => ?_)
          · skip
            exfalso; omega
          · skip
            refine ev_iconstN (v := 0) i_Ad_hasOneImage_33 (by decide) ?_
            exact ev_iret i_Ad_hasOneImage_34 rfl (by first | rfl | decide)
theorem if_le1 {p : Prop} [Decidable p] : (if p then 1 else 0) < 2 ^ 31 := by split <;> omega
theorem a_isKept {scr : Scr} {l : Launch} {S : Sto} {t w a : Nat} {T : TabV} {xs : List Nat} (h : AdOK S) (ht : TabAt S t T) (hx : WordAt S w a xs) (hd : t ∉ [76, 77] ∧ t + 1 ∉ [76, 77] ∧ t + 2 ∉ [76, 77] ∧ t + 3 ∉ [76, 77]) (hwv : w ∉ [76, 77] ∧ a ∉ [76, 77]) : ∃ S1, (∀ d, MetA scr l (d + 4) M_Ad_isKept [.ref 73, .ref t, .ref w] S (.inl (some (.int (nI (bI (adB T xs))))), S1)) ∧ (∃ zs, WordAt S1 76 77 zs) ∧ Fr [76, 77] S S1 := by
  obtain ⟨zs, hz⟩ := h.2.2
  obtain ⟨rc, htb, -⟩ := tab_obj ht
  have h60 := hx.2.1
  unfold adB
  cases ho : oneI T xs with
  | false =>
    refine ⟨S, fun d => ?_, ⟨zs, hz⟩, Fr.rf _ _⟩
    rw [Bool.false_and, bI_f]
    refine MetA.of rfl (by decide +kernel) (Nat.le_of_ble_eq_true rfl) ?_
    refine ev_aload_n i_Ad_isKept_0 rfl ?_
    refine ev_aload_n i_Ad_isKept_1 rfl ?_
    refine ev_callS2 i_Ad_isKept_2 rfl (Nat.le_of_ble_eq_true rfl) (a_oneI ht hx) ?_
    rw [ho, bI_f]
    refine ev_if_eqN i_Ad_isKept_5 (by omega) (fun hc_5 => ?_) (fun hc_5 => ?_)
    · skip
      refine ev_iconstN (v := 0) i_Ad_isKept_36 (by decide) ?_
      exact ev_iret i_Ad_isKept_37 rfl (by first | rfl | decide)
    · skip
      exfalso; omega
  | true =>
    rw [Bool.true_and]
    by_cases hl : (stepW T xs (nI 0)).length ≤ 60
    · obtain ⟨S3, m3, w3, f3⟩ := (t_rewrite (scr := scr) (l := l) (seed := nI 0) ht hx hd hwv hz).1 hl
      refine ⟨S3, fun d => ?_, ⟨_, w3⟩, f3⟩
      have hi := @if_le1 (stepW T xs (nI 0) = xs) _
      refine MetA.of rfl (by decide +kernel) (Nat.le_of_ble_eq_true rfl) ?_
      refine ev_aload_n i_Ad_isKept_0 rfl ?_
      refine ev_aload_n i_Ad_isKept_1 rfl ?_
      refine ev_callS2 i_Ad_isKept_2 rfl (Nat.le_of_ble_eq_true rfl) (a_oneI ht hx) ?_
      rw [ho, bI_t]
      refine ev_if_eqN i_Ad_isKept_5 (by omega) (fun hc_5 => ?_) (fun hc_5 => ?_)
      · skip
        exfalso; omega
      · skip
        refine ev_aload_n i_Ad_isKept_8 rfl ?_
        refine ev_aload_n i_Ad_isKept_9 rfl ?_
        refine ev_iconstN (v := 0) i_Ad_isKept_10 (by decide) ?_
        refine ev_aload_n i_Ad_isKept_11 rfl ?_
        refine ev_get i_Ad_isKept_12 h.1 rfl ?_
        refine ev_callV3 i_Ad_isKept_15 rfl htb (Nat.le_of_ble_eq_true rfl) (m3 _) ?_
        refine ev_if_eqN i_Ad_isKept_18 (by omega) (fun hc_18 => ?_) (fun hc_18 => ?_)
        · skip
          exfalso; omega
        · skip
          refine ev_aload_n i_Ad_isKept_21 rfl ?_
          refine ev_get i_Ad_isKept_22 (f3.at h.1 (by decide)) rfl ?_
          refine ev_aload_n i_Ad_isKept_25 rfl ?_
          refine ev_callV1 i_Ad_isKept_26 rfl w3.1 (Nat.le_of_ble_eq_true rfl) (w_same w3 (hx.fr f3 hwv)) ?_
          refine ev_if_eqN i_Ad_isKept_29 (by omega) (fun hc_29 => ?_) (fun hc_29 => ?_)
          · skip
            have e : stepW T xs (nI 0) ≠ xs := fun z => by rw [if_pos z] at hc_29; omega
            rw [decide_eq_false e, bI_f]
            refine ev_iconstN (v := 0) i_Ad_isKept_36 (by decide) ?_
            exact ev_iret i_Ad_isKept_37 rfl (by decide)
          · skip
            have e : stepW T xs (nI 0) = xs := by
              by_cases z : stepW T xs (nI 0) = xs
              · exact z
              · rw [if_neg z] at hc_29; omega
            rw [decide_eq_true e, bI_t]
            refine ev_iconstN (v := 1) i_Ad_isKept_32 (by decide) ?_
            refine ev_goto i_Ad_isKept_33 ?_
            exact ev_iret i_Ad_isKept_37 rfl (by decide)
    · obtain ⟨S3, m3, w3, f3⟩ := (t_rewrite (scr := scr) (l := l) (seed := nI 0) ht hx hd hwv hz).2 (by show 60 < (stepW T xs (nI 0)).length; omega)
      refine ⟨S3, fun d => ?_, w3, f3⟩
      have e : stepW T xs (nI 0) ≠ xs := fun z => hl (by rw [z]; exact h60)
      rw [decide_eq_false e, bI_f]
      refine MetA.of rfl (by decide +kernel) (Nat.le_of_ble_eq_true rfl) ?_
      refine ev_aload_n i_Ad_isKept_0 rfl ?_
      refine ev_aload_n i_Ad_isKept_1 rfl ?_
      refine ev_callS2 i_Ad_isKept_2 rfl (Nat.le_of_ble_eq_true rfl) (a_oneI ht hx) ?_
      rw [ho, bI_t]
      refine ev_if_eqN i_Ad_isKept_5 (by omega) (fun hc_5 => ?_) (fun hc_5 => ?_)
      · skip
        exfalso; omega
      · skip
        refine ev_aload_n i_Ad_isKept_8 rfl ?_
        refine ev_aload_n i_Ad_isKept_9 rfl ?_
        refine ev_iconstN (v := 0) i_Ad_isKept_10 (by decide) ?_
        refine ev_aload_n i_Ad_isKept_11 rfl ?_
        refine ev_get i_Ad_isKept_12 h.1 rfl ?_
        refine ev_callV3 i_Ad_isKept_15 rfl htb (Nat.le_of_ble_eq_true rfl) (m3 _) ?_
        refine ev_if_eqN i_Ad_isKept_18 (by omega) (fun hc_18 => ?_) (fun hc_18 => ?_)
        · skip
          refine ev_iconstN (v := 0) i_Ad_isKept_36 (by decide) ?_
          exact ev_iret i_Ad_isKept_37 rfl (by first | rfl | decide)
        · skip
          exfalso; omega

/-! the model m: setCommand on both sides; NoSuchElementException -/
def CmdIs (cs : List Nat) (k : Nat) : Prop := k ≤ 7 ∧ (∀ j, j < k → cs ≠ cmdN.getD j []) ∧ (k < 7 → cs = cmdN.getD k [])
theorem cmd_ex (cs : List Nat) : ∃ k, CmdIs cs k := by
  rcases first_or (fun j => decide (cs = cmdN.getD j [])) 7 with h | ⟨m, hm, h1, h2⟩
  · exact ⟨7, Nat.le_refl _, fun j hj => of_decide_eq_false (h j hj), fun q => absurd q (by omega)⟩
  · exact ⟨m, by omega, fun j hj => of_decide_eq_false (h2 j hj), fun _ => of_decide_eq_true h1⟩
theorem cmd_lt : ∀ i, i < 7 → ∀ j, j < cmdLen.getD i 0 → (cmdN.getD i []).getD j 0 < 2 ^ 31 := by decide
theorem cmd_diff {cs nm : List Nat} (hl : cs.length = nm.length) (h : cs ≠ nm) : ∃ m, m < cs.length ∧ cs.getD m 0 ≠ nm.getD m 0 ∧ ∀ j, j < m → cs.getD j 0 = nm.getD j 0 := by
  rcases first_or (fun j => decide (cs.getD j 0 ≠ nm.getD j 0)) cs.length with q | ⟨m, hm, h1, h2⟩
  · exact absurd (list_ext hl (fun j hj => Classical.byContradiction (fun z => of_decide_eq_false (q j hj) z))) h
  · exact ⟨m, hm, of_decide_eq_true h1, fun j hj => Classical.byContradiction (fun z => of_decide_eq_false (h2 j hj) z)⟩
theorem t_says_y {scr : Scr} {l : Launch} {S : Sto} {d t a i : Nat} {cs : List Nat} (hT : TextAt S t a cs) (hi : i < 7) (h : cs = (cmdN.getD i [])) : MetA scr l (d + 4) M_Tx_says [.ref t, .ref (1000 + i)] S (.inl (some (.int (nI 1))), S) := by
  obtain ⟨h1, h2, f, h3, h4⟩ := hT.1
  have h5 : ∀ j, j < cs.length → f j = nI (cs.getD j 0) := fun j hj => (h4 j hj).1
  have hcl := (cmd_len i hi).2
  have hcb := (cmd_len i hi).1
  have hl : cs.length = (cmdN.getD i []).length := by rw [h]
  have hall : ∀ j, j < cs.length → cs.getD j 0 = (cmdN.getD i []).getD j 0 := fun j _ => by rw [h]
  refine MetA.of rfl (by decide +kernel) (Nat.le_of_ble_eq_true rfl) ?_
  refine ev_aload_n i_Tx_says_0 rfl ?_
  refine ev_get i_Tx_says_1 h1 rfl ?_
  refine ev_aload_n i_Tx_says_4 rfl ?_
  refine ev_callVS0 i_Tx_says_5 rfl hi (Nat.le_of_ble_eq_true rfl) (c_length hi) ?_
  rw [hcl]
  refine ev_icmp_eqN i_Tx_says_8 (by omega) (by omega) (fun hc_8 => ?_) (fun hc_8 => ?_)
  · skip
    refine ev_iconstN (v := 0) i_Tx_says_13 (by decide) ?_
    refine ev_ist_n_2 i_Tx_says_14 rfl ?_
    refine ev_loop (n := cs.length) (fun i0 => [some (.ref t), some (.ref (1000 + i)), some (.int (nI i0))]) (fun i0 => S) (fun i0 hi0 ki0 => ?_) ?_
    · try dsimp only at ki0 ⊢
      have b1 := cmd_lt i hi i0 (by omega)
      have b2 := hT.2 i0 hi0
      refine ev_iload_n i_Tx_says_15 rfl ?_
      refine ev_aload_n i_Tx_says_16 rfl ?_
      refine ev_get i_Tx_says_17 h1 rfl ?_
      refine ev_icmp_geN i_Tx_says_20 (by omega) (by omega) (fun hc_20 => ?_) (fun hc_20 => ?_)
      · skip
        exfalso; omega
      · skip
        refine ev_aload_n i_Tx_says_23 rfl ?_
        refine ev_get i_Tx_says_24 h1 rfl ?_
        refine ev_iload_n i_Tx_says_27 rfl ?_
        refine ev_caldN i_Tx_says_28 h3 (by omega) (by decide) ?_
        rw [h5 i0 (by omega)]
        refine ev_aload_n i_Tx_says_29 rfl ?_
        refine ev_iload_n i_Tx_says_30 rfl ?_
        refine ev_callVS1 i_Tx_says_31 rfl hi (Nat.le_of_ble_eq_true rfl) (c_charAt hi (by omega)) ?_
        refine ev_icmp_eqN i_Tx_says_34 (by omega) (by omega) (fun hc_34 => ?_) (fun hc_34 => ?_)
        · skip
          refine ev_iincN_2 (c := 1) i_Tx_says_39 (by decide) rfl ?_
          refine ev_goto i_Tx_says_42 ?_
          exact ki0
        · skip
          exact absurd (hall i0 (by omega)) hc_34
    · try dsimp only
      refine ev_iload_n i_Tx_says_15 rfl ?_
      refine ev_aload_n i_Tx_says_16 rfl ?_
      refine ev_get i_Tx_says_17 h1 rfl ?_
      refine ev_icmp_geN i_Tx_says_20 (by omega) (by omega) (fun hc_20 => ?_) (fun hc_20 => ?_)
      · skip
        refine ev_iconstN (v := 1) i_Tx_says_45 (by decide) ?_
        exact ev_iret i_Tx_says_46 rfl (by first | rfl | decide)
      · skip
        exfalso; omega
  · skip
    exfalso; omega
theorem t_says_n {scr : Scr} {l : Launch} {S : Sto} {d t a i : Nat} {cs : List Nat} (hT : TextAt S t a cs) (hi : i < 7) (h : cs ≠ (cmdN.getD i [])) : MetA scr l (d + 4) M_Tx_says [.ref t, .ref (1000 + i)] S (.inl (some (.int (nI 0))), S) := by
  obtain ⟨h1, h2, f, h3, h4⟩ := hT.1
  have h5 : ∀ j, j < cs.length → f j = nI (cs.getD j 0) := fun j hj => (h4 j hj).1
  have hcl := (cmd_len i hi).2
  have hcb := (cmd_len i hi).1
  by_cases hl : cs.length = (cmdN.getD i []).length
  · obtain ⟨m, hm1, hm2, hm3⟩ := cmd_diff hl h
    refine MetA.of rfl (by decide +kernel) (Nat.le_of_ble_eq_true rfl) ?_
    refine ev_aload_n i_Tx_says_0 rfl ?_
    refine ev_get i_Tx_says_1 h1 rfl ?_
    refine ev_aload_n i_Tx_says_4 rfl ?_
    refine ev_callVS0 i_Tx_says_5 rfl hi (Nat.le_of_ble_eq_true rfl) (c_length hi) ?_
    rw [hcl]
    refine ev_icmp_eqN i_Tx_says_8 (by omega) (by omega) (fun hc_8 => ?_) (fun hc_8 => ?_)
    · skip
      refine ev_iconstN (v := 0) i_Tx_says_13 (by decide) ?_
      refine ev_ist_n_2 i_Tx_says_14 rfl ?_
      refine ev_loop (n := m) (fun i0 => [some (.ref t), some (.ref (1000 + i)), some (.int (nI i0))]) (fun i0 => S) (fun i0 hi0 ki0 => ?_) ?_
      · try dsimp only at ki0 ⊢
        have b1 := cmd_lt i hi i0 (by omega)
        have b2 := hT.2 i0 (by omega)
        refine ev_iload_n i_Tx_says_15 rfl ?_
        refine ev_aload_n i_Tx_says_16 rfl ?_
        refine ev_get i_Tx_says_17 h1 rfl ?_
        refine ev_icmp_geN i_Tx_says_20 (by omega) (by omega) (fun hc_20 => ?_) (fun hc_20 => ?_)
        · skip
          exfalso; omega
        · skip
          refine ev_aload_n i_Tx_says_23 rfl ?_
          refine ev_get i_Tx_says_24 h1 rfl ?_
          refine ev_iload_n i_Tx_says_27 rfl ?_
          refine ev_caldN i_Tx_says_28 h3 (by omega) (by decide) ?_
          rw [h5 i0 (by omega)]
          refine ev_aload_n i_Tx_says_29 rfl ?_
          refine ev_iload_n i_Tx_says_30 rfl ?_
          refine ev_callVS1 i_Tx_says_31 rfl hi (Nat.le_of_ble_eq_true rfl) (c_charAt hi (by omega)) ?_
          refine ev_icmp_eqN i_Tx_says_34 (by omega) (by omega) (fun hc_34 => ?_) (fun hc_34 => ?_)
          · skip
            refine ev_iincN_2 (c := 1) i_Tx_says_39 (by decide) rfl ?_
            refine ev_goto i_Tx_says_42 ?_
            exact ki0
          · skip
            exact absurd (hm3 i0 hi0) hc_34
      · try dsimp only
        have b1 := cmd_lt i hi m (by omega)
        have b2 := hT.2 m hm1
        refine ev_iload_n i_Tx_says_15 rfl ?_
        refine ev_aload_n i_Tx_says_16 rfl ?_
        refine ev_get i_Tx_says_17 h1 rfl ?_
        refine ev_icmp_geN i_Tx_says_20 (by omega) (by omega) (fun hc_20 => ?_) (fun hc_20 => ?_)
        · skip
          exfalso; omega
        · skip
          refine ev_aload_n i_Tx_says_23 rfl ?_
          refine ev_get i_Tx_says_24 h1 rfl ?_
          refine ev_iload_n i_Tx_says_27 rfl ?_
          refine ev_caldN i_Tx_says_28 h3 (by omega) (by decide) ?_
          rw [h5 m (by omega)]
          refine ev_aload_n i_Tx_says_29 rfl ?_
          refine ev_iload_n i_Tx_says_30 rfl ?_
          refine ev_callVS1 i_Tx_says_31 rfl hi (Nat.le_of_ble_eq_true rfl) (c_charAt hi (by omega)) ?_
          refine ev_icmp_eqN i_Tx_says_34 (by omega) (by omega) (fun hc_34 => ?_) (fun hc_34 => ?_)
          · skip
            exact absurd hc_34 hm2
          · skip
            refine ev_iconstN (v := 0) i_Tx_says_37 (by decide) ?_
            exact ev_iret i_Tx_says_38 rfl (by first | rfl | decide)
    · skip
      exfalso; omega
  · rw [hcl] at hcb
    refine MetA.of rfl (by decide +kernel) (Nat.le_of_ble_eq_true rfl) ?_
    refine ev_aload_n i_Tx_says_0 rfl ?_
    refine ev_get i_Tx_says_1 h1 rfl ?_
    refine ev_aload_n i_Tx_says_4 rfl ?_
    refine ev_callVS0 i_Tx_says_5 rfl hi (Nat.le_of_ble_eq_true rfl) (c_length hi) ?_
    rw [hcl]
    refine ev_icmp_eqN i_Tx_says_8 (by omega) (by omega) (fun hc_8 => ?_) (fun hc_8 => ?_)
    · skip
      exfalso; omega
    · skip
      refine ev_iconstN (v := 0) i_Tx_says_11 (by decide) ?_
      exact ev_iret i_Tx_says_12 rfl (by first | rfl | decide)
theorem x_cmdName {scr : Scr} {l : Launch} {S : Sto} {d i : Nat} (hi : i < 7) : MetA scr l d M_Pr_commandName [.int (nI i)] S (.inl (some (.ref (1000 + i))), S) := by
  rcases (show i = 0 ∨ i = 1 ∨ i = 2 ∨ i = 3 ∨ i = 4 ∨ i = 5 ∨ i = 6 by omega) with rfl | rfl | rfl | rfl | rfl | rfl | rfl
  · refine MetA.of rfl (by decide +kernel) (Nat.le_of_ble_eq_true rfl) ?_
    refine ev_iload_n i_Pr_commandName_0 rfl ?_
    refine ev_switch (tgt := 64) ⟨_, _, _, _, _, i_Pr_commandName_1, Or.inr ⟨Or.inl (by decide), rfl⟩⟩ ?_
    refine ev_LdcS i_Pr_commandName_64 ?_
    exact ev_aret i_Pr_commandName_67 rfl (Or.inl ⟨_, rfl⟩)
  · refine MetA.of rfl (by decide +kernel) (Nat.le_of_ble_eq_true rfl) ?_
    refine ev_iload_n i_Pr_commandName_0 rfl ?_
    refine ev_switch (tgt := 40) ⟨_, _, _, _, _, i_Pr_commandName_1, Or.inl ⟨by decide, by decide, _, rfl, rfl⟩⟩ ?_
    refine ev_LdcS i_Pr_commandName_40 ?_
    exact ev_aret i_Pr_commandName_43 rfl (Or.inl ⟨_, rfl⟩)
  · refine MetA.of rfl (by decide +kernel) (Nat.le_of_ble_eq_true rfl) ?_
    refine ev_iload_n i_Pr_commandName_0 rfl ?_
    refine ev_switch (tgt := 44) ⟨_, _, _, _, _, i_Pr_commandName_1, Or.inl ⟨by decide, by decide, _, rfl, rfl⟩⟩ ?_
    refine ev_LdcS i_Pr_commandName_44 ?_
    exact ev_aret i_Pr_commandName_47 rfl (Or.inl ⟨_, rfl⟩)
  · refine MetA.of rfl (by decide +kernel) (Nat.le_of_ble_eq_true rfl) ?_
    refine ev_iload_n i_Pr_commandName_0 rfl ?_
    refine ev_switch (tgt := 48) ⟨_, _, _, _, _, i_Pr_commandName_1, Or.inl ⟨by decide, by decide, _, rfl, rfl⟩⟩ ?_
    refine ev_LdcS i_Pr_commandName_48 ?_
    exact ev_aret i_Pr_commandName_51 rfl (Or.inl ⟨_, rfl⟩)
  · refine MetA.of rfl (by decide +kernel) (Nat.le_of_ble_eq_true rfl) ?_
    refine ev_iload_n i_Pr_commandName_0 rfl ?_
    refine ev_switch (tgt := 52) ⟨_, _, _, _, _, i_Pr_commandName_1, Or.inl ⟨by decide, by decide, _, rfl, rfl⟩⟩ ?_
    refine ev_LdcS i_Pr_commandName_52 ?_
    exact ev_aret i_Pr_commandName_55 rfl (Or.inl ⟨_, rfl⟩)
  · refine MetA.of rfl (by decide +kernel) (Nat.le_of_ble_eq_true rfl) ?_
    refine ev_iload_n i_Pr_commandName_0 rfl ?_
    refine ev_switch (tgt := 56) ⟨_, _, _, _, _, i_Pr_commandName_1, Or.inl ⟨by decide, by decide, _, rfl, rfl⟩⟩ ?_
    refine ev_LdcS i_Pr_commandName_56 ?_
    exact ev_aret i_Pr_commandName_59 rfl (Or.inl ⟨_, rfl⟩)
  · refine MetA.of rfl (by decide +kernel) (Nat.le_of_ble_eq_true rfl) ?_
    refine ev_iload_n i_Pr_commandName_0 rfl ?_
    refine ev_switch (tgt := 60) ⟨_, _, _, _, _, i_Pr_commandName_1, Or.inl ⟨by decide, by decide, _, rfl, rfl⟩⟩ ?_
    refine ev_LdcS i_Pr_commandName_60 ?_
    exact ev_aret i_Pr_commandName_63 rfl (Or.inl ⟨_, rfl⟩)
theorem x_cmdIn {scr : Scr} {l : Launch} {S : Sto} {σ : Sg} {d k : Nat} (h : XInv σ S) (hk : CmdIs σ.1 k) (h7 : k < 7) : MetA scr l (d + 5) M_Pr_commandInText [.ref 0] S (.inl (some (.int (nI k))), S) := by
  refine MetA.of rfl (by decide +kernel) (Nat.le_of_ble_eq_true rfl) ?_
  refine ev_iconstN (v := 0) i_Pr_commandInText_0 (by decide) ?_
  refine ev_ist_n_1 i_Pr_commandInText_1 rfl ?_
  refine ev_loop (n := k) (fun i => [some (.ref 0), some (.int (nI i))]) (fun i => S) (fun i hi ki => ?_) ?_
  · try dsimp only at ki ⊢
    refine ev_iload_n i_Pr_commandInText_2 rfl ?_
    refine ev_bipushN (v := 7) i_Pr_commandInText_3 (by decide) ?_
    refine ev_icmp_geN i_Pr_commandInText_5 (by omega) (by omega) (fun hc_5 => ?_) (fun hc_5 => ?_)
    · skip
      exfalso; omega
    · skip
      refine ev_aload_n i_Pr_commandInText_8 rfl ?_
      refine ev_get i_Pr_commandInText_9 h.1 rfl ?_
      refine ev_iload_n i_Pr_commandInText_12 rfl ?_
      refine ev_callS1 i_Pr_commandInText_13 rfl (Nat.le_of_ble_eq_true rfl) (x_cmdName (by omega)) ?_
      refine ev_callV1 i_Pr_commandInText_16 rfl h.2.1.1.1 (Nat.le_of_ble_eq_true rfl) (t_says_n h.2.1 (by omega) (hk.2.1 i hi)) ?_
      refine ev_if_eqN i_Pr_commandInText_19 (by omega) (fun hc_19 => ?_) (fun hc_19 => ?_)
      · skip
        refine ev_iincN_1 (c := 1) i_Pr_commandInText_24 (by decide) rfl ?_
        refine ev_goto i_Pr_commandInText_27 ?_
        exact ki
      · skip
        exfalso; omega
  · try dsimp only
    refine ev_iload_n i_Pr_commandInText_2 rfl ?_
    refine ev_bipushN (v := 7) i_Pr_commandInText_3 (by decide) ?_
    refine ev_icmp_geN i_Pr_commandInText_5 (by omega) (by omega) (fun hc_5 => ?_) (fun hc_5 => ?_)
    · skip
      exfalso; omega
    · skip
      refine ev_aload_n i_Pr_commandInText_8 rfl ?_
      refine ev_get i_Pr_commandInText_9 h.1 rfl ?_
      refine ev_iload_n i_Pr_commandInText_12 rfl ?_
      refine ev_callS1 i_Pr_commandInText_13 rfl (Nat.le_of_ble_eq_true rfl) (x_cmdName (by omega)) ?_
      refine ev_callV1 i_Pr_commandInText_16 rfl h.2.1.1.1 (Nat.le_of_ble_eq_true rfl) (t_says_y h.2.1 (by omega) (hk.2.2 h7)) ?_
      refine ev_if_eqN i_Pr_commandInText_19 (by omega) (fun hc_19 => ?_) (fun hc_19 => ?_)
      · skip
        exfalso; omega
      · skip
        refine ev_iload_n i_Pr_commandInText_22 rfl ?_
        exact ev_iret i_Pr_commandInText_23 rfl (by first | rfl | decide)
theorem x_cmdIn_no {scr : Scr} {l : Launch} {S : Sto} {σ : Sg} {d k : Nat} (h : XInv σ S) (hk : CmdIs σ.1 k) (h7 : k = 7) : MetA scr l (d + 5) M_Pr_commandInText [.ref 0] S (.inl (some (.int (-1))), S) := by
  refine MetA.of rfl (by decide +kernel) (Nat.le_of_ble_eq_true rfl) ?_
  refine ev_iconstN (v := 0) i_Pr_commandInText_0 (by decide) ?_
  refine ev_ist_n_1 i_Pr_commandInText_1 rfl ?_
  refine ev_loop (n := k) (fun i => [some (.ref 0), some (.int (nI i))]) (fun i => S) (fun i hi ki => ?_) ?_
  · try dsimp only at ki ⊢
    refine ev_iload_n i_Pr_commandInText_2 rfl ?_
    refine ev_bipushN (v := 7) i_Pr_commandInText_3 (by decide) ?_
    refine ev_icmp_geN i_Pr_commandInText_5 (by omega) (by omega) (fun hc_5 => ?_) (fun hc_5 => ?_)
    · skip
      exfalso; omega
    · skip
      refine ev_aload_n i_Pr_commandInText_8 rfl ?_
      refine ev_get i_Pr_commandInText_9 h.1 rfl ?_
      refine ev_iload_n i_Pr_commandInText_12 rfl ?_
      refine ev_callS1 i_Pr_commandInText_13 rfl (Nat.le_of_ble_eq_true rfl) (x_cmdName (by omega)) ?_
      refine ev_callV1 i_Pr_commandInText_16 rfl h.2.1.1.1 (Nat.le_of_ble_eq_true rfl) (t_says_n h.2.1 (by omega) (hk.2.1 i hi)) ?_
      refine ev_if_eqN i_Pr_commandInText_19 (by omega) (fun hc_19 => ?_) (fun hc_19 => ?_)
      · skip
        refine ev_iincN_1 (c := 1) i_Pr_commandInText_24 (by decide) rfl ?_
        refine ev_goto i_Pr_commandInText_27 ?_
        exact ki
      · skip
        exfalso; omega
  · try dsimp only
    refine ev_iload_n i_Pr_commandInText_2 rfl ?_
    refine ev_bipushN (v := 7) i_Pr_commandInText_3 (by decide) ?_
    refine ev_icmp_geN i_Pr_commandInText_5 (by omega) (by omega) (fun hc_5 => ?_) (fun hc_5 => ?_)
    · skip
      refine ev_iconst (v := -1) i_Pr_commandInText_30 (by decide) ?_
      exact ev_iret i_Pr_commandInText_31 rfl (by first | rfl | decide)
    · skip
      exfalso; omega
def setCmd (C : Core) (a k : Nat) : Core := (C.1, C.2.1, C.2.2.1, fun j => if j = a then k else C.2.2.2 j)
theorem XThr.of1 {scr : Scr} {l : Launch} {K : Nat} {M : Mth} {as : List Value} {S : Sto} {E : String} {σ : Sg} (h : XInv σ S) (hm : ∀ d, MetA scr l (d + K) M as S (.inr E, S.thrown)) : XThr scr l K M as S E σ := XThr.of h hm
theorem x_setCmd {scr : Scr} {l : Launch} {S : Sto} {σ : Sg} {a k : Nat} (h : XInv σ S) (ha : a < 6) (hk : CmdIs σ.1 k) (h7 : k < 7) : XRun scr l 6 M_Pr_setCommand [.ref 0, .int (nI a)] S none (σ.1, setCmd σ.2.1 a k, σ.2.2) := by
  obtain ⟨q1, q2, q3, q4, q5, g, hg, q6⟩ := h.2.2.1
  have hF : Fr [21] S (S.put 21 (aI 6 (upd g a (nI k)))) := Fr.put _ _ (by simp)
  refine ⟨S.put 21 (aI 6 (upd g a (nI k))), fun d => ?_, h.live hF (by decide) ⟨hF.at q1 (by decide), ?_, fun j hj => (q3 j hj).fr hF ⟨by simp; omega, by simp; omega, by simp; omega, by simp; omega⟩, q4.fr hF ⟨by decide, by decide⟩, q5.fr hF ⟨by decide, by decide⟩, upd g a (nI k), put_self hg, fun j hj => ?_⟩, hF.x (by decide)⟩
  · refine MetA.of rfl (by decide +kernel) (Nat.le_of_ble_eq_true rfl) ?_
    refine ev_iload_n i_Pr_setCommand_0 rfl ?_
    refine ev_callS1 i_Pr_setCommand_1 rfl (Nat.le_of_ble_eq_true rfl) (x_checkLetter ha) ?_
    refine ev_aload_n i_Pr_setCommand_4 rfl ?_
    refine ev_callV0 i_Pr_setCommand_5 rfl h.1 (Nat.le_of_ble_eq_true rfl) (x_cmdIn h hk h7) ?_
    refine ev_ist_n_2 i_Pr_setCommand_8 rfl ?_
    refine ev_iload_n i_Pr_setCommand_9 rfl ?_
    refine ev_iconst (v := -1) i_Pr_setCommand_10 (by decide) ?_
    refine ev_icmp_ne i_Pr_setCommand_11 (fun hc_11 => ?_) (fun hc_11 => ?_)
    · skip
      refine ev_aload_n i_Pr_setCommand_25 rfl ?_
      refine ev_get i_Pr_setCommand_26 h.1 rfl ?_
      refine ev_get i_Pr_setCommand_29 h.2.2.1.1 rfl ?_
      refine ev_iload_n i_Pr_setCommand_32 rfl ?_
      refine ev_iload_n i_Pr_setCommand_33 rfl ?_
      refine ev_iastN i_Pr_setCommand_34 hg (by omega) (by decide) ?_
      exact ev_vret i_Pr_setCommand_35 rfl
    · skip
      exact absurd hc_11 (nI_ne_m1 (by omega))
  · obtain ⟨f, f1, f2⟩ := q2
    exact ⟨f, hF.at f1 (by decide), f2⟩
  · show upd g a (nI k) j = nI (if j = a then k else σ.2.1.2.2.2 j) ∧ (if j = a then k else σ.2.1.2.2.2 j) < 7
    by_cases z : j = a
    · rw [if_pos z, z, updN_at]
      exact ⟨rfl, h7⟩
    · rw [if_neg z, updN_ne z]
      exact q6 j hj
theorem x_setCmd_1 {scr : Scr} {l : Launch} {S : Sto} {σ : Sg} {p : Int32} (h : XInv σ S) (hp : ¬ inR 6 p) : XThr scr l 6 M_Pr_setCommand [.ref 0, .int p] S xIob σ := by
  refine XThr.of h (fun d => ?_)
  refine MetA.of rfl (by decide +kernel) (Nat.le_of_ble_eq_true rfl) ?_
  refine ev_iload_n i_Pr_setCommand_0 rfl ?_
  exact ev_callS1x rfl i_Pr_setCommand_1 rfl (Nat.le_of_ble_eq_true rfl) (x_checkLetter_no hp)
theorem x_setCmd_2 {scr : Scr} {l : Launch} {S : Sto} {σ : Sg} {a k : Nat} (h : XInv σ S) (ha : a < 6) (hk : CmdIs σ.1 k) (h7 : k = 7) : XThr scr l 6 M_Pr_setCommand [.ref 0, .int (nI a)] S xIae σ := by
  refine XThr.of h (fun d => ?_)
  refine MetA.of rfl (by decide +kernel) (Nat.le_of_ble_eq_true rfl) ?_
  refine ev_iload_n i_Pr_setCommand_0 rfl ?_
  refine ev_callS1 i_Pr_setCommand_1 rfl (Nat.le_of_ble_eq_true rfl) (x_checkLetter ha) ?_
  refine ev_aload_n i_Pr_setCommand_4 rfl ?_
  refine ev_callV0 i_Pr_setCommand_5 rfl h.1 (Nat.le_of_ble_eq_true rfl) (x_cmdIn_no h hk h7) ?_
  refine ev_ist_n_2 i_Pr_setCommand_8 rfl ?_
  refine ev_iload_n i_Pr_setCommand_9 rfl ?_
  refine ev_iconst (v := -1) i_Pr_setCommand_10 (by decide) ?_
  refine ev_icmp_ne i_Pr_setCommand_11 (fun hc_11 => ?_) (fun hc_11 => ?_)
  · skip
    exact absurd rfl hc_11
  · skip
    exact ev_throw i_Pr_setCommand_14 ex_Iae rfl rfl (Nat.le_of_ble_eq_true rfl)
theorem m_isText_y {scr : Scr} {l : Launch} {S : Sto} {σ : Sg} {th : Nat} {d i : Nat} (hM : MInv th σ S) (hi : i < 7) (h : σ.1 = (cmdN.getD i [])) : MetA scr l (d + 4) M_Md_isText [.ref 105, .ref (1000 + i)] S (.inl (some (.int (nI 1))), S) := by
  obtain ⟨dr, mo, sc, h0⟩ := hM.get
  obtain ⟨h60, g, g1, g2⟩ := hM.2.1
  have hcl := (cmd_len i hi).2
  have hcb := (cmd_len i hi).1
  have hl : σ.1.length = (cmdN.getD i []).length := by rw [h]
  have hall : ∀ j, j < σ.1.length → σ.1.getD j 0 = (cmdN.getD i []).getD j 0 := fun j _ => by rw [h]
  refine MetA.of rfl (by decide +kernel) (Nat.le_of_ble_eq_true rfl) ?_
  refine ev_aload_n i_Md_isText_0 rfl ?_
  refine ev_get i_Md_isText_1 h0 rfl ?_
  refine ev_aload_n i_Md_isText_4 rfl ?_
  refine ev_callVS0 i_Md_isText_5 rfl hi (Nat.le_of_ble_eq_true rfl) (c_length hi) ?_
  rw [hcl]
  refine ev_icmp_neN i_Md_isText_8 (by omega) (by omega) (fun hc_8 => ?_) (fun hc_8 => ?_)
  · skip
    exfalso; omega
  · skip
    refine ev_iconstN (v := 1) i_Md_isText_11 (by decide) ?_
    refine ev_goto i_Md_isText_12 ?_
    refine ev_ist_n_2 i_Md_isText_16 rfl ?_
    refine ev_iconstN (v := 0) i_Md_isText_17 (by decide) ?_
    refine ev_ist_n_3 i_Md_isText_18 rfl ?_
    refine ev_loop (n := σ.1.length) (fun i0 => [some (.ref 105), some (.ref (1000 + i)), some (.int (nI 1)), some (.int (nI i0))]) (fun i0 => S) (fun i0 hi0 ki0 => ?_) ?_
    · try dsimp only at ki0 ⊢
      have b1 := cmd_lt i hi i0 (by omega)
      have b2 := g2 i0 hi0
      refine ev_iload_n i_Md_isText_19 rfl ?_
      refine ev_aload_n i_Md_isText_20 rfl ?_
      refine ev_get i_Md_isText_21 h0 rfl ?_
      refine ev_icmp_geN i_Md_isText_24 (by omega) (by omega) (fun hc_24 => ?_) (fun hc_24 => ?_)
      · skip
        exfalso; omega
      · skip
        refine ev_iload_n i_Md_isText_27 rfl ?_
        refine ev_if_eqN i_Md_isText_28 (by omega) (fun hc_28 => ?_) (fun hc_28 => ?_)
        · skip
          exfalso; omega
        · skip
          refine ev_aload_n i_Md_isText_31 rfl ?_
          refine ev_get i_Md_isText_32 h0 rfl ?_
          refine ev_iload_n i_Md_isText_35 rfl ?_
          refine ev_ialdN i_Md_isText_36 g1 (by omega) (by decide) ?_
          rw [(g2 i0 (by omega)).1]
          refine ev_aload_n i_Md_isText_37 rfl ?_
          refine ev_iload_n i_Md_isText_38 rfl ?_
          refine ev_callVS1 i_Md_isText_39 rfl hi (Nat.le_of_ble_eq_true rfl) (c_charAt hi (by omega)) ?_
          refine ev_icmp_neN i_Md_isText_42 (by omega) (by omega) (fun hc_42 => ?_) (fun hc_42 => ?_)
          · skip
            exact absurd (hall i0 (by omega)) hc_42
          · skip
            refine ev_iconstN (v := 1) i_Md_isText_45 (by decide) ?_
            refine ev_goto i_Md_isText_46 ?_
            refine ev_ist_n_2 i_Md_isText_50 rfl ?_
            refine ev_iincN_3 (c := 1) i_Md_isText_51 (by decide) rfl ?_
            refine ev_goto i_Md_isText_54 ?_
            exact ki0
    · try dsimp only
      refine ev_iload_n i_Md_isText_19 rfl ?_
      refine ev_aload_n i_Md_isText_20 rfl ?_
      refine ev_get i_Md_isText_21 h0 rfl ?_
      refine ev_icmp_geN i_Md_isText_24 (by omega) (by omega) (fun hc_24 => ?_) (fun hc_24 => ?_)
      · skip
        refine ev_iload_n i_Md_isText_57 rfl ?_
        exact ev_iret i_Md_isText_58 rfl (by first | rfl | decide)
      · skip
        exfalso; omega
theorem m_isText_n {scr : Scr} {l : Launch} {S : Sto} {σ : Sg} {th : Nat} {d i : Nat} (hM : MInv th σ S) (hi : i < 7) (h : σ.1 ≠ (cmdN.getD i [])) : MetA scr l (d + 4) M_Md_isText [.ref 105, .ref (1000 + i)] S (.inl (some (.int (nI 0))), S) := by
  obtain ⟨dr, mo, sc, h0⟩ := hM.get
  obtain ⟨h60, g, g1, g2⟩ := hM.2.1
  have hcl := (cmd_len i hi).2
  have hcb := (cmd_len i hi).1
  by_cases hl : σ.1.length = (cmdN.getD i []).length
  · obtain ⟨m, hm1, hm2, hm3⟩ := cmd_diff hl h
    refine MetA.of rfl (by decide +kernel) (Nat.le_of_ble_eq_true rfl) ?_
    refine ev_aload_n i_Md_isText_0 rfl ?_
    refine ev_get i_Md_isText_1 h0 rfl ?_
    refine ev_aload_n i_Md_isText_4 rfl ?_
    refine ev_callVS0 i_Md_isText_5 rfl hi (Nat.le_of_ble_eq_true rfl) (c_length hi) ?_
    rw [hcl]
    refine ev_icmp_neN i_Md_isText_8 (by omega) (by omega) (fun hc_8 => ?_) (fun hc_8 => ?_)
    · skip
      exfalso; omega
    · skip
      refine ev_iconstN (v := 1) i_Md_isText_11 (by decide) ?_
      refine ev_goto i_Md_isText_12 ?_
      refine ev_ist_n_2 i_Md_isText_16 rfl ?_
      refine ev_iconstN (v := 0) i_Md_isText_17 (by decide) ?_
      refine ev_ist_n_3 i_Md_isText_18 rfl ?_
      refine ev_loop (n := m) (fun i0 => [some (.ref 105), some (.ref (1000 + i)), some (.int (nI 1)), some (.int (nI i0))]) (fun i0 => S) (fun i0 hi0 ki0 => ?_) ?_
      · try dsimp only at ki0 ⊢
        have b1 := cmd_lt i hi i0 (by omega)
        have b2 := g2 i0 (by omega)
        refine ev_iload_n i_Md_isText_19 rfl ?_
        refine ev_aload_n i_Md_isText_20 rfl ?_
        refine ev_get i_Md_isText_21 h0 rfl ?_
        refine ev_icmp_geN i_Md_isText_24 (by omega) (by omega) (fun hc_24 => ?_) (fun hc_24 => ?_)
        · skip
          exfalso; omega
        · skip
          refine ev_iload_n i_Md_isText_27 rfl ?_
          refine ev_if_eqN i_Md_isText_28 (by omega) (fun hc_28 => ?_) (fun hc_28 => ?_)
          · skip
            exfalso; omega
          · skip
            refine ev_aload_n i_Md_isText_31 rfl ?_
            refine ev_get i_Md_isText_32 h0 rfl ?_
            refine ev_iload_n i_Md_isText_35 rfl ?_
            refine ev_ialdN i_Md_isText_36 g1 (by omega) (by decide) ?_
            rw [(g2 i0 (by omega)).1]
            refine ev_aload_n i_Md_isText_37 rfl ?_
            refine ev_iload_n i_Md_isText_38 rfl ?_
            refine ev_callVS1 i_Md_isText_39 rfl hi (Nat.le_of_ble_eq_true rfl) (c_charAt hi (by omega)) ?_
            refine ev_icmp_neN i_Md_isText_42 (by omega) (by omega) (fun hc_42 => ?_) (fun hc_42 => ?_)
            · skip
              exact absurd (hm3 i0 hi0) hc_42
            · skip
              refine ev_iconstN (v := 1) i_Md_isText_45 (by decide) ?_
              refine ev_goto i_Md_isText_46 ?_
              refine ev_ist_n_2 i_Md_isText_50 rfl ?_
              refine ev_iincN_3 (c := 1) i_Md_isText_51 (by decide) rfl ?_
              refine ev_goto i_Md_isText_54 ?_
              exact ki0
      · try dsimp only
        have b1 := cmd_lt i hi m (by omega)
        have b2 := g2 m hm1
        refine ev_iload_n i_Md_isText_19 rfl ?_
        refine ev_aload_n i_Md_isText_20 rfl ?_
        refine ev_get i_Md_isText_21 h0 rfl ?_
        refine ev_icmp_geN i_Md_isText_24 (by omega) (by omega) (fun hc_24 => ?_) (fun hc_24 => ?_)
        · skip
          exfalso; omega
        · skip
          refine ev_iload_n i_Md_isText_27 rfl ?_
          refine ev_if_eqN i_Md_isText_28 (by omega) (fun hc_28 => ?_) (fun hc_28 => ?_)
          · skip
            exfalso; omega
          · skip
            refine ev_aload_n i_Md_isText_31 rfl ?_
            refine ev_get i_Md_isText_32 h0 rfl ?_
            refine ev_iload_n i_Md_isText_35 rfl ?_
            refine ev_ialdN i_Md_isText_36 g1 (by omega) (by decide) ?_
            rw [(g2 m (by omega)).1]
            refine ev_aload_n i_Md_isText_37 rfl ?_
            refine ev_iload_n i_Md_isText_38 rfl ?_
            refine ev_callVS1 i_Md_isText_39 rfl hi (Nat.le_of_ble_eq_true rfl) (c_charAt hi (by omega)) ?_
            refine ev_icmp_neN i_Md_isText_42 (by omega) (by omega) (fun hc_42 => ?_) (fun hc_42 => ?_)
            · skip
              refine ev_iconstN (v := 0) i_Md_isText_49 (by decide) ?_
              refine ev_ist_n_2 i_Md_isText_50 rfl ?_
              refine ev_iincN_3 (c := 1) i_Md_isText_51 (by decide) rfl ?_
              refine ev_goto i_Md_isText_54 ?_
              by_cases hq : σ.1.length ≤ m + 1
              · skip
                refine ev_iload_n i_Md_isText_19 rfl ?_
                refine ev_aload_n i_Md_isText_20 rfl ?_
                refine ev_get i_Md_isText_21 h0 rfl ?_
                refine ev_icmp_geN i_Md_isText_24 (by omega) (by omega) (fun hc_24 => ?_) (fun hc_24 => ?_)
                · skip
                  refine ev_iload_n i_Md_isText_57 rfl ?_
                  exact ev_iret i_Md_isText_58 rfl (by first | rfl | decide)
                · skip
                  exfalso; omega
              · skip
                refine ev_iload_n i_Md_isText_19 rfl ?_
                refine ev_aload_n i_Md_isText_20 rfl ?_
                refine ev_get i_Md_isText_21 h0 rfl ?_
                refine ev_icmp_geN i_Md_isText_24 (by omega) (by omega) (fun hc_24 => ?_) (fun hc_24 => ?_)
                · skip
                  exfalso; omega
                · skip
                  refine ev_iload_n i_Md_isText_27 rfl ?_
                  refine ev_if_eqN i_Md_isText_28 (by omega) (fun hc_28 => ?_) (fun hc_28 => ?_)
                  · skip
                    refine ev_iload_n i_Md_isText_57 rfl ?_
                    exact ev_iret i_Md_isText_58 rfl (by first | rfl | decide)
                  · skip
                    exfalso; omega
            · skip
              exact absurd hc_42 hm2
  · rw [hcl] at hcb
    refine MetA.of rfl (by decide +kernel) (Nat.le_of_ble_eq_true rfl) ?_
    refine ev_aload_n i_Md_isText_0 rfl ?_
    refine ev_get i_Md_isText_1 h0 rfl ?_
    refine ev_aload_n i_Md_isText_4 rfl ?_
    refine ev_callVS0 i_Md_isText_5 rfl hi (Nat.le_of_ble_eq_true rfl) (c_length hi) ?_
    rw [hcl]
    refine ev_icmp_neN i_Md_isText_8 (by omega) (by omega) (fun hc_8 => ?_) (fun hc_8 => ?_)
    · skip
      refine ev_iconstN (v := 0) i_Md_isText_15 (by decide) ?_
      refine ev_ist_n_2 i_Md_isText_16 rfl ?_
      refine ev_iconstN (v := 0) i_Md_isText_17 (by decide) ?_
      refine ev_ist_n_3 i_Md_isText_18 rfl ?_
      by_cases hq : σ.1.length ≤ 0
      · skip
        refine ev_iload_n i_Md_isText_19 rfl ?_
        refine ev_aload_n i_Md_isText_20 rfl ?_
        refine ev_get i_Md_isText_21 h0 rfl ?_
        refine ev_icmp_geN i_Md_isText_24 (by omega) (by omega) (fun hc_24 => ?_) (fun hc_24 => ?_)
        · skip
          refine ev_iload_n i_Md_isText_57 rfl ?_
          exact ev_iret i_Md_isText_58 rfl (by first | rfl | decide)
        · skip
          exfalso; omega
      · skip
        refine ev_iload_n i_Md_isText_19 rfl ?_
        refine ev_aload_n i_Md_isText_20 rfl ?_
        refine ev_get i_Md_isText_21 h0 rfl ?_
        refine ev_icmp_geN i_Md_isText_24 (by omega) (by omega) (fun hc_24 => ?_) (fun hc_24 => ?_)
        · skip
          exfalso; omega
        · skip
          refine ev_iload_n i_Md_isText_27 rfl ?_
          refine ev_if_eqN i_Md_isText_28 (by omega) (fun hc_28 => ?_) (fun hc_28 => ?_)
          · skip
            refine ev_iload_n i_Md_isText_57 rfl ?_
            exact ev_iret i_Md_isText_58 rfl (by first | rfl | decide)
          · skip
            exfalso; omega
    · skip
      exfalso; omega
theorem m_cmdOf {scr : Scr} {l : Launch} {S : Sto} {σ : Sg} {th : Nat} {d k : Nat} (hM : MInv th σ S) (hk : CmdIs σ.1 k) : MetA scr l (d + 5) M_Md_commandOfText [.ref 105] S (.inl (some (.int (if k < 7 then nI k else -1))), S) := by
  obtain ⟨dr, mo, sc, h0⟩ := hM.get
  have hk8 := hk.1
  rcases (show k = 0 ∨ k = 1 ∨ k = 2 ∨ k = 3 ∨ k = 4 ∨ k = 5 ∨ k = 6 ∨ k = 7 by omega) with rfl | rfl | rfl | rfl | rfl | rfl | rfl | rfl
  · rw [if_pos (by decide)]
    refine MetA.of rfl (by decide +kernel) (Nat.le_of_ble_eq_true rfl) ?_
    refine ev_aload_n i_Md_commandOfText_0 rfl ?_
    refine ev_LdcS i_Md_commandOfText_1 ?_
    refine ev_callV1 i_Md_commandOfText_4 rfl h0 (Nat.le_of_ble_eq_true rfl) (m_isText_y (i := 0) hM (by decide) (hk.2.2 (by decide))) ?_
    refine ev_if_eqN i_Md_commandOfText_7 (by omega) (fun hc_7 => ?_) (fun hc_7 => ?_)
    · skip
      exfalso; omega
    · skip
      refine ev_iconstN (v := 0) i_Md_commandOfText_10 (by decide) ?_
      refine ev_goto i_Md_commandOfText_11 ?_
      exact ev_iret i_Md_commandOfText_100 rfl (by first | rfl | decide)
  · rw [if_pos (by decide)]
    refine MetA.of rfl (by decide +kernel) (Nat.le_of_ble_eq_true rfl) ?_
    refine ev_aload_n i_Md_commandOfText_0 rfl ?_
    refine ev_LdcS i_Md_commandOfText_1 ?_
    refine ev_callV1 i_Md_commandOfText_4 rfl h0 (Nat.le_of_ble_eq_true rfl) (m_isText_n (i := 0) hM (by decide) (hk.2.1 0 (by decide))) ?_
    refine ev_if_eqN i_Md_commandOfText_7 (by omega) (fun hc_7 => ?_) (fun hc_7 => ?_)
    · skip
      refine ev_aload_n i_Md_commandOfText_14 rfl ?_
      refine ev_LdcS i_Md_commandOfText_15 ?_
      refine ev_callV1 i_Md_commandOfText_18 rfl h0 (Nat.le_of_ble_eq_true rfl) (m_isText_y (i := 1) hM (by decide) (hk.2.2 (by decide))) ?_
      refine ev_if_eqN i_Md_commandOfText_21 (by omega) (fun hc_21 => ?_) (fun hc_21 => ?_)
      · skip
        exfalso; omega
      · skip
        refine ev_iconstN (v := 1) i_Md_commandOfText_24 (by decide) ?_
        refine ev_goto i_Md_commandOfText_25 ?_
        exact ev_iret i_Md_commandOfText_100 rfl (by first | rfl | decide)
    · skip
      exfalso; omega
  · rw [if_pos (by decide)]
    refine MetA.of rfl (by decide +kernel) (Nat.le_of_ble_eq_true rfl) ?_
    refine ev_aload_n i_Md_commandOfText_0 rfl ?_
    refine ev_LdcS i_Md_commandOfText_1 ?_
    refine ev_callV1 i_Md_commandOfText_4 rfl h0 (Nat.le_of_ble_eq_true rfl) (m_isText_n (i := 0) hM (by decide) (hk.2.1 0 (by decide))) ?_
    refine ev_if_eqN i_Md_commandOfText_7 (by omega) (fun hc_7 => ?_) (fun hc_7 => ?_)
    · skip
      refine ev_aload_n i_Md_commandOfText_14 rfl ?_
      refine ev_LdcS i_Md_commandOfText_15 ?_
      refine ev_callV1 i_Md_commandOfText_18 rfl h0 (Nat.le_of_ble_eq_true rfl) (m_isText_n (i := 1) hM (by decide) (hk.2.1 1 (by decide))) ?_
      refine ev_if_eqN i_Md_commandOfText_21 (by omega) (fun hc_21 => ?_) (fun hc_21 => ?_)
      · skip
        refine ev_aload_n i_Md_commandOfText_28 rfl ?_
        refine ev_LdcS i_Md_commandOfText_29 ?_
        refine ev_callV1 i_Md_commandOfText_32 rfl h0 (Nat.le_of_ble_eq_true rfl) (m_isText_y (i := 2) hM (by decide) (hk.2.2 (by decide))) ?_
        refine ev_if_eqN i_Md_commandOfText_35 (by omega) (fun hc_35 => ?_) (fun hc_35 => ?_)
        · skip
          exfalso; omega
        · skip
          refine ev_iconstN (v := 2) i_Md_commandOfText_38 (by decide) ?_
          refine ev_goto i_Md_commandOfText_39 ?_
          exact ev_iret i_Md_commandOfText_100 rfl (by first | rfl | decide)
      · skip
        exfalso; omega
    · skip
      exfalso; omega
  · rw [if_pos (by decide)]
    refine MetA.of rfl (by decide +kernel) (Nat.le_of_ble_eq_true rfl) ?_
    refine ev_aload_n i_Md_commandOfText_0 rfl ?_
    refine ev_LdcS i_Md_commandOfText_1 ?_
    refine ev_callV1 i_Md_commandOfText_4 rfl h0 (Nat.le_of_ble_eq_true rfl) (m_isText_n (i := 0) hM (by decide) (hk.2.1 0 (by decide))) ?_
    refine ev_if_eqN i_Md_commandOfText_7 (by omega) (fun hc_7 => ?_) (fun hc_7 => ?_)
    · skip
      refine ev_aload_n i_Md_commandOfText_14 rfl ?_
      refine ev_LdcS i_Md_commandOfText_15 ?_
      refine ev_callV1 i_Md_commandOfText_18 rfl h0 (Nat.le_of_ble_eq_true rfl) (m_isText_n (i := 1) hM (by decide) (hk.2.1 1 (by decide))) ?_
      refine ev_if_eqN i_Md_commandOfText_21 (by omega) (fun hc_21 => ?_) (fun hc_21 => ?_)
      · skip
        refine ev_aload_n i_Md_commandOfText_28 rfl ?_
        refine ev_LdcS i_Md_commandOfText_29 ?_
        refine ev_callV1 i_Md_commandOfText_32 rfl h0 (Nat.le_of_ble_eq_true rfl) (m_isText_n (i := 2) hM (by decide) (hk.2.1 2 (by decide))) ?_
        refine ev_if_eqN i_Md_commandOfText_35 (by omega) (fun hc_35 => ?_) (fun hc_35 => ?_)
        · skip
          refine ev_aload_n i_Md_commandOfText_42 rfl ?_
          refine ev_LdcS i_Md_commandOfText_43 ?_
          refine ev_callV1 i_Md_commandOfText_46 rfl h0 (Nat.le_of_ble_eq_true rfl) (m_isText_y (i := 3) hM (by decide) (hk.2.2 (by decide))) ?_
          refine ev_if_eqN i_Md_commandOfText_49 (by omega) (fun hc_49 => ?_) (fun hc_49 => ?_)
          · skip
            exfalso; omega
          · skip
            refine ev_iconstN (v := 3) i_Md_commandOfText_52 (by decide) ?_
            refine ev_goto i_Md_commandOfText_53 ?_
            exact ev_iret i_Md_commandOfText_100 rfl (by first | rfl | decide)
        · skip
          exfalso; omega
      · skip
        exfalso; omega
    · skip
      exfalso; omega
  · rw [if_pos (by decide)]
    refine MetA.of rfl (by decide +kernel) (Nat.le_of_ble_eq_true rfl) ?_
    refine ev_aload_n i_Md_commandOfText_0 rfl ?_
    refine ev_LdcS i_Md_commandOfText_1 ?_
    refine ev_callV1 i_Md_commandOfText_4 rfl h0 (Nat.le_of_ble_eq_true rfl) (m_isText_n (i := 0) hM (by decide) (hk.2.1 0 (by decide))) ?_
    refine ev_if_eqN i_Md_commandOfText_7 (by omega) (fun hc_7 => ?_) (fun hc_7 => ?_)
    · skip
      refine ev_aload_n i_Md_commandOfText_14 rfl ?_
      refine ev_LdcS i_Md_commandOfText_15 ?_
      refine ev_callV1 i_Md_commandOfText_18 rfl h0 (Nat.le_of_ble_eq_true rfl) (m_isText_n (i := 1) hM (by decide) (hk.2.1 1 (by decide))) ?_
      refine ev_if_eqN i_Md_commandOfText_21 (by omega) (fun hc_21 => ?_) (fun hc_21 => ?_)
      · skip
        refine ev_aload_n i_Md_commandOfText_28 rfl ?_
        refine ev_LdcS i_Md_commandOfText_29 ?_
        refine ev_callV1 i_Md_commandOfText_32 rfl h0 (Nat.le_of_ble_eq_true rfl) (m_isText_n (i := 2) hM (by decide) (hk.2.1 2 (by decide))) ?_
        refine ev_if_eqN i_Md_commandOfText_35 (by omega) (fun hc_35 => ?_) (fun hc_35 => ?_)
        · skip
          refine ev_aload_n i_Md_commandOfText_42 rfl ?_
          refine ev_LdcS i_Md_commandOfText_43 ?_
          refine ev_callV1 i_Md_commandOfText_46 rfl h0 (Nat.le_of_ble_eq_true rfl) (m_isText_n (i := 3) hM (by decide) (hk.2.1 3 (by decide))) ?_
          refine ev_if_eqN i_Md_commandOfText_49 (by omega) (fun hc_49 => ?_) (fun hc_49 => ?_)
          · skip
            refine ev_aload_n i_Md_commandOfText_56 rfl ?_
            refine ev_LdcS i_Md_commandOfText_57 ?_
            refine ev_callV1 i_Md_commandOfText_60 rfl h0 (Nat.le_of_ble_eq_true rfl) (m_isText_y (i := 4) hM (by decide) (hk.2.2 (by decide))) ?_
            refine ev_if_eqN i_Md_commandOfText_63 (by omega) (fun hc_63 => ?_) (fun hc_63 => ?_)
            · skip
              exfalso; omega
            · skip
              refine ev_iconstN (v := 4) i_Md_commandOfText_66 (by decide) ?_
              refine ev_goto i_Md_commandOfText_67 ?_
              exact ev_iret i_Md_commandOfText_100 rfl (by first | rfl | decide)
          · skip
            exfalso; omega
        · skip
          exfalso; omega
      · skip
        exfalso; omega
    · skip
      exfalso; omega
  · rw [if_pos (by decide)]
    refine MetA.of rfl (by decide +kernel) (Nat.le_of_ble_eq_true rfl) ?_
    refine ev_aload_n i_Md_commandOfText_0 rfl ?_
    refine ev_LdcS i_Md_commandOfText_1 ?_
    refine ev_callV1 i_Md_commandOfText_4 rfl h0 (Nat.le_of_ble_eq_true rfl) (m_isText_n (i := 0) hM (by decide) (hk.2.1 0 (by decide))) ?_
    refine ev_if_eqN i_Md_commandOfText_7 (by omega) (fun hc_7 => ?_) (fun hc_7 => ?_)
    · skip
      refine ev_aload_n i_Md_commandOfText_14 rfl ?_
      refine ev_LdcS i_Md_commandOfText_15 ?_
      refine ev_callV1 i_Md_commandOfText_18 rfl h0 (Nat.le_of_ble_eq_true rfl) (m_isText_n (i := 1) hM (by decide) (hk.2.1 1 (by decide))) ?_
      refine ev_if_eqN i_Md_commandOfText_21 (by omega) (fun hc_21 => ?_) (fun hc_21 => ?_)
      · skip
        refine ev_aload_n i_Md_commandOfText_28 rfl ?_
        refine ev_LdcS i_Md_commandOfText_29 ?_
        refine ev_callV1 i_Md_commandOfText_32 rfl h0 (Nat.le_of_ble_eq_true rfl) (m_isText_n (i := 2) hM (by decide) (hk.2.1 2 (by decide))) ?_
        refine ev_if_eqN i_Md_commandOfText_35 (by omega) (fun hc_35 => ?_) (fun hc_35 => ?_)
        · skip
          refine ev_aload_n i_Md_commandOfText_42 rfl ?_
          refine ev_LdcS i_Md_commandOfText_43 ?_
          refine ev_callV1 i_Md_commandOfText_46 rfl h0 (Nat.le_of_ble_eq_true rfl) (m_isText_n (i := 3) hM (by decide) (hk.2.1 3 (by decide))) ?_
          refine ev_if_eqN i_Md_commandOfText_49 (by omega) (fun hc_49 => ?_) (fun hc_49 => ?_)
          · skip
            refine ev_aload_n i_Md_commandOfText_56 rfl ?_
            refine ev_LdcS i_Md_commandOfText_57 ?_
            refine ev_callV1 i_Md_commandOfText_60 rfl h0 (Nat.le_of_ble_eq_true rfl) (m_isText_n (i := 4) hM (by decide) (hk.2.1 4 (by decide))) ?_
            refine ev_if_eqN i_Md_commandOfText_63 (by omega) (fun hc_63 => ?_) (fun hc_63 => ?_)
            · skip
              refine ev_aload_n i_Md_commandOfText_70 rfl ?_
              refine ev_LdcS i_Md_commandOfText_71 ?_
              refine ev_callV1 i_Md_commandOfText_74 rfl h0 (Nat.le_of_ble_eq_true rfl) (m_isText_y (i := 5) hM (by decide) (hk.2.2 (by decide))) ?_
              refine ev_if_eqN i_Md_commandOfText_77 (by omega) (fun hc_77 => ?_) (fun hc_77 => ?_)
              · skip
                exfalso; omega
              · skip
                refine ev_iconstN (v := 5) i_Md_commandOfText_80 (by decide) ?_
                refine ev_goto i_Md_commandOfText_81 ?_
                exact ev_iret i_Md_commandOfText_100 rfl (by first | rfl | decide)
            · skip
              exfalso; omega
          · skip
            exfalso; omega
        · skip
          exfalso; omega
      · skip
        exfalso; omega
    · skip
      exfalso; omega
  · rw [if_pos (by decide)]
    refine MetA.of rfl (by decide +kernel) (Nat.le_of_ble_eq_true rfl) ?_
    refine ev_aload_n i_Md_commandOfText_0 rfl ?_
    refine ev_LdcS i_Md_commandOfText_1 ?_
    refine ev_callV1 i_Md_commandOfText_4 rfl h0 (Nat.le_of_ble_eq_true rfl) (m_isText_n (i := 0) hM (by decide) (hk.2.1 0 (by decide))) ?_
    refine ev_if_eqN i_Md_commandOfText_7 (by omega) (fun hc_7 => ?_) (fun hc_7 => ?_)
    · skip
      refine ev_aload_n i_Md_commandOfText_14 rfl ?_
      refine ev_LdcS i_Md_commandOfText_15 ?_
      refine ev_callV1 i_Md_commandOfText_18 rfl h0 (Nat.le_of_ble_eq_true rfl) (m_isText_n (i := 1) hM (by decide) (hk.2.1 1 (by decide))) ?_
      refine ev_if_eqN i_Md_commandOfText_21 (by omega) (fun hc_21 => ?_) (fun hc_21 => ?_)
      · skip
        refine ev_aload_n i_Md_commandOfText_28 rfl ?_
        refine ev_LdcS i_Md_commandOfText_29 ?_
        refine ev_callV1 i_Md_commandOfText_32 rfl h0 (Nat.le_of_ble_eq_true rfl) (m_isText_n (i := 2) hM (by decide) (hk.2.1 2 (by decide))) ?_
        refine ev_if_eqN i_Md_commandOfText_35 (by omega) (fun hc_35 => ?_) (fun hc_35 => ?_)
        · skip
          refine ev_aload_n i_Md_commandOfText_42 rfl ?_
          refine ev_LdcS i_Md_commandOfText_43 ?_
          refine ev_callV1 i_Md_commandOfText_46 rfl h0 (Nat.le_of_ble_eq_true rfl) (m_isText_n (i := 3) hM (by decide) (hk.2.1 3 (by decide))) ?_
          refine ev_if_eqN i_Md_commandOfText_49 (by omega) (fun hc_49 => ?_) (fun hc_49 => ?_)
          · skip
            refine ev_aload_n i_Md_commandOfText_56 rfl ?_
            refine ev_LdcS i_Md_commandOfText_57 ?_
            refine ev_callV1 i_Md_commandOfText_60 rfl h0 (Nat.le_of_ble_eq_true rfl) (m_isText_n (i := 4) hM (by decide) (hk.2.1 4 (by decide))) ?_
            refine ev_if_eqN i_Md_commandOfText_63 (by omega) (fun hc_63 => ?_) (fun hc_63 => ?_)
            · skip
              refine ev_aload_n i_Md_commandOfText_70 rfl ?_
              refine ev_LdcS i_Md_commandOfText_71 ?_
              refine ev_callV1 i_Md_commandOfText_74 rfl h0 (Nat.le_of_ble_eq_true rfl) (m_isText_n (i := 5) hM (by decide) (hk.2.1 5 (by decide))) ?_
              refine ev_if_eqN i_Md_commandOfText_77 (by omega) (fun hc_77 => ?_) (fun hc_77 => ?_)
              · skip
                refine ev_aload_n i_Md_commandOfText_84 rfl ?_
                refine ev_LdcS i_Md_commandOfText_85 ?_
                refine ev_callV1 i_Md_commandOfText_88 rfl h0 (Nat.le_of_ble_eq_true rfl) (m_isText_y (i := 6) hM (by decide) (hk.2.2 (by decide))) ?_
                refine ev_if_eqN i_Md_commandOfText_91 (by omega) (fun hc_91 => ?_) (fun hc_91 => ?_)
                · skip
                  exfalso; omega
                · skip
                  refine ev_bipushN (v := 6) i_Md_commandOfText_94 (by decide) ?_
                  refine ev_goto i_Md_commandOfText_96 ?_
                  exact ev_iret i_Md_commandOfText_100 rfl (by first | rfl | decide)
              · skip
                exfalso; omega
            · skip
              exfalso; omega
          · skip
            exfalso; omega
        · skip
          exfalso; omega
      · skip
        exfalso; omega
    · skip
      exfalso; omega
  · rw [if_neg (by decide)]
    refine MetA.of rfl (by decide +kernel) (Nat.le_of_ble_eq_true rfl) ?_
    refine ev_aload_n i_Md_commandOfText_0 rfl ?_
    refine ev_LdcS i_Md_commandOfText_1 ?_
    refine ev_callV1 i_Md_commandOfText_4 rfl h0 (Nat.le_of_ble_eq_true rfl) (m_isText_n (i := 0) hM (by decide) (hk.2.1 0 (by decide))) ?_
    refine ev_if_eqN i_Md_commandOfText_7 (by omega) (fun hc_7 => ?_) (fun hc_7 => ?_)
    · skip
      refine ev_aload_n i_Md_commandOfText_14 rfl ?_
      refine ev_LdcS i_Md_commandOfText_15 ?_
      refine ev_callV1 i_Md_commandOfText_18 rfl h0 (Nat.le_of_ble_eq_true rfl) (m_isText_n (i := 1) hM (by decide) (hk.2.1 1 (by decide))) ?_
      refine ev_if_eqN i_Md_commandOfText_21 (by omega) (fun hc_21 => ?_) (fun hc_21 => ?_)
      · skip
        refine ev_aload_n i_Md_commandOfText_28 rfl ?_
        refine ev_LdcS i_Md_commandOfText_29 ?_
        refine ev_callV1 i_Md_commandOfText_32 rfl h0 (Nat.le_of_ble_eq_true rfl) (m_isText_n (i := 2) hM (by decide) (hk.2.1 2 (by decide))) ?_
        refine ev_if_eqN i_Md_commandOfText_35 (by omega) (fun hc_35 => ?_) (fun hc_35 => ?_)
        · skip
          refine ev_aload_n i_Md_commandOfText_42 rfl ?_
          refine ev_LdcS i_Md_commandOfText_43 ?_
          refine ev_callV1 i_Md_commandOfText_46 rfl h0 (Nat.le_of_ble_eq_true rfl) (m_isText_n (i := 3) hM (by decide) (hk.2.1 3 (by decide))) ?_
          refine ev_if_eqN i_Md_commandOfText_49 (by omega) (fun hc_49 => ?_) (fun hc_49 => ?_)
          · skip
            refine ev_aload_n i_Md_commandOfText_56 rfl ?_
            refine ev_LdcS i_Md_commandOfText_57 ?_
            refine ev_callV1 i_Md_commandOfText_60 rfl h0 (Nat.le_of_ble_eq_true rfl) (m_isText_n (i := 4) hM (by decide) (hk.2.1 4 (by decide))) ?_
            refine ev_if_eqN i_Md_commandOfText_63 (by omega) (fun hc_63 => ?_) (fun hc_63 => ?_)
            · skip
              refine ev_aload_n i_Md_commandOfText_70 rfl ?_
              refine ev_LdcS i_Md_commandOfText_71 ?_
              refine ev_callV1 i_Md_commandOfText_74 rfl h0 (Nat.le_of_ble_eq_true rfl) (m_isText_n (i := 5) hM (by decide) (hk.2.1 5 (by decide))) ?_
              refine ev_if_eqN i_Md_commandOfText_77 (by omega) (fun hc_77 => ?_) (fun hc_77 => ?_)
              · skip
                refine ev_aload_n i_Md_commandOfText_84 rfl ?_
                refine ev_LdcS i_Md_commandOfText_85 ?_
                refine ev_callV1 i_Md_commandOfText_88 rfl h0 (Nat.le_of_ble_eq_true rfl) (m_isText_n (i := 6) hM (by decide) (hk.2.1 6 (by decide))) ?_
                refine ev_if_eqN i_Md_commandOfText_91 (by omega) (fun hc_91 => ?_) (fun hc_91 => ?_)
                · skip
                  refine ev_iconst (v := -1) i_Md_commandOfText_99 (by decide) ?_
                  exact ev_iret i_Md_commandOfText_100 rfl (by first | rfl | decide)
                · skip
                  exfalso; omega
              · skip
                exfalso; omega
            · skip
              exfalso; omega
          · skip
            exfalso; omega
        · skip
          exfalso; omega
      · skip
        exfalso; omega
    · skip
      exfalso; omega
theorem m_setCmd_1 {scr : Scr} {l : Launch} {S : Sto} {σ : Sg} {th : Nat} {x : Int32} (h : MInv th σ S) (hx : ¬ inR 6 x) : MRun scr l 6 M_Md_setCommand [.ref 105, .int x] S none 1 σ := by
  refine MRun.th h (fun dr mo sc h0 d => ?_)
  have o1 : (S.put 105 (mO 1 σ dr mo sc)).1[105]? = _ := put_self h0
  refine MetA.of rfl (by decide +kernel) (Nat.le_of_ble_eq_true rfl) ?_
  refine ev_aload_n i_Md_setCommand_0 rfl ?_
  refine ev_iload_n i_Md_setCommand_1 rfl ?_
  refine ev_callS1 i_Md_setCommand_2 rfl (Nat.le_of_ble_eq_true rfl) (m_isLetter.2 hx) ?_
  refine ev_if_neN i_Md_setCommand_5 (by omega) (fun hc_5 => ?_) (fun hc_5 => ?_)
  · skip
    exfalso; omega
  · skip
    refine ev_iconstN (v := 1) i_Md_setCommand_8 (by decide) ?_
    refine ev_goto i_Md_setCommand_9 ?_
    refine ev_mput_thrown i_Md_setCommand_24 h0 ?_
    refine ev_aload_n i_Md_setCommand_27 rfl ?_
    refine ev_get i_Md_setCommand_28 o1 rfl ?_
    refine ev_if_neN i_Md_setCommand_31 (by omega) (fun hc_31 => ?_) (fun hc_31 => ?_)
    · skip
      exact ev_vret i_Md_setCommand_44 rfl
    · skip
      exfalso; omega
theorem m_setCmd_2 {scr : Scr} {l : Launch} {S : Sto} {σ : Sg} {th : Nat} {a k : Nat} (h : MInv th σ S) (ha : a < 6) (hk : CmdIs σ.1 k) (h7 : k = 7) : MRun scr l 6 M_Md_setCommand [.ref 105, .int (nI a)] S none 2 σ := by
  have c1 := fun d => m_cmdOf (scr := scr) (l := l) (d := d) h hk
  rw [if_neg (by omega)] at c1
  refine MRun.th h (fun dr mo sc h0 d => ?_)
  have o1 : (S.put 105 (mO 2 σ dr mo sc)).1[105]? = _ := put_self h0
  refine MetA.of rfl (by decide +kernel) (Nat.le_of_ble_eq_true rfl) ?_
  refine ev_aload_n i_Md_setCommand_0 rfl ?_
  refine ev_iload_n i_Md_setCommand_1 rfl ?_
  refine ev_callS1 i_Md_setCommand_2 rfl (Nat.le_of_ble_eq_true rfl) (m_isLetter.1 (inR.of (by decide) ha)) ?_
  refine ev_if_neN i_Md_setCommand_5 (by omega) (fun hc_5 => ?_) (fun hc_5 => ?_)
  · skip
    refine ev_aload_n i_Md_setCommand_12 rfl ?_
    refine ev_callV0 i_Md_setCommand_13 rfl h0 (Nat.le_of_ble_eq_true rfl) (c1 _) ?_
    refine ev_if_ge i_Md_setCommand_16 (fun hc_16 => ?_) (fun hc_16 => ?_)
    · skip
      exact absurd hc_16 (by decide)
    · skip
      refine ev_iconstN (v := 2) i_Md_setCommand_19 (by decide) ?_
      refine ev_goto i_Md_setCommand_20 ?_
      refine ev_mput_thrown i_Md_setCommand_24 h0 ?_
      refine ev_aload_n i_Md_setCommand_27 rfl ?_
      refine ev_get i_Md_setCommand_28 o1 rfl ?_
      refine ev_if_neN i_Md_setCommand_31 (by omega) (fun hc_31 => ?_) (fun hc_31 => ?_)
      · skip
        exact ev_vret i_Md_setCommand_44 rfl
      · skip
        exfalso; omega
  · skip
    exfalso; omega
theorem m_setCmd {scr : Scr} {l : Launch} {S : Sto} {σ : Sg} {th : Nat} {a k : Nat} (h : MInv th σ S) (ha : a < 6) (hk : CmdIs σ.1 k) (h7 : k < 7) : MRun scr l 6 M_Md_setCommand [.ref 105, .int (nI a)] S none 0 (σ.1, setCmd σ.2.1 a k, σ.2.2) := by
  obtain ⟨dr, mo, sc, h0⟩ := h.get
  obtain ⟨⟨gt, l1, l2⟩, ⟨gw, w1, w2⟩, ⟨gg, t1, t2⟩, g, g1, g2⟩ := h.2.2.1
  have c1 := fun d => m_cmdOf (scr := scr) (l := l) (d := d) h hk
  rw [if_pos h7] at c1
  have c2 := fun d => m_cmdOf (scr := scr) (l := l) (d := d) (h.th (k := 0) h0) hk
  rw [if_pos h7] at c2
  have o1 : (S.put 105 (mO 0 σ dr mo sc)).1[105]? = _ := put_self h0
  have p1 : (S.put 105 (mO 0 σ dr mo sc)).1[109]? = _ := put_at g1 (by decide)
  have oa : ((S.put 105 (mO 0 σ dr mo sc)).put 109 (aI 6 (upd g a (nI k)))).1[105]? = _ := put_at o1 (by decide)
  have hF : Fr [105, 109] S ((S.put 105 (mO 0 σ dr mo sc)).put 109 (aI 6 (upd g a (nI k)))) := ((Fr.put _ _ (by simp)).tr (Fr.put _ _ (by simp)))
  have hC : CoreM ((S.put 105 (mO 0 σ dr mo sc)).put 109 (aI 6 (upd g a (nI k)))) 106 107 108 109 (setCmd σ.2.1 a k) := ⟨⟨gt, hF.at l1 (by decide), l2⟩, ⟨gw, hF.at w1 (by decide), w2⟩, ⟨gg, hF.at t1 (by decide), t2⟩, _, put_self p1, fun j hj => by
    show upd g a (nI k) j = nI (if j = a then k else σ.2.1.2.2.2 j) ∧ (if j = a then k else σ.2.1.2.2.2 j) < 7
    by_cases z : j = a
    · rw [if_pos z, z, updN_at]
      exact ⟨rfl, h7⟩
    · rw [if_neg z, updN_ne z]
      exact g2 j hj⟩
  refine ⟨((S.put 105 (mO 0 σ dr mo sc)).put 109 (aI 6 (upd g a (nI k)))), fun d => ?_, ⟨⟨dr, mo, sc, oa⟩, h.2.1.fr hF (by decide), hC, h.2.2.2.1.fr hF ⟨by decide, by decide, by decide, by decide⟩, h.2.2.2.2.1.fr hF (by decide), h.2.2.2.2.2.fr hF (fun k a b => by simp; omega)⟩, hF.m (by decide)⟩
  refine MetA.of rfl (by decide +kernel) (Nat.le_of_ble_eq_true rfl) ?_
  refine ev_aload_n i_Md_setCommand_0 rfl ?_
  refine ev_iload_n i_Md_setCommand_1 rfl ?_
  refine ev_callS1 i_Md_setCommand_2 rfl (Nat.le_of_ble_eq_true rfl) (m_isLetter.1 (inR.of (by decide) ha)) ?_
  refine ev_if_neN i_Md_setCommand_5 (by omega) (fun hc_5 => ?_) (fun hc_5 => ?_)
  · skip
    refine ev_aload_n i_Md_setCommand_12 rfl ?_
    refine ev_callV0 i_Md_setCommand_13 rfl h0 (Nat.le_of_ble_eq_true rfl) (c1 _) ?_
    refine ev_if_ge_N i_Md_setCommand_16 (by omega) (fun hc_16 => ?_) (fun hc_16 => ?_)
    · skip
      refine ev_iconstN (v := 0) i_Md_setCommand_23 (by decide) ?_
      refine ev_mput_thrown i_Md_setCommand_24 h0 ?_
      refine ev_aload_n i_Md_setCommand_27 rfl ?_
      refine ev_get i_Md_setCommand_28 o1 rfl ?_
      refine ev_if_neN i_Md_setCommand_31 (by omega) (fun hc_31 => ?_) (fun hc_31 => ?_)
      · skip
        exfalso; omega
      · skip
        refine ev_aload_n i_Md_setCommand_34 rfl ?_
        refine ev_get i_Md_setCommand_35 o1 rfl ?_
        refine ev_iload_n i_Md_setCommand_38 rfl ?_
        refine ev_aload_n i_Md_setCommand_39 rfl ?_
        refine ev_callV0 i_Md_setCommand_40 rfl o1 (Nat.le_of_ble_eq_true rfl) (c2 _) ?_
        refine ev_iastN i_Md_setCommand_43 p1 (by omega) (by decide) ?_
        exact ev_vret i_Md_setCommand_44 rfl
    · skip
      exfalso; omega
  · skip
    exfalso; omega
theorem x_stepsAd_4 {scr : Scr} {l : Launch} {S : Sto} {σ : Sg} {t n : Nat} (h : XInv σ S) (ht : t < 3) (hn : n < 51) (hd : isDet (σ.2.1.1 t)) (hk : adS (σ.2.1.1 t) (n + 1) σ.2.1.2.1 = none) : XThr scr l 5 M_Pr_stepsToAdult [.ref 0, .int (nI t), .int (nI n)] S xNse σ := by
  obtain ⟨rc, htb, -⟩ := tab_obj (live_tab h ht)
  obtain ⟨S1, m1, a1, f1⟩ := a_steps (scr := scr) (l := l) h.ads (live_tab h ht) (live_cur h) (live_off ht (by decide)) (show n ≤ 50 by omega)
  rw [hk] at m1
  have m1 : ∀ d, MetA scr l (d + 3) M_Ad_stepsUntilKept [.ref 73, .ref (5 + 4 * t), .ref 17, .int (nI n)] S (.inl (some (.int (-1))), S1) := m1
  refine ⟨S1, fun d => ?_, h.ad f1 (by decide) a1, f1.x (by decide)⟩
  refine MetA.of rfl (by decide +kernel) (Nat.le_of_ble_eq_true rfl) ?_
  refine ev_aload_n i_Pr_stepsToAdult_0 rfl ?_
  refine ev_iload_n i_Pr_stepsToAdult_1 rfl ?_
  refine ev_callV1 i_Pr_stepsToAdult_2 rfl h.1 (Nat.le_of_ble_eq_true rfl) (x_tableAt h ht) ?_
  refine ev_ast_n_3 i_Pr_stepsToAdult_5 rfl ?_
  refine ev_iload_n i_Pr_stepsToAdult_6 rfl ?_
  refine ev_if_lt_N i_Pr_stepsToAdult_7 (by omega) (fun hc_7 => ?_) (fun hc_7 => ?_)
  · skip
    exfalso; omega
  · skip
    refine ev_iload_n i_Pr_stepsToAdult_10 rfl ?_
    refine ev_bipushN (v := 50) i_Pr_stepsToAdult_11 (by decide) ?_
    refine ev_icmp_leN i_Pr_stepsToAdult_13 (by omega) (by omega) (fun hc_13 => ?_) (fun hc_13 => ?_)
    · skip
      refine ev_aload_n i_Pr_stepsToAdult_26 rfl ?_
      refine ev_callV0 i_Pr_stepsToAdult_27 rfl htb (Nat.le_of_ble_eq_true rfl) ((t_det (live_tab h ht)).1 hd) ?_
      refine ev_if_neN i_Pr_stepsToAdult_30 (by omega) (fun hc_30 => ?_) (fun hc_30 => ?_)
      · skip
        refine ev_aload_n i_Pr_stepsToAdult_43 rfl ?_
        refine ev_get i_Pr_stepsToAdult_44 h.1 rfl ?_
        refine ev_aload_n i_Pr_stepsToAdult_47 rfl ?_
        refine ev_aload_n i_Pr_stepsToAdult_48 rfl ?_
        refine ev_get i_Pr_stepsToAdult_49 h.1 rfl ?_
        refine ev_get i_Pr_stepsToAdult_52 h.2.2.1.1 rfl ?_
        refine ev_iload_n i_Pr_stepsToAdult_55 rfl ?_
        refine ev_callV3 i_Pr_stepsToAdult_56 rfl h.ads.1 (Nat.le_of_ble_eq_true rfl) (m1 _) ?_
        refine ev_ist_4 i_Pr_stepsToAdult_59 rfl ?_
        refine ev_iload i_Pr_stepsToAdult_61 rfl ?_
        refine ev_iconst (v := -1) i_Pr_stepsToAdult_63 (by decide) ?_
        refine ev_icmp_ne i_Pr_stepsToAdult_64 (fun hc_64 => ?_) (fun hc_64 => ?_)
        · skip
          exact absurd rfl hc_64
        · skip
          exact ev_throwN i_Pr_stepsToAdult_67 rfl rfl (Nat.le_of_ble_eq_true rfl)
      · skip
        exfalso; omega
    · skip
      exfalso; omega
theorem x_seqFirst_3 {scr : Scr} {l : Launch} {S : Sto} {σ : Sg} {n : Nat} (h : XInv σ S) (hn : n < 6) (hd : allDet σ.2.1) (hL : sqL σ.2.1.1 σ.2.1.2.2.1 n σ.2.1.2.1 0 = []) : XThr scr l 11 M_Pr_firstSequence [.ref 0, .int (nI n)] S xNse σ := by
  obtain ⟨S1, m1, o1, h1, f1⟩ := x_search (scr := scr) (l := l) h hn hd
  rw [hL] at o1
  have o1 : S1.1[81]? = some (oB 7 [.ref 82, .int (nI 0), .int (-1)]) := o1
  refine ⟨S1, fun d => ?_, h1, f1⟩
  refine MetA.of rfl (by decide +kernel) (Nat.le_of_ble_eq_true rfl) ?_
  refine ev_aload_n i_Pr_firstSequence_0 rfl ?_
  refine ev_iload_n i_Pr_firstSequence_1 rfl ?_
  refine ev_callV1 i_Pr_firstSequence_2 rfl h.1 (Nat.le_of_ble_eq_true rfl) (m1 _) ?_
  refine ev_aload_n i_Pr_firstSequence_5 rfl ?_
  refine ev_get i_Pr_firstSequence_6 h1.1 rfl ?_
  refine ev_get i_Pr_firstSequence_9 o1 rfl ?_
  refine ev_iconst (v := -1) i_Pr_firstSequence_12 (by decide) ?_
  refine ev_icmp_ne i_Pr_firstSequence_13 (fun hc_13 => ?_) (fun hc_13 => ?_)
  · skip
    exact absurd rfl hc_13
  · skip
    exact ev_throwN i_Pr_firstSequence_16 rfl rfl (Nat.le_of_ble_eq_true rfl)

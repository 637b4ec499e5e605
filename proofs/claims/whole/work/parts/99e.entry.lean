/-! the law from its entry -/
theorem law_start {scr : Scr} {l : Launch} (hs : scr.1 ≤ 2048) : ∃ S2 : Sto, (S2.2.1 ≤ 700 ∧ S2.2.2 ≤ 20000) ∧ ∀ d, Ev scr l (d + 13) M_Lw_law 0 [some (.ref 1100), none, none, none, none, none, none, none, none] [] ([], 0, 0) (.inl (some (.int (nI 1))), S2) := by
  obtain ⟨S2, hb, ev⟩ := law_loop (scr := scr) (l := l) (by omega) 512 0 S0 sg0' (by omega) (by decide) j_start
  refine ⟨S2, ⟨?_, ?_⟩, fun d => ?_⟩
  · have h : S2.2.1 ≤ 136 + 512 := hb.1
    omega
  · have h : S2.2.2 ≤ 10412 + 6 * 512 := hb.2
    omega
  refine ev_new i_Lw_law_0 rfl (Nat.le_of_ble_eq_true rfl) ?_
  show Ev scr l _ M_Lw_law 3 [some (.ref 1100), none, none, none, none, none, none, none, none] [.ref 0] ([oB 13 [.null, .null, .null, .null, .null, .null, .null, .null, .null, .null, .null, .null, .null, .int 0]], 1, 14) _
  refine ev_dup i_Lw_law_3 rfl ?_
  refine ev_callI0 i_Lw_law_4 rfl (Nat.le_of_ble_eq_true rfl) (ct_Pr_init (d := d + 9) (P := []) (Q := []) (b := 0) rfl (by decide)) ?_
  show Ev scr l _ M_Lw_law 7 [some (.ref 1100), none, none, none, none, none, none, none, none] [.ref 0] (xC, 105, 4035) _
  refine ev_ast_n_1 i_Lw_law_7 rfl ?_
  refine ev_new i_Lw_law_8 rfl (Nat.le_of_ble_eq_true rfl) ?_
  show Ev scr l _ M_Lw_law 11 [some (.ref 1100), some (.ref 0), none, none, none, none, none, none, none] [.ref 105] (xC ++ [oB 14 [.int 0, .null, .null, .null, .null, .null, .int 0, .null, .int 0, .int 0, .null, .null, .null, .null, .int 0, .null, .null, .null, .null, .null, .null, .null, .null, .null, .null, .null, .null, .null, .null, .int 0, .null, .int 0, .null, .null, .null]], 106, 4070) _
  refine ev_dup i_Lw_law_11 rfl ?_
  refine ev_callI0 i_Lw_law_12 rfl (Nat.le_of_ble_eq_true rfl) (ct0_Md_init (d := d + 11) (P := xC) (b := 105) rfl (Nat.le_of_ble_eq_true rfl)) ?_
  show Ev scr l _ M_Lw_law 15 [some (.ref 1100), some (.ref 0), none, none, none, none, none, none, none] [.ref 105] (xC ++ mC, 134, 10410) _
  refine ev_ast_n_2 i_Lw_law_15 rfl ?_
  refine ev_iconstN (v := 1) i_Lw_law_16 (by decide) ?_
  refine ev_newJP (P := xC) (Q := mC) i_Lw_law_17 (by decide) (Nat.le_of_ble_eq_true rfl) ?_
  show Ev scr l _ M_Lw_law 19 [some (.ref 1100), some (.ref 0), some (.ref 105), none, none, none, none, none, none] [.ref 134] (xC ++ (mC ++ [aJ 1 (fun _ => 0)]), 135, 10411) _
  refine ev_ast_n_3 i_Lw_law_19 rfl ?_
  refine ev_iconstN (v := 1) i_Lw_law_20 (by decide) ?_
  refine ev_newDP (P := xC) (Q := mC ++ [aJ 1 (fun _ => 0)]) i_Lw_law_21 (by decide) (Nat.le_of_ble_eq_true rfl) ?_
  show Ev scr l _ M_Lw_law 23 [some (.ref 1100), some (.ref 0), some (.ref 105), some (.ref 134), none, none, none, none, none] [.ref 135] S0 _
  refine ev_ast_4 i_Lw_law_23 rfl ?_
  refine ev_iconstN (v := 0) i_Lw_law_25 (by decide) ?_
  refine ev_ist_5 i_Lw_law_26 rfl ?_
  exact ev d none none none

/-! constructors -/
theorem getP (P Q : List ACell) (k : Nat) : (P ++ Q)[P.length + k]? = Q[k]? := by
  rw [List.getElem?_append_right (by omega), show P.length + k - P.length = k by omega]
theorem putP (P Q : List ACell) (k : Nat) (c : ACell) (n : Nat × Nat) : Sto.put (P ++ Q, n) (P.length + k) c = (P ++ Q.set k c, n) := by
  show ((P ++ Q).set (P.length + k) c, n) = _
  rw [List.set_append_right _ _ (by omega), show P.length + k - P.length = k by omega]
theorem ev_newP {scr : Scr} {l : Launch} {d : Nat} {M : Mth} {pc : Nat} {L : List (Option Value)} {st : List Value} {r : Res} {P Q : List ACell} {a s : Nat} {ci : Nat} {fs : List Value} (h : iNew M pc ci fs) (hfs : noRef fs = true) (hl : P.length + Q.length < 1000) (k : Ev scr l d M (pc + 3) L (.ref (P.length + Q.length) :: st) (P ++ (Q ++ [oB ci fs]), a + 1, s + fs.length) r) : Ev scr l d M pc L st (P ++ Q, a, s) r := by
  refine ev_new h hfs (by rw [List.length_append]; exact hl) ?_
  show Ev scr l d M (pc + 3) L (.ref (P ++ Q).length :: st) ((P ++ Q) ++ [oB ci fs], a + 1, s + fs.length) r
  rw [List.append_assoc, List.length_append]
  exact k
theorem ev_newQP {scr : Scr} {l : Launch} {d : Nat} {M : Mth} {pc : Nat} {L : List (Option Value)} {st : List Value} {r : Res} {P Q : List ACell} {a s : Nat} {C : String} {N : Nat} (h : iNewQ M pc C) (hN : N < 1000) (hl : P.length + Q.length < 1000) (k : Ev scr l d M (pc + 3) L (.ref (P.length + Q.length) :: st) (P ++ (Q ++ [aQ C N (fun _ => none)]), a + 1, s + N) r) : Ev scr l d M pc L (.int (nI N) :: st) (P ++ Q, a, s) r := by
  refine ev_newQ h (nI_pos (by omega)) (nI_clamp (by omega)) (by omega) (by rw [List.length_append]; exact hl) ?_
  show Ev scr l d M (pc + 3) L (.ref (P ++ Q).length :: st) ((P ++ Q) ++ [aQ C N (fun _ => none)], a + 1, s + N) r
  rw [List.append_assoc, List.length_append]
  exact k
theorem ev_qastN {scr : Scr} {l : Launch} {d : Nat} {M : Mth} {pc : Nat} {L : List (Option Value)} {st : List Value} {r : Res} {S : Sto} {C : String} {T : u_T} {N a n b ci i : Nat} {f : Nat → Option Nat} {fs : List Value} (h : iIns M pc .aastore 1) (hk : S.1[a]? = some (aQ C n f)) (hb : S.1[b]? = some (oB ci fs)) (hci : vwCl[ci]? = some (C, T, N)) (hin : i < n) (hn : n < 2 ^ 31) (k : Ev scr l d M (pc + 1) L st (S.put a (aQ C n (va_up f i (some b)))) r) : Ev scr l d M pc L (.ref b :: .int (nI i) :: .ref a :: st) S r := ev_qast h hk hb hci (vp_in_nI hin hn) (by rw [nI_clamp (Nat.lt_trans hin hn)]; exact k)
theorem ev_newIP {scr : Scr} {l : Launch} {d : Nat} {M : Mth} {pc : Nat} {L : List (Option Value)} {st : List Value} {r : Res} {P Q : List ACell} {a s : Nat} {N : Nat} (h : iNewA M pc .int) (hN : N < 4000) (hl : P.length + Q.length < 1000) (k : Ev scr l d M (pc + 2) L (.ref (P.length + Q.length) :: st) (P ++ (Q ++ [aI N (fun _ => 0)]), a + 1, s + N) r) : Ev scr l d M pc L (.int (nI N) :: st) (P ++ Q, a, s) r := by
  refine ev_newA (x := .inl (fun _ => 0)) h rfl (fun cA => rfl) (fun _ _ => ⟨rfl, rfl⟩) (nI_pos (by omega)) (nI_clamp (by omega)) (by show N * 4 ≤ _; omega) (by rw [List.length_append]; exact hl) ?_
  show Ev scr l d M (pc + 2) L (.ref (P ++ Q).length :: st) ((P ++ Q) ++ [aI N (fun _ => 0)], a + 1, s + N) r
  rw [List.append_assoc, List.length_append]
  exact k
theorem ev_newJP {scr : Scr} {l : Launch} {d : Nat} {M : Mth} {pc : Nat} {L : List (Option Value)} {st : List Value} {r : Res} {P Q : List ACell} {a s : Nat} {N : Nat} (h : iNewA M pc .long) (hN : N < 4000) (hl : P.length + Q.length < 1000) (k : Ev scr l d M (pc + 2) L (.ref (P.length + Q.length) :: st) (P ++ (Q ++ [aJ N (fun _ => 0)]), a + 1, s + N) r) : Ev scr l d M pc L (.int (nI N) :: st) (P ++ Q, a, s) r := by
  refine ev_newA (x := .inr (.inl (fun _ => 0))) h rfl (fun cA => rfl) (fun _ _ => ⟨rfl, rfl⟩) (nI_pos (by omega)) (nI_clamp (by omega)) (by show N * 8 ≤ _; omega) (by rw [List.length_append]; exact hl) ?_
  show Ev scr l d M (pc + 2) L (.ref (P ++ Q).length :: st) ((P ++ Q) ++ [aJ N (fun _ => 0)], a + 1, s + N) r
  rw [List.append_assoc, List.length_append]
  exact k
theorem ev_newDP {scr : Scr} {l : Launch} {d : Nat} {M : Mth} {pc : Nat} {L : List (Option Value)} {st : List Value} {r : Res} {P Q : List ACell} {a s : Nat} {N : Nat} (h : iNewA M pc .double) (hN : N < 4000) (hl : P.length + Q.length < 1000) (k : Ev scr l d M (pc + 2) L (.ref (P.length + Q.length) :: st) (P ++ (Q ++ [aD N (fun _ => 0)]), a + 1, s + N) r) : Ev scr l d M pc L (.int (nI N) :: st) (P ++ Q, a, s) r := by
  refine ev_newA (x := .inr (.inr (.inr (.inl (fun _ => 0))))) h rfl (fun cA => rfl) (fun _ _ => ⟨rfl, rfl⟩) (nI_pos (by omega)) (nI_clamp (by omega)) (by show N * 8 ≤ _; omega) (by rw [List.length_append]; exact hl) ?_
  show Ev scr l d M (pc + 2) L (.ref (P ++ Q).length :: st) ((P ++ Q) ++ [aD N (fun _ => 0)], a + 1, s + N) r
  rw [List.append_assoc, List.length_append]
  exact k
theorem ev_newCP {scr : Scr} {l : Launch} {d : Nat} {M : Mth} {pc : Nat} {L : List (Option Value)} {st : List Value} {r : Res} {P Q : List ACell} {a s : Nat} {N : Nat} (h : iNewA M pc .char) (hN : N < 4000) (hl : P.length + Q.length < 1000) (k : Ev scr l d M (pc + 2) L (.ref (P.length + Q.length) :: st) (P ++ (Q ++ [aC N (fun _ => 0)]), a + 1, s + N) r) : Ev scr l d M pc L (.int (nI N) :: st) (P ++ Q, a, s) r := by
  refine ev_newA (x := .inl (fun _ => 0)) h rfl (fun cA => rfl) (fun _ _ => ⟨rfl, rfl⟩) (nI_pos (by omega)) (nI_clamp (by omega)) (by show N * 2 ≤ _; omega) (by rw [List.length_append]; exact hl) ?_
  show Ev scr l d M (pc + 2) L (.ref (P ++ Q).length :: st) ((P ++ Q) ++ [aC N (fun _ => 0)], a + 1, s + N) r
  rw [List.append_assoc, List.length_append]
  exact k
theorem ev_newZP {scr : Scr} {l : Launch} {d : Nat} {M : Mth} {pc : Nat} {L : List (Option Value)} {st : List Value} {r : Res} {P Q : List ACell} {a s : Nat} {N : Nat} (h : iNewA M pc .boolean) (hN : N < 4000) (hl : P.length + Q.length < 1000) (k : Ev scr l d M (pc + 2) L (.ref (P.length + Q.length) :: st) (P ++ (Q ++ [aZ N (fun _ => 0)]), a + 1, s + N) r) : Ev scr l d M pc L (.int (nI N) :: st) (P ++ Q, a, s) r := by
  refine ev_newA (x := .inl (fun _ => 0)) h rfl (fun cA => rfl) (fun _ _ => ⟨rfl, rfl⟩) (nI_pos (by omega)) (nI_clamp (by omega)) (by show N * 1 ≤ _; omega) (by rw [List.length_append]; exact hl) ?_
  show Ev scr l d M (pc + 2) L (.ref (P ++ Q).length :: st) ((P ++ Q) ++ [aZ N (fun _ => 0)], a + 1, s + N) r
  rw [List.append_assoc, List.length_append]
  exact k
def tfs : Nat → Nat → Int32
  | 0 => fun _ => 0
  | k + 1 => upd (tfs k) k (nI 1)
def tfl : Nat → Nat → Int32
  | 0 => fillF (fun _ => 0) 0 (fun _ => -1) 54
  | k + 1 => upd (tfl k) (3 * k) (nI 1)
def tfe : Nat → Nat → Int32
  | 0 => fun _ => 0
  | k + 1 => upd (tfe k) (12 * k) (nI k)
def mg : Nat → Nat → Int32
  | 0 => fun _ => 0
  | k + 1 => upd (upd (upd (mg k) (139 * (k / 6) + 16 * (k % 6)) (nI 1)) (139 * (k / 6) + 16 * (k % 6) + 1) (nI 1)) (139 * (k / 6) + 16 * (k % 6) + 2) (nI (k % 6))
theorem ct0_Wd_init {scr : Scr} {l : Launch} {d : Nat} {P : List ACell} {b a s : Nat} (hb : b = P.length) (hl : P.length < 978) : MetA scr l (d + 1) M_Wd_init [.ref b] (P ++ [oB 12 [.null, .int 0]], a, s) (.inl none, (P ++ [oB 12 [.ref (b + 1), .int 0], aI 60 (fun _ => 0)], a + 1, s + 60)) := by
  subst hb
  refine MetA.of rfl (by decide +kernel) (Nat.le_of_ble_eq_true rfl) ?_
  show Ev scr l _ M_Wd_init 0 [some (.ref (P.length + 0))] [] (P ++ [oB 12 [.null, .int 0]], a + 0, s + 0) _
  refine ev_aload_n i_Wd_init_0 rfl ?_
  refine ev_objI i_Wd_init_1 rfl (Nat.le_of_ble_eq_true rfl) ?_
  refine ev_aload_n i_Wd_init_4 rfl ?_
  refine ev_bipushN (v := 60) i_Wd_init_5 (by decide) ?_
  refine ev_newIP (P := P) i_Wd_init_7 (by decide) (by have := hl; show P.length + _ < 1000; simp only [List.length_cons, List.length_nil]; omega) ?_
  show Ev scr l _ M_Wd_init 9 [some (.ref (P.length + 0))] [.ref (P.length + 1), .ref (P.length + 0)] (P ++ [oB 12 [.null, .int 0], aI 60 (fun _ => 0)], a + 1, s + 60) _
  refine ev_putF i_Wd_init_9 (getP P _ 0) (Nat.le_of_ble_eq_true rfl) rfl rfl ?_
  rw [putP]
  show Ev scr l _ M_Wd_init 12 [some (.ref (P.length + 0))] [] (P ++ [oB 12 [.ref (P.length + 1), .int 0], aI 60 (fun _ => 0)], a + 1, s + 60) _
  exact ev_vret i_Wd_init_12 rfl
theorem ct_Wd_init {scr : Scr} {l : Launch} {d : Nat} {P Q : List ACell} {b a s : Nat} (hb : b = P.length + Q.length) (hl : P.length + Q.length < 978) : MetA scr l (d + 1) M_Wd_init [.ref b] (P ++ (Q ++ [oB 12 [.null, .int 0]]), a, s) (.inl none, (P ++ (Q ++ [oB 12 [.ref (b + 1), .int 0], aI 60 (fun _ => 0)]), a + 1, s + 60)) := by
  have h := ct0_Wd_init (scr := scr) (l := l) (d := d) (P := P ++ Q) (a := a) (s := s) (hb.trans List.length_append.symm) (by rw [List.length_append]; exact hl)
  rw [List.append_assoc, List.append_assoc] at h
  exact h
theorem ct0_Tx_init {scr : Scr} {l : Launch} {d : Nat} {P : List ACell} {b a s : Nat} (hb : b = P.length) (hl : P.length < 978) : MetA scr l (d + 1) M_Tx_init [.ref b] (P ++ [oB 10 [.null, .int 0]], a, s) (.inl none, (P ++ [oB 10 [.ref (b + 1), .int 0], aC 60 (fun _ => 0)], a + 1, s + 60)) := by
  subst hb
  refine MetA.of rfl (by decide +kernel) (Nat.le_of_ble_eq_true rfl) ?_
  show Ev scr l _ M_Tx_init 0 [some (.ref (P.length + 0))] [] (P ++ [oB 10 [.null, .int 0]], a + 0, s + 0) _
  refine ev_aload_n i_Tx_init_0 rfl ?_
  refine ev_objI i_Tx_init_1 rfl (Nat.le_of_ble_eq_true rfl) ?_
  refine ev_aload_n i_Tx_init_4 rfl ?_
  refine ev_bipushN (v := 60) i_Tx_init_5 (by decide) ?_
  refine ev_newCP (P := P) i_Tx_init_7 (by decide) (by have := hl; show P.length + _ < 1000; simp only [List.length_cons, List.length_nil]; omega) ?_
  show Ev scr l _ M_Tx_init 9 [some (.ref (P.length + 0))] [.ref (P.length + 1), .ref (P.length + 0)] (P ++ [oB 10 [.null, .int 0], aC 60 (fun _ => 0)], a + 1, s + 60) _
  refine ev_putF i_Tx_init_9 (getP P _ 0) (Nat.le_of_ble_eq_true rfl) rfl rfl ?_
  rw [putP]
  show Ev scr l _ M_Tx_init 12 [some (.ref (P.length + 0))] [] (P ++ [oB 10 [.ref (P.length + 1), .int 0], aC 60 (fun _ => 0)], a + 1, s + 60) _
  exact ev_vret i_Tx_init_12 rfl
theorem ct_Tx_init {scr : Scr} {l : Launch} {d : Nat} {P Q : List ACell} {b a s : Nat} (hb : b = P.length + Q.length) (hl : P.length + Q.length < 978) : MetA scr l (d + 1) M_Tx_init [.ref b] (P ++ (Q ++ [oB 10 [.null, .int 0]]), a, s) (.inl none, (P ++ (Q ++ [oB 10 [.ref (b + 1), .int 0], aC 60 (fun _ => 0)]), a + 1, s + 60)) := by
  have h := ct0_Tx_init (scr := scr) (l := l) (d := d) (P := P ++ Q) (a := a) (s := s) (hb.trans List.length_append.symm) (by rw [List.length_append]; exact hl)
  rw [List.append_assoc, List.append_assoc] at h
  exact h
theorem ct0_Gr_init {scr : Scr} {l : Launch} {d : Nat} {P : List ACell} {b a s : Nat} (hb : b = P.length) (hl : P.length < 975) : MetA scr l (d + 1) M_Gr_init [.ref b] (P ++ [oB 4 [.null, .null, .long 0, .null, .null]], a, s) (.inl none, (P ++ [oB 4 [.ref (b + 1), .ref (b + 2), .long 0, .ref (b + 3), .ref (b + 4)], aJ 6 (fun _ => 0), aJ 6 (fun _ => 0), aI 6 (fun _ => 0), aI 6 (fun _ => 0)], a + 4, s + 24)) := by
  subst hb
  refine MetA.of rfl (by decide +kernel) (Nat.le_of_ble_eq_true rfl) ?_
  show Ev scr l _ M_Gr_init 0 [some (.ref (P.length + 0))] [] (P ++ [oB 4 [.null, .null, .long 0, .null, .null]], a + 0, s + 0) _
  refine ev_aload_n i_Gr_init_0 rfl ?_
  refine ev_objI i_Gr_init_1 rfl (Nat.le_of_ble_eq_true rfl) ?_
  refine ev_aload_n i_Gr_init_4 rfl ?_
  refine ev_bipushN (v := 6) i_Gr_init_5 (by decide) ?_
  refine ev_newJP (P := P) i_Gr_init_7 (by decide) (by have := hl; show P.length + _ < 1000; simp only [List.length_cons, List.length_nil]; omega) ?_
  show Ev scr l _ M_Gr_init 9 [some (.ref (P.length + 0))] [.ref (P.length + 1), .ref (P.length + 0)] (P ++ [oB 4 [.null, .null, .long 0, .null, .null], aJ 6 (fun _ => 0)], a + 1, s + 6) _
  refine ev_put i_Gr_init_9 (getP P _ 0) (Nat.le_of_ble_eq_true rfl) rfl rfl ?_
  rw [putP]
  show Ev scr l _ M_Gr_init 12 [some (.ref (P.length + 0))] [] (P ++ [oB 4 [.ref (P.length + 1), .null, .long 0, .null, .null], aJ 6 (fun _ => 0)], a + 1, s + 6) _
  refine ev_aload_n i_Gr_init_12 rfl ?_
  refine ev_bipushN (v := 6) i_Gr_init_13 (by decide) ?_
  refine ev_newJP (P := P) i_Gr_init_15 (by decide) (by have := hl; show P.length + _ < 1000; simp only [List.length_cons, List.length_nil]; omega) ?_
  show Ev scr l _ M_Gr_init 17 [some (.ref (P.length + 0))] [.ref (P.length + 2), .ref (P.length + 0)] (P ++ [oB 4 [.ref (P.length + 1), .null, .long 0, .null, .null], aJ 6 (fun _ => 0), aJ 6 (fun _ => 0)], a + 2, s + 12) _
  refine ev_put i_Gr_init_17 (getP P _ 0) (Nat.le_of_ble_eq_true rfl) rfl rfl ?_
  rw [putP]
  show Ev scr l _ M_Gr_init 20 [some (.ref (P.length + 0))] [] (P ++ [oB 4 [.ref (P.length + 1), .ref (P.length + 2), .long 0, .null, .null], aJ 6 (fun _ => 0), aJ 6 (fun _ => 0)], a + 2, s + 12) _
  refine ev_aload_n i_Gr_init_20 rfl ?_
  refine ev_bipushN (v := 6) i_Gr_init_21 (by decide) ?_
  refine ev_newIP (P := P) i_Gr_init_23 (by decide) (by have := hl; show P.length + _ < 1000; simp only [List.length_cons, List.length_nil]; omega) ?_
  show Ev scr l _ M_Gr_init 25 [some (.ref (P.length + 0))] [.ref (P.length + 3), .ref (P.length + 0)] (P ++ [oB 4 [.ref (P.length + 1), .ref (P.length + 2), .long 0, .null, .null], aJ 6 (fun _ => 0), aJ 6 (fun _ => 0), aI 6 (fun _ => 0)], a + 3, s + 18) _
  refine ev_putF i_Gr_init_25 (getP P _ 0) (Nat.le_of_ble_eq_true rfl) rfl rfl ?_
  rw [putP]
  show Ev scr l _ M_Gr_init 28 [some (.ref (P.length + 0))] [] (P ++ [oB 4 [.ref (P.length + 1), .ref (P.length + 2), .long 0, .ref (P.length + 3), .null], aJ 6 (fun _ => 0), aJ 6 (fun _ => 0), aI 6 (fun _ => 0)], a + 3, s + 18) _
  refine ev_aload_n i_Gr_init_28 rfl ?_
  refine ev_bipushN (v := 6) i_Gr_init_29 (by decide) ?_
  refine ev_newIP (P := P) i_Gr_init_31 (by decide) (by have := hl; show P.length + _ < 1000; simp only [List.length_cons, List.length_nil]; omega) ?_
  show Ev scr l _ M_Gr_init 33 [some (.ref (P.length + 0))] [.ref (P.length + 4), .ref (P.length + 0)] (P ++ [oB 4 [.ref (P.length + 1), .ref (P.length + 2), .long 0, .ref (P.length + 3), .null], aJ 6 (fun _ => 0), aJ 6 (fun _ => 0), aI 6 (fun _ => 0), aI 6 (fun _ => 0)], a + 4, s + 24) _
  refine ev_putF i_Gr_init_33 (getP P _ 0) (Nat.le_of_ble_eq_true rfl) rfl rfl ?_
  rw [putP]
  show Ev scr l _ M_Gr_init 36 [some (.ref (P.length + 0))] [] (P ++ [oB 4 [.ref (P.length + 1), .ref (P.length + 2), .long 0, .ref (P.length + 3), .ref (P.length + 4)], aJ 6 (fun _ => 0), aJ 6 (fun _ => 0), aI 6 (fun _ => 0), aI 6 (fun _ => 0)], a + 4, s + 24) _
  exact ev_vret i_Gr_init_36 rfl
theorem ct_Gr_init {scr : Scr} {l : Launch} {d : Nat} {P Q : List ACell} {b a s : Nat} (hb : b = P.length + Q.length) (hl : P.length + Q.length < 975) : MetA scr l (d + 1) M_Gr_init [.ref b] (P ++ (Q ++ [oB 4 [.null, .null, .long 0, .null, .null]]), a, s) (.inl none, (P ++ (Q ++ [oB 4 [.ref (b + 1), .ref (b + 2), .long 0, .ref (b + 3), .ref (b + 4)], aJ 6 (fun _ => 0), aJ 6 (fun _ => 0), aI 6 (fun _ => 0), aI 6 (fun _ => 0)]), a + 4, s + 24)) := by
  have h := ct0_Gr_init (scr := scr) (l := l) (d := d) (P := P ++ Q) (a := a) (s := s) (hb.trans List.length_append.symm) (by rw [List.length_append]; exact hl)
  rw [List.append_assoc, List.append_assoc] at h
  exact h
theorem ct0_Re_init {scr : Scr} {l : Launch} {d : Nat} {P : List ACell} {b a s : Nat} (hb : b = P.length) (hl : P.length < 973) : MetA scr l (d + 1) M_Re_init [.ref b] (P ++ [oB 6 [.null, .null, .null, .null, .null, .null, .int 0, .int 0, .int 0]], a, s) (.inl none, (P ++ [oB 6 [.ref (b + 1), .ref (b + 2), .ref (b + 3), .ref (b + 4), .ref (b + 5), .ref (b + 6), .int 0, .int 0, .int 0], aI 12 (fun _ => 0), aI 6 (fun _ => 0), aI 6 (fun _ => 0), aI 13 (fun _ => 0), aI 13 (fun _ => 0), aI 13 (fun _ => 0)], a + 6, s + 63)) := by
  subst hb
  refine MetA.of rfl (by decide +kernel) (Nat.le_of_ble_eq_true rfl) ?_
  show Ev scr l _ M_Re_init 0 [some (.ref (P.length + 0))] [] (P ++ [oB 6 [.null, .null, .null, .null, .null, .null, .int 0, .int 0, .int 0]], a + 0, s + 0) _
  refine ev_aload_n i_Re_init_0 rfl ?_
  refine ev_objI i_Re_init_1 rfl (Nat.le_of_ble_eq_true rfl) ?_
  refine ev_aload_n i_Re_init_4 rfl ?_
  refine ev_bipushN (v := 12) i_Re_init_5 (by decide) ?_
  refine ev_newIP (P := P) i_Re_init_7 (by decide) (by have := hl; show P.length + _ < 1000; simp only [List.length_cons, List.length_nil]; omega) ?_
  show Ev scr l _ M_Re_init 9 [some (.ref (P.length + 0))] [.ref (P.length + 1), .ref (P.length + 0)] (P ++ [oB 6 [.null, .null, .null, .null, .null, .null, .int 0, .int 0, .int 0], aI 12 (fun _ => 0)], a + 1, s + 12) _
  refine ev_putF i_Re_init_9 (getP P _ 0) (Nat.le_of_ble_eq_true rfl) rfl rfl ?_
  rw [putP]
  show Ev scr l _ M_Re_init 12 [some (.ref (P.length + 0))] [] (P ++ [oB 6 [.ref (P.length + 1), .null, .null, .null, .null, .null, .int 0, .int 0, .int 0], aI 12 (fun _ => 0)], a + 1, s + 12) _
  refine ev_aload_n i_Re_init_12 rfl ?_
  refine ev_bipushN (v := 6) i_Re_init_13 (by decide) ?_
  refine ev_newIP (P := P) i_Re_init_15 (by decide) (by have := hl; show P.length + _ < 1000; simp only [List.length_cons, List.length_nil]; omega) ?_
  show Ev scr l _ M_Re_init 17 [some (.ref (P.length + 0))] [.ref (P.length + 2), .ref (P.length + 0)] (P ++ [oB 6 [.ref (P.length + 1), .null, .null, .null, .null, .null, .int 0, .int 0, .int 0], aI 12 (fun _ => 0), aI 6 (fun _ => 0)], a + 2, s + 18) _
  refine ev_put i_Re_init_17 (getP P _ 0) (Nat.le_of_ble_eq_true rfl) rfl rfl ?_
  rw [putP]
  show Ev scr l _ M_Re_init 20 [some (.ref (P.length + 0))] [] (P ++ [oB 6 [.ref (P.length + 1), .ref (P.length + 2), .null, .null, .null, .null, .int 0, .int 0, .int 0], aI 12 (fun _ => 0), aI 6 (fun _ => 0)], a + 2, s + 18) _
  refine ev_aload_n i_Re_init_20 rfl ?_
  refine ev_bipushN (v := 6) i_Re_init_21 (by decide) ?_
  refine ev_newIP (P := P) i_Re_init_23 (by decide) (by have := hl; show P.length + _ < 1000; simp only [List.length_cons, List.length_nil]; omega) ?_
  show Ev scr l _ M_Re_init 25 [some (.ref (P.length + 0))] [.ref (P.length + 3), .ref (P.length + 0)] (P ++ [oB 6 [.ref (P.length + 1), .ref (P.length + 2), .null, .null, .null, .null, .int 0, .int 0, .int 0], aI 12 (fun _ => 0), aI 6 (fun _ => 0), aI 6 (fun _ => 0)], a + 3, s + 24) _
  refine ev_put i_Re_init_25 (getP P _ 0) (Nat.le_of_ble_eq_true rfl) rfl rfl ?_
  rw [putP]
  show Ev scr l _ M_Re_init 28 [some (.ref (P.length + 0))] [] (P ++ [oB 6 [.ref (P.length + 1), .ref (P.length + 2), .ref (P.length + 3), .null, .null, .null, .int 0, .int 0, .int 0], aI 12 (fun _ => 0), aI 6 (fun _ => 0), aI 6 (fun _ => 0)], a + 3, s + 24) _
  refine ev_aload_n i_Re_init_28 rfl ?_
  refine ev_bipushN (v := 13) i_Re_init_29 (by decide) ?_
  refine ev_newIP (P := P) i_Re_init_31 (by decide) (by have := hl; show P.length + _ < 1000; simp only [List.length_cons, List.length_nil]; omega) ?_
  show Ev scr l _ M_Re_init 33 [some (.ref (P.length + 0))] [.ref (P.length + 4), .ref (P.length + 0)] (P ++ [oB 6 [.ref (P.length + 1), .ref (P.length + 2), .ref (P.length + 3), .null, .null, .null, .int 0, .int 0, .int 0], aI 12 (fun _ => 0), aI 6 (fun _ => 0), aI 6 (fun _ => 0), aI 13 (fun _ => 0)], a + 4, s + 37) _
  refine ev_put i_Re_init_33 (getP P _ 0) (Nat.le_of_ble_eq_true rfl) rfl rfl ?_
  rw [putP]
  show Ev scr l _ M_Re_init 36 [some (.ref (P.length + 0))] [] (P ++ [oB 6 [.ref (P.length + 1), .ref (P.length + 2), .ref (P.length + 3), .ref (P.length + 4), .null, .null, .int 0, .int 0, .int 0], aI 12 (fun _ => 0), aI 6 (fun _ => 0), aI 6 (fun _ => 0), aI 13 (fun _ => 0)], a + 4, s + 37) _
  refine ev_aload_n i_Re_init_36 rfl ?_
  refine ev_bipushN (v := 13) i_Re_init_37 (by decide) ?_
  refine ev_newIP (P := P) i_Re_init_39 (by decide) (by have := hl; show P.length + _ < 1000; simp only [List.length_cons, List.length_nil]; omega) ?_
  show Ev scr l _ M_Re_init 41 [some (.ref (P.length + 0))] [.ref (P.length + 5), .ref (P.length + 0)] (P ++ [oB 6 [.ref (P.length + 1), .ref (P.length + 2), .ref (P.length + 3), .ref (P.length + 4), .null, .null, .int 0, .int 0, .int 0], aI 12 (fun _ => 0), aI 6 (fun _ => 0), aI 6 (fun _ => 0), aI 13 (fun _ => 0), aI 13 (fun _ => 0)], a + 5, s + 50) _
  refine ev_put i_Re_init_41 (getP P _ 0) (Nat.le_of_ble_eq_true rfl) rfl rfl ?_
  rw [putP]
  show Ev scr l _ M_Re_init 44 [some (.ref (P.length + 0))] [] (P ++ [oB 6 [.ref (P.length + 1), .ref (P.length + 2), .ref (P.length + 3), .ref (P.length + 4), .ref (P.length + 5), .null, .int 0, .int 0, .int 0], aI 12 (fun _ => 0), aI 6 (fun _ => 0), aI 6 (fun _ => 0), aI 13 (fun _ => 0), aI 13 (fun _ => 0)], a + 5, s + 50) _
  refine ev_aload_n i_Re_init_44 rfl ?_
  refine ev_bipushN (v := 13) i_Re_init_45 (by decide) ?_
  refine ev_newIP (P := P) i_Re_init_47 (by decide) (by have := hl; show P.length + _ < 1000; simp only [List.length_cons, List.length_nil]; omega) ?_
  show Ev scr l _ M_Re_init 49 [some (.ref (P.length + 0))] [.ref (P.length + 6), .ref (P.length + 0)] (P ++ [oB 6 [.ref (P.length + 1), .ref (P.length + 2), .ref (P.length + 3), .ref (P.length + 4), .ref (P.length + 5), .null, .int 0, .int 0, .int 0], aI 12 (fun _ => 0), aI 6 (fun _ => 0), aI 6 (fun _ => 0), aI 13 (fun _ => 0), aI 13 (fun _ => 0), aI 13 (fun _ => 0)], a + 6, s + 63) _
  refine ev_put i_Re_init_49 (getP P _ 0) (Nat.le_of_ble_eq_true rfl) rfl rfl ?_
  rw [putP]
  show Ev scr l _ M_Re_init 52 [some (.ref (P.length + 0))] [] (P ++ [oB 6 [.ref (P.length + 1), .ref (P.length + 2), .ref (P.length + 3), .ref (P.length + 4), .ref (P.length + 5), .ref (P.length + 6), .int 0, .int 0, .int 0], aI 12 (fun _ => 0), aI 6 (fun _ => 0), aI 6 (fun _ => 0), aI 13 (fun _ => 0), aI 13 (fun _ => 0), aI 13 (fun _ => 0)], a + 6, s + 63) _
  exact ev_vret i_Re_init_52 rfl
theorem ct_Re_init {scr : Scr} {l : Launch} {d : Nat} {P Q : List ACell} {b a s : Nat} (hb : b = P.length + Q.length) (hl : P.length + Q.length < 973) : MetA scr l (d + 1) M_Re_init [.ref b] (P ++ (Q ++ [oB 6 [.null, .null, .null, .null, .null, .null, .int 0, .int 0, .int 0]]), a, s) (.inl none, (P ++ (Q ++ [oB 6 [.ref (b + 1), .ref (b + 2), .ref (b + 3), .ref (b + 4), .ref (b + 5), .ref (b + 6), .int 0, .int 0, .int 0], aI 12 (fun _ => 0), aI 6 (fun _ => 0), aI 6 (fun _ => 0), aI 13 (fun _ => 0), aI 13 (fun _ => 0), aI 13 (fun _ => 0)]), a + 6, s + 63)) := by
  have h := ct0_Re_init (scr := scr) (l := l) (d := d) (P := P ++ Q) (a := a) (s := s) (hb.trans List.length_append.symm) (by rw [List.length_append]; exact hl)
  rw [List.append_assoc, List.append_assoc] at h
  exact h
theorem ct0_Ad_init {scr : Scr} {l : Launch} {d : Nat} {P : List ACell} {b a s : Nat} (hb : b = P.length) (hl : P.length < 975) : MetA scr l (d + 2) M_Ad_init [.ref b] (P ++ [oB 2 [.null, .null]], a, s) (.inl none, (P ++ [oB 2 [.ref (b + 1), .ref (b + 3)], oB 12 [.ref (b + 2), .int 0], aI 60 (fun _ => 0), oB 12 [.ref (b + 4), .int 0], aI 60 (fun _ => 0)], a + 4, s + 124)) := by
  subst hb
  refine MetA.of rfl (by decide +kernel) (Nat.le_of_ble_eq_true rfl) ?_
  show Ev scr l _ M_Ad_init 0 [some (.ref (P.length + 0))] [] (P ++ [oB 2 [.null, .null]], a + 0, s + 0) _
  refine ev_aload_n i_Ad_init_0 rfl ?_
  refine ev_objI i_Ad_init_1 rfl (Nat.le_of_ble_eq_true rfl) ?_
  refine ev_aload_n i_Ad_init_4 rfl ?_
  refine ev_newP (P := P) i_Ad_init_5 rfl (by have := hl; show P.length + _ < 1000; simp only [List.length_cons, List.length_nil]; omega) ?_
  show Ev scr l _ M_Ad_init 8 [some (.ref (P.length + 0))] [.ref (P.length + 1), .ref (P.length + 0)] (P ++ [oB 2 [.null, .null], oB 12 [.null, .int 0]], a + 1, s + 2) _
  refine ev_dup i_Ad_init_8 rfl ?_
  refine ev_callI0 i_Ad_init_9 rfl (Nat.le_of_ble_eq_true rfl) (ct_Wd_init (P := P) (Q := [oB 2 [.null, .null]]) (b := P.length + 1) rfl (by have := hl; simp only [List.length_cons, List.length_nil]; omega)) ?_
  show Ev scr l _ M_Ad_init 12 [some (.ref (P.length + 0))] [.ref (P.length + 1), .ref (P.length + 0)] (P ++ [oB 2 [.null, .null], oB 12 [.ref (P.length + 2), .int 0], aI 60 (fun _ => 0)], a + 2, s + 62) _
  refine ev_putF i_Ad_init_12 (getP P _ 0) (Nat.le_of_ble_eq_true rfl) rfl rfl ?_
  rw [putP]
  show Ev scr l _ M_Ad_init 15 [some (.ref (P.length + 0))] [] (P ++ [oB 2 [.ref (P.length + 1), .null], oB 12 [.ref (P.length + 2), .int 0], aI 60 (fun _ => 0)], a + 2, s + 62) _
  refine ev_aload_n i_Ad_init_15 rfl ?_
  refine ev_newP (P := P) i_Ad_init_16 rfl (by have := hl; show P.length + _ < 1000; simp only [List.length_cons, List.length_nil]; omega) ?_
  show Ev scr l _ M_Ad_init 19 [some (.ref (P.length + 0))] [.ref (P.length + 3), .ref (P.length + 0)] (P ++ [oB 2 [.ref (P.length + 1), .null], oB 12 [.ref (P.length + 2), .int 0], aI 60 (fun _ => 0), oB 12 [.null, .int 0]], a + 3, s + 64) _
  refine ev_dup i_Ad_init_19 rfl ?_
  refine ev_callI0 i_Ad_init_20 rfl (Nat.le_of_ble_eq_true rfl) (ct_Wd_init (P := P) (Q := [oB 2 [.ref (P.length + 1), .null], oB 12 [.ref (P.length + 2), .int 0], aI 60 (fun _ => 0)]) (b := P.length + 3) rfl (by have := hl; simp only [List.length_cons, List.length_nil]; omega)) ?_
  show Ev scr l _ M_Ad_init 23 [some (.ref (P.length + 0))] [.ref (P.length + 3), .ref (P.length + 0)] (P ++ [oB 2 [.ref (P.length + 1), .null], oB 12 [.ref (P.length + 2), .int 0], aI 60 (fun _ => 0), oB 12 [.ref (P.length + 4), .int 0], aI 60 (fun _ => 0)], a + 4, s + 124) _
  refine ev_putF i_Ad_init_23 (getP P _ 0) (Nat.le_of_ble_eq_true rfl) rfl rfl ?_
  rw [putP]
  show Ev scr l _ M_Ad_init 26 [some (.ref (P.length + 0))] [] (P ++ [oB 2 [.ref (P.length + 1), .ref (P.length + 3)], oB 12 [.ref (P.length + 2), .int 0], aI 60 (fun _ => 0), oB 12 [.ref (P.length + 4), .int 0], aI 60 (fun _ => 0)], a + 4, s + 124) _
  exact ev_vret i_Ad_init_26 rfl
theorem ct_Ad_init {scr : Scr} {l : Launch} {d : Nat} {P Q : List ACell} {b a s : Nat} (hb : b = P.length + Q.length) (hl : P.length + Q.length < 975) : MetA scr l (d + 2) M_Ad_init [.ref b] (P ++ (Q ++ [oB 2 [.null, .null]]), a, s) (.inl none, (P ++ (Q ++ [oB 2 [.ref (b + 1), .ref (b + 3)], oB 12 [.ref (b + 2), .int 0], aI 60 (fun _ => 0), oB 12 [.ref (b + 4), .int 0], aI 60 (fun _ => 0)]), a + 4, s + 124)) := by
  have h := ct0_Ad_init (scr := scr) (l := l) (d := d) (P := P ++ Q) (a := a) (s := s) (hb.trans List.length_append.symm) (by rw [List.length_append]; exact hl)
  rw [List.append_assoc, List.append_assoc] at h
  exact h
theorem ct0_Wy_init {scr : Scr} {l : Launch} {d : Nat} {P : List ACell} {b a s : Nat} (hb : b = P.length) (hl : P.length < 977) : MetA scr l (d + 1) M_Wy_init [.ref b] (P ++ [oB 11 [.null, .null]], a, s) (.inl none, (P ++ [oB 11 [.ref (b + 1), .ref (b + 2)], aJ 61 (fun _ => 0), aJ 61 (fun _ => 0)], a + 2, s + 122)) := by
  subst hb
  refine MetA.of rfl (by decide +kernel) (Nat.le_of_ble_eq_true rfl) ?_
  show Ev scr l _ M_Wy_init 0 [some (.ref (P.length + 0))] [] (P ++ [oB 11 [.null, .null]], a + 0, s + 0) _
  refine ev_aload_n i_Wy_init_0 rfl ?_
  refine ev_objI i_Wy_init_1 rfl (Nat.le_of_ble_eq_true rfl) ?_
  refine ev_aload_n i_Wy_init_4 rfl ?_
  refine ev_bipushN (v := 61) i_Wy_init_5 (by decide) ?_
  refine ev_newJP (P := P) i_Wy_init_7 (by decide) (by have := hl; show P.length + _ < 1000; simp only [List.length_cons, List.length_nil]; omega) ?_
  show Ev scr l _ M_Wy_init 9 [some (.ref (P.length + 0))] [.ref (P.length + 1), .ref (P.length + 0)] (P ++ [oB 11 [.null, .null], aJ 61 (fun _ => 0)], a + 1, s + 61) _
  refine ev_put i_Wy_init_9 (getP P _ 0) (Nat.le_of_ble_eq_true rfl) rfl rfl ?_
  rw [putP]
  show Ev scr l _ M_Wy_init 12 [some (.ref (P.length + 0))] [] (P ++ [oB 11 [.ref (P.length + 1), .null], aJ 61 (fun _ => 0)], a + 1, s + 61) _
  refine ev_aload_n i_Wy_init_12 rfl ?_
  refine ev_bipushN (v := 61) i_Wy_init_13 (by decide) ?_
  refine ev_newJP (P := P) i_Wy_init_15 (by decide) (by have := hl; show P.length + _ < 1000; simp only [List.length_cons, List.length_nil]; omega) ?_
  show Ev scr l _ M_Wy_init 17 [some (.ref (P.length + 0))] [.ref (P.length + 2), .ref (P.length + 0)] (P ++ [oB 11 [.ref (P.length + 1), .null], aJ 61 (fun _ => 0), aJ 61 (fun _ => 0)], a + 2, s + 122) _
  refine ev_put i_Wy_init_17 (getP P _ 0) (Nat.le_of_ble_eq_true rfl) rfl rfl ?_
  rw [putP]
  show Ev scr l _ M_Wy_init 20 [some (.ref (P.length + 0))] [] (P ++ [oB 11 [.ref (P.length + 1), .ref (P.length + 2)], aJ 61 (fun _ => 0), aJ 61 (fun _ => 0)], a + 2, s + 122) _
  exact ev_vret i_Wy_init_20 rfl
theorem ct_Wy_init {scr : Scr} {l : Launch} {d : Nat} {P Q : List ACell} {b a s : Nat} (hb : b = P.length + Q.length) (hl : P.length + Q.length < 977) : MetA scr l (d + 1) M_Wy_init [.ref b] (P ++ (Q ++ [oB 11 [.null, .null]]), a, s) (.inl none, (P ++ (Q ++ [oB 11 [.ref (b + 1), .ref (b + 2)], aJ 61 (fun _ => 0), aJ 61 (fun _ => 0)]), a + 2, s + 122)) := by
  have h := ct0_Wy_init (scr := scr) (l := l) (d := d) (P := P ++ Q) (a := a) (s := s) (hb.trans List.length_append.symm) (by rw [List.length_append]; exact hl)
  rw [List.append_assoc, List.append_assoc] at h
  exact h
theorem ct0_Hi_init {scr : Scr} {l : Launch} {d : Nat} {P : List ACell} {b a s : Nat} (hb : b = P.length) (hl : P.length < 962) : MetA scr l (d + 2) M_Hi_init [.ref b] (P ++ [oB 5 [.null, .int 0, .int 0]], a, s) (.inl none, (P ++ [oB 5 [.ref (b + 1), .int 0, .int 0], aQ "ParallelRewriting$Word" 8 (va_up (va_up (va_up (va_up (va_up (va_up (va_up (va_up (fun _ => none) 0 (some (b + 2))) 1 (some (b + 4))) 2 (some (b + 6))) 3 (some (b + 8))) 4 (some (b + 10))) 5 (some (b + 12))) 6 (some (b + 14))) 7 (some (b + 16))), oB 12 [.ref (b + 3), .int 0], aI 60 (fun _ => 0), oB 12 [.ref (b + 5), .int 0], aI 60 (fun _ => 0), oB 12 [.ref (b + 7), .int 0], aI 60 (fun _ => 0), oB 12 [.ref (b + 9), .int 0], aI 60 (fun _ => 0), oB 12 [.ref (b + 11), .int 0], aI 60 (fun _ => 0), oB 12 [.ref (b + 13), .int 0], aI 60 (fun _ => 0), oB 12 [.ref (b + 15), .int 0], aI 60 (fun _ => 0), oB 12 [.ref (b + 17), .int 0], aI 60 (fun _ => 0)], a + 17, s + 504)) := by
  subst hb
  refine MetA.of rfl (by decide +kernel) (Nat.le_of_ble_eq_true rfl) ?_
  show Ev scr l _ M_Hi_init 0 [some (.ref (P.length + 0)), none] [] (P ++ [oB 5 [.null, .int 0, .int 0]], a + 0, s + 0) _
  refine ev_aload_n i_Hi_init_0 rfl ?_
  refine ev_objI i_Hi_init_1 rfl (Nat.le_of_ble_eq_true rfl) ?_
  refine ev_aload_n i_Hi_init_4 rfl ?_
  refine ev_bipushN (v := 8) i_Hi_init_5 (by decide) ?_
  refine ev_newQP (P := P) i_Hi_init_7 (by decide) (by have := hl; show P.length + _ < 1000; simp only [List.length_cons, List.length_nil]; omega) ?_
  show Ev scr l _ M_Hi_init 10 [some (.ref (P.length + 0)), none] [.ref (P.length + 1), .ref (P.length + 0)] (P ++ [oB 5 [.null, .int 0, .int 0], aQ "ParallelRewriting$Word" 8 (fun _ => none)], a + 1, s + 8) _
  refine ev_putF i_Hi_init_10 (getP P _ 0) (Nat.le_of_ble_eq_true rfl) rfl rfl ?_
  rw [putP]
  show Ev scr l _ M_Hi_init 13 [some (.ref (P.length + 0)), none] [] (P ++ [oB 5 [.ref (P.length + 1), .int 0, .int 0], aQ "ParallelRewriting$Word" 8 (fun _ => none)], a + 1, s + 8) _
  refine ev_iconstN (v := 0) i_Hi_init_13 (by decide) ?_
  refine ev_ist_n_1 i_Hi_init_14 rfl ?_
  refine ev_iload_n i_Hi_init_15 rfl ?_
  refine ev_bipushN (v := 8) i_Hi_init_16 (by decide) ?_
  refine ev_icmp_geN i_Hi_init_18 (by decide) (by decide) (fun hc => absurd hc (by decide)) (fun _ => ?_)
  show Ev scr l _ M_Hi_init 21 [some (.ref (P.length + 0)), some (.int (nI 0))] [] (P ++ [oB 5 [.ref (P.length + 1), .int 0, .int 0], aQ "ParallelRewriting$Word" 8 (fun _ => none)], a + 1, s + 8) _
  refine ev_aload_n i_Hi_init_21 rfl ?_
  refine ev_get i_Hi_init_22 (getP P _ 0) rfl ?_
  refine ev_iload_n i_Hi_init_25 rfl ?_
  refine ev_newP (P := P) i_Hi_init_26 rfl (by have := hl; show P.length + _ < 1000; simp only [List.length_cons, List.length_nil]; omega) ?_
  show Ev scr l _ M_Hi_init 29 [some (.ref (P.length + 0)), some (.int (nI 0))] [.ref (P.length + 2), .int (nI 0), .ref (P.length + 1)] (P ++ [oB 5 [.ref (P.length + 1), .int 0, .int 0], aQ "ParallelRewriting$Word" 8 (fun _ => none), oB 12 [.null, .int 0]], a + 2, s + 10) _
  refine ev_dup i_Hi_init_29 rfl ?_
  refine ev_callI0 i_Hi_init_30 rfl (Nat.le_of_ble_eq_true rfl) (ct_Wd_init (P := P) (Q := [oB 5 [.ref (P.length + 1), .int 0, .int 0], aQ "ParallelRewriting$Word" 8 (fun _ => none)]) (b := P.length + 2) rfl (by have := hl; simp only [List.length_cons, List.length_nil]; omega)) ?_
  show Ev scr l _ M_Hi_init 33 [some (.ref (P.length + 0)), some (.int (nI 0))] [.ref (P.length + 2), .int (nI 0), .ref (P.length + 1)] (P ++ [oB 5 [.ref (P.length + 1), .int 0, .int 0], aQ "ParallelRewriting$Word" 8 (fun _ => none), oB 12 [.ref (P.length + 3), .int 0], aI 60 (fun _ => 0)], a + 3, s + 70) _
  refine ev_qastN i_Hi_init_33 (getP P _ 1) (getP P _ 2) rfl (by decide) (by decide) ?_
  rw [putP]
  show Ev scr l _ M_Hi_init 34 [some (.ref (P.length + 0)), some (.int (nI 0))] [] (P ++ [oB 5 [.ref (P.length + 1), .int 0, .int 0], aQ "ParallelRewriting$Word" 8 (va_up (fun _ => none) 0 (some (P.length + 2))), oB 12 [.ref (P.length + 3), .int 0], aI 60 (fun _ => 0)], a + 3, s + 70) _
  refine ev_iincN_1 (c := 1) i_Hi_init_34 (by decide) rfl ?_
  refine ev_goto i_Hi_init_37 ?_
  show Ev scr l _ M_Hi_init 15 [some (.ref (P.length + 0)), some (.int (nI 1))] [] (P ++ [oB 5 [.ref (P.length + 1), .int 0, .int 0], aQ "ParallelRewriting$Word" 8 (va_up (fun _ => none) 0 (some (P.length + 2))), oB 12 [.ref (P.length + 3), .int 0], aI 60 (fun _ => 0)], a + 3, s + 70) _
  refine ev_iload_n i_Hi_init_15 rfl ?_
  refine ev_bipushN (v := 8) i_Hi_init_16 (by decide) ?_
  refine ev_icmp_geN i_Hi_init_18 (by decide) (by decide) (fun hc => absurd hc (by decide)) (fun _ => ?_)
  show Ev scr l _ M_Hi_init 21 [some (.ref (P.length + 0)), some (.int (nI 1))] [] (P ++ [oB 5 [.ref (P.length + 1), .int 0, .int 0], aQ "ParallelRewriting$Word" 8 (va_up (fun _ => none) 0 (some (P.length + 2))), oB 12 [.ref (P.length + 3), .int 0], aI 60 (fun _ => 0)], a + 3, s + 70) _
  refine ev_aload_n i_Hi_init_21 rfl ?_
  refine ev_get i_Hi_init_22 (getP P _ 0) rfl ?_
  refine ev_iload_n i_Hi_init_25 rfl ?_
  refine ev_newP (P := P) i_Hi_init_26 rfl (by have := hl; show P.length + _ < 1000; simp only [List.length_cons, List.length_nil]; omega) ?_
  show Ev scr l _ M_Hi_init 29 [some (.ref (P.length + 0)), some (.int (nI 1))] [.ref (P.length + 4), .int (nI 1), .ref (P.length + 1)] (P ++ [oB 5 [.ref (P.length + 1), .int 0, .int 0], aQ "ParallelRewriting$Word" 8 (va_up (fun _ => none) 0 (some (P.length + 2))), oB 12 [.ref (P.length + 3), .int 0], aI 60 (fun _ => 0), oB 12 [.null, .int 0]], a + 4, s + 72) _
  refine ev_dup i_Hi_init_29 rfl ?_
  refine ev_callI0 i_Hi_init_30 rfl (Nat.le_of_ble_eq_true rfl) (ct_Wd_init (P := P) (Q := [oB 5 [.ref (P.length + 1), .int 0, .int 0], aQ "ParallelRewriting$Word" 8 (va_up (fun _ => none) 0 (some (P.length + 2))), oB 12 [.ref (P.length + 3), .int 0], aI 60 (fun _ => 0)]) (b := P.length + 4) rfl (by have := hl; simp only [List.length_cons, List.length_nil]; omega)) ?_
  show Ev scr l _ M_Hi_init 33 [some (.ref (P.length + 0)), some (.int (nI 1))] [.ref (P.length + 4), .int (nI 1), .ref (P.length + 1)] (P ++ [oB 5 [.ref (P.length + 1), .int 0, .int 0], aQ "ParallelRewriting$Word" 8 (va_up (fun _ => none) 0 (some (P.length + 2))), oB 12 [.ref (P.length + 3), .int 0], aI 60 (fun _ => 0), oB 12 [.ref (P.length + 5), .int 0], aI 60 (fun _ => 0)], a + 5, s + 132) _
  refine ev_qastN i_Hi_init_33 (getP P _ 1) (getP P _ 4) rfl (by decide) (by decide) ?_
  rw [putP]
  show Ev scr l _ M_Hi_init 34 [some (.ref (P.length + 0)), some (.int (nI 1))] [] (P ++ [oB 5 [.ref (P.length + 1), .int 0, .int 0], aQ "ParallelRewriting$Word" 8 (va_up (va_up (fun _ => none) 0 (some (P.length + 2))) 1 (some (P.length + 4))), oB 12 [.ref (P.length + 3), .int 0], aI 60 (fun _ => 0), oB 12 [.ref (P.length + 5), .int 0], aI 60 (fun _ => 0)], a + 5, s + 132) _
  refine ev_iincN_1 (c := 1) i_Hi_init_34 (by decide) rfl ?_
  refine ev_goto i_Hi_init_37 ?_
  show Ev scr l _ M_Hi_init 15 [some (.ref (P.length + 0)), some (.int (nI 2))] [] (P ++ [oB 5 [.ref (P.length + 1), .int 0, .int 0], aQ "ParallelRewriting$Word" 8 (va_up (va_up (fun _ => none) 0 (some (P.length + 2))) 1 (some (P.length + 4))), oB 12 [.ref (P.length + 3), .int 0], aI 60 (fun _ => 0), oB 12 [.ref (P.length + 5), .int 0], aI 60 (fun _ => 0)], a + 5, s + 132) _
  refine ev_iload_n i_Hi_init_15 rfl ?_
  refine ev_bipushN (v := 8) i_Hi_init_16 (by decide) ?_
  refine ev_icmp_geN i_Hi_init_18 (by decide) (by decide) (fun hc => absurd hc (by decide)) (fun _ => ?_)
  show Ev scr l _ M_Hi_init 21 [some (.ref (P.length + 0)), some (.int (nI 2))] [] (P ++ [oB 5 [.ref (P.length + 1), .int 0, .int 0], aQ "ParallelRewriting$Word" 8 (va_up (va_up (fun _ => none) 0 (some (P.length + 2))) 1 (some (P.length + 4))), oB 12 [.ref (P.length + 3), .int 0], aI 60 (fun _ => 0), oB 12 [.ref (P.length + 5), .int 0], aI 60 (fun _ => 0)], a + 5, s + 132) _
  refine ev_aload_n i_Hi_init_21 rfl ?_
  refine ev_get i_Hi_init_22 (getP P _ 0) rfl ?_
  refine ev_iload_n i_Hi_init_25 rfl ?_
  refine ev_newP (P := P) i_Hi_init_26 rfl (by have := hl; show P.length + _ < 1000; simp only [List.length_cons, List.length_nil]; omega) ?_
  show Ev scr l _ M_Hi_init 29 [some (.ref (P.length + 0)), some (.int (nI 2))] [.ref (P.length + 6), .int (nI 2), .ref (P.length + 1)] (P ++ [oB 5 [.ref (P.length + 1), .int 0, .int 0], aQ "ParallelRewriting$Word" 8 (va_up (va_up (fun _ => none) 0 (some (P.length + 2))) 1 (some (P.length + 4))), oB 12 [.ref (P.length + 3), .int 0], aI 60 (fun _ => 0), oB 12 [.ref (P.length + 5), .int 0], aI 60 (fun _ => 0), oB 12 [.null, .int 0]], a + 6, s + 134) _
  refine ev_dup i_Hi_init_29 rfl ?_
  refine ev_callI0 i_Hi_init_30 rfl (Nat.le_of_ble_eq_true rfl) (ct_Wd_init (P := P) (Q := [oB 5 [.ref (P.length + 1), .int 0, .int 0], aQ "ParallelRewriting$Word" 8 (va_up (va_up (fun _ => none) 0 (some (P.length + 2))) 1 (some (P.length + 4))), oB 12 [.ref (P.length + 3), .int 0], aI 60 (fun _ => 0), oB 12 [.ref (P.length + 5), .int 0], aI 60 (fun _ => 0)]) (b := P.length + 6) rfl (by have := hl; simp only [List.length_cons, List.length_nil]; omega)) ?_
  show Ev scr l _ M_Hi_init 33 [some (.ref (P.length + 0)), some (.int (nI 2))] [.ref (P.length + 6), .int (nI 2), .ref (P.length + 1)] (P ++ [oB 5 [.ref (P.length + 1), .int 0, .int 0], aQ "ParallelRewriting$Word" 8 (va_up (va_up (fun _ => none) 0 (some (P.length + 2))) 1 (some (P.length + 4))), oB 12 [.ref (P.length + 3), .int 0], aI 60 (fun _ => 0), oB 12 [.ref (P.length + 5), .int 0], aI 60 (fun _ => 0), oB 12 [.ref (P.length + 7), .int 0], aI 60 (fun _ => 0)], a + 7, s + 194) _
  refine ev_qastN i_Hi_init_33 (getP P _ 1) (getP P _ 6) rfl (by decide) (by decide) ?_
  rw [putP]
  show Ev scr l _ M_Hi_init 34 [some (.ref (P.length + 0)), some (.int (nI 2))] [] (P ++ [oB 5 [.ref (P.length + 1), .int 0, .int 0], aQ "ParallelRewriting$Word" 8 (va_up (va_up (va_up (fun _ => none) 0 (some (P.length + 2))) 1 (some (P.length + 4))) 2 (some (P.length + 6))), oB 12 [.ref (P.length + 3), .int 0], aI 60 (fun _ => 0), oB 12 [.ref (P.length + 5), .int 0], aI 60 (fun _ => 0), oB 12 [.ref (P.length + 7), .int 0], aI 60 (fun _ => 0)], a + 7, s + 194) _
  refine ev_iincN_1 (c := 1) i_Hi_init_34 (by decide) rfl ?_
  refine ev_goto i_Hi_init_37 ?_
  show Ev scr l _ M_Hi_init 15 [some (.ref (P.length + 0)), some (.int (nI 3))] [] (P ++ [oB 5 [.ref (P.length + 1), .int 0, .int 0], aQ "ParallelRewriting$Word" 8 (va_up (va_up (va_up (fun _ => none) 0 (some (P.length + 2))) 1 (some (P.length + 4))) 2 (some (P.length + 6))), oB 12 [.ref (P.length + 3), .int 0], aI 60 (fun _ => 0), oB 12 [.ref (P.length + 5), .int 0], aI 60 (fun _ => 0), oB 12 [.ref (P.length + 7), .int 0], aI 60 (fun _ => 0)], a + 7, s + 194) _
  refine ev_iload_n i_Hi_init_15 rfl ?_
  refine ev_bipushN (v := 8) i_Hi_init_16 (by decide) ?_
  refine ev_icmp_geN i_Hi_init_18 (by decide) (by decide) (fun hc => absurd hc (by decide)) (fun _ => ?_)
  show Ev scr l _ M_Hi_init 21 [some (.ref (P.length + 0)), some (.int (nI 3))] [] (P ++ [oB 5 [.ref (P.length + 1), .int 0, .int 0], aQ "ParallelRewriting$Word" 8 (va_up (va_up (va_up (fun _ => none) 0 (some (P.length + 2))) 1 (some (P.length + 4))) 2 (some (P.length + 6))), oB 12 [.ref (P.length + 3), .int 0], aI 60 (fun _ => 0), oB 12 [.ref (P.length + 5), .int 0], aI 60 (fun _ => 0), oB 12 [.ref (P.length + 7), .int 0], aI 60 (fun _ => 0)], a + 7, s + 194) _
  refine ev_aload_n i_Hi_init_21 rfl ?_
  refine ev_get i_Hi_init_22 (getP P _ 0) rfl ?_
  refine ev_iload_n i_Hi_init_25 rfl ?_
  refine ev_newP (P := P) i_Hi_init_26 rfl (by have := hl; show P.length + _ < 1000; simp only [List.length_cons, List.length_nil]; omega) ?_
  show Ev scr l _ M_Hi_init 29 [some (.ref (P.length + 0)), some (.int (nI 3))] [.ref (P.length + 8), .int (nI 3), .ref (P.length + 1)] (P ++ [oB 5 [.ref (P.length + 1), .int 0, .int 0], aQ "ParallelRewriting$Word" 8 (va_up (va_up (va_up (fun _ => none) 0 (some (P.length + 2))) 1 (some (P.length + 4))) 2 (some (P.length + 6))), oB 12 [.ref (P.length + 3), .int 0], aI 60 (fun _ => 0), oB 12 [.ref (P.length + 5), .int 0], aI 60 (fun _ => 0), oB 12 [.ref (P.length + 7), .int 0], aI 60 (fun _ => 0), oB 12 [.null, .int 0]], a + 8, s + 196) _
  refine ev_dup i_Hi_init_29 rfl ?_
  refine ev_callI0 i_Hi_init_30 rfl (Nat.le_of_ble_eq_true rfl) (ct_Wd_init (P := P) (Q := [oB 5 [.ref (P.length + 1), .int 0, .int 0], aQ "ParallelRewriting$Word" 8 (va_up (va_up (va_up (fun _ => none) 0 (some (P.length + 2))) 1 (some (P.length + 4))) 2 (some (P.length + 6))), oB 12 [.ref (P.length + 3), .int 0], aI 60 (fun _ => 0), oB 12 [.ref (P.length + 5), .int 0], aI 60 (fun _ => 0), oB 12 [.ref (P.length + 7), .int 0], aI 60 (fun _ => 0)]) (b := P.length + 8) rfl (by have := hl; simp only [List.length_cons, List.length_nil]; omega)) ?_
  show Ev scr l _ M_Hi_init 33 [some (.ref (P.length + 0)), some (.int (nI 3))] [.ref (P.length + 8), .int (nI 3), .ref (P.length + 1)] (P ++ [oB 5 [.ref (P.length + 1), .int 0, .int 0], aQ "ParallelRewriting$Word" 8 (va_up (va_up (va_up (fun _ => none) 0 (some (P.length + 2))) 1 (some (P.length + 4))) 2 (some (P.length + 6))), oB 12 [.ref (P.length + 3), .int 0], aI 60 (fun _ => 0), oB 12 [.ref (P.length + 5), .int 0], aI 60 (fun _ => 0), oB 12 [.ref (P.length + 7), .int 0], aI 60 (fun _ => 0), oB 12 [.ref (P.length + 9), .int 0], aI 60 (fun _ => 0)], a + 9, s + 256) _
  refine ev_qastN i_Hi_init_33 (getP P _ 1) (getP P _ 8) rfl (by decide) (by decide) ?_
  rw [putP]
  show Ev scr l _ M_Hi_init 34 [some (.ref (P.length + 0)), some (.int (nI 3))] [] (P ++ [oB 5 [.ref (P.length + 1), .int 0, .int 0], aQ "ParallelRewriting$Word" 8 (va_up (va_up (va_up (va_up (fun _ => none) 0 (some (P.length + 2))) 1 (some (P.length + 4))) 2 (some (P.length + 6))) 3 (some (P.length + 8))), oB 12 [.ref (P.length + 3), .int 0], aI 60 (fun _ => 0), oB 12 [.ref (P.length + 5), .int 0], aI 60 (fun _ => 0), oB 12 [.ref (P.length + 7), .int 0], aI 60 (fun _ => 0), oB 12 [.ref (P.length + 9), .int 0], aI 60 (fun _ => 0)], a + 9, s + 256) _
  refine ev_iincN_1 (c := 1) i_Hi_init_34 (by decide) rfl ?_
  refine ev_goto i_Hi_init_37 ?_
  show Ev scr l _ M_Hi_init 15 [some (.ref (P.length + 0)), some (.int (nI 4))] [] (P ++ [oB 5 [.ref (P.length + 1), .int 0, .int 0], aQ "ParallelRewriting$Word" 8 (va_up (va_up (va_up (va_up (fun _ => none) 0 (some (P.length + 2))) 1 (some (P.length + 4))) 2 (some (P.length + 6))) 3 (some (P.length + 8))), oB 12 [.ref (P.length + 3), .int 0], aI 60 (fun _ => 0), oB 12 [.ref (P.length + 5), .int 0], aI 60 (fun _ => 0), oB 12 [.ref (P.length + 7), .int 0], aI 60 (fun _ => 0), oB 12 [.ref (P.length + 9), .int 0], aI 60 (fun _ => 0)], a + 9, s + 256) _
  refine ev_iload_n i_Hi_init_15 rfl ?_
  refine ev_bipushN (v := 8) i_Hi_init_16 (by decide) ?_
  refine ev_icmp_geN i_Hi_init_18 (by decide) (by decide) (fun hc => absurd hc (by decide)) (fun _ => ?_)
  show Ev scr l _ M_Hi_init 21 [some (.ref (P.length + 0)), some (.int (nI 4))] [] (P ++ [oB 5 [.ref (P.length + 1), .int 0, .int 0], aQ "ParallelRewriting$Word" 8 (va_up (va_up (va_up (va_up (fun _ => none) 0 (some (P.length + 2))) 1 (some (P.length + 4))) 2 (some (P.length + 6))) 3 (some (P.length + 8))), oB 12 [.ref (P.length + 3), .int 0], aI 60 (fun _ => 0), oB 12 [.ref (P.length + 5), .int 0], aI 60 (fun _ => 0), oB 12 [.ref (P.length + 7), .int 0], aI 60 (fun _ => 0), oB 12 [.ref (P.length + 9), .int 0], aI 60 (fun _ => 0)], a + 9, s + 256) _
  refine ev_aload_n i_Hi_init_21 rfl ?_
  refine ev_get i_Hi_init_22 (getP P _ 0) rfl ?_
  refine ev_iload_n i_Hi_init_25 rfl ?_
  refine ev_newP (P := P) i_Hi_init_26 rfl (by have := hl; show P.length + _ < 1000; simp only [List.length_cons, List.length_nil]; omega) ?_
  show Ev scr l _ M_Hi_init 29 [some (.ref (P.length + 0)), some (.int (nI 4))] [.ref (P.length + 10), .int (nI 4), .ref (P.length + 1)] (P ++ [oB 5 [.ref (P.length + 1), .int 0, .int 0], aQ "ParallelRewriting$Word" 8 (va_up (va_up (va_up (va_up (fun _ => none) 0 (some (P.length + 2))) 1 (some (P.length + 4))) 2 (some (P.length + 6))) 3 (some (P.length + 8))), oB 12 [.ref (P.length + 3), .int 0], aI 60 (fun _ => 0), oB 12 [.ref (P.length + 5), .int 0], aI 60 (fun _ => 0), oB 12 [.ref (P.length + 7), .int 0], aI 60 (fun _ => 0), oB 12 [.ref (P.length + 9), .int 0], aI 60 (fun _ => 0), oB 12 [.null, .int 0]], a + 10, s + 258) _
  refine ev_dup i_Hi_init_29 rfl ?_
  refine ev_callI0 i_Hi_init_30 rfl (Nat.le_of_ble_eq_true rfl) (ct_Wd_init (P := P) (Q := [oB 5 [.ref (P.length + 1), .int 0, .int 0], aQ "ParallelRewriting$Word" 8 (va_up (va_up (va_up (va_up (fun _ => none) 0 (some (P.length + 2))) 1 (some (P.length + 4))) 2 (some (P.length + 6))) 3 (some (P.length + 8))), oB 12 [.ref (P.length + 3), .int 0], aI 60 (fun _ => 0), oB 12 [.ref (P.length + 5), .int 0], aI 60 (fun _ => 0), oB 12 [.ref (P.length + 7), .int 0], aI 60 (fun _ => 0), oB 12 [.ref (P.length + 9), .int 0], aI 60 (fun _ => 0)]) (b := P.length + 10) rfl (by have := hl; simp only [List.length_cons, List.length_nil]; omega)) ?_
  show Ev scr l _ M_Hi_init 33 [some (.ref (P.length + 0)), some (.int (nI 4))] [.ref (P.length + 10), .int (nI 4), .ref (P.length + 1)] (P ++ [oB 5 [.ref (P.length + 1), .int 0, .int 0], aQ "ParallelRewriting$Word" 8 (va_up (va_up (va_up (va_up (fun _ => none) 0 (some (P.length + 2))) 1 (some (P.length + 4))) 2 (some (P.length + 6))) 3 (some (P.length + 8))), oB 12 [.ref (P.length + 3), .int 0], aI 60 (fun _ => 0), oB 12 [.ref (P.length + 5), .int 0], aI 60 (fun _ => 0), oB 12 [.ref (P.length + 7), .int 0], aI 60 (fun _ => 0), oB 12 [.ref (P.length + 9), .int 0], aI 60 (fun _ => 0), oB 12 [.ref (P.length + 11), .int 0], aI 60 (fun _ => 0)], a + 11, s + 318) _
  refine ev_qastN i_Hi_init_33 (getP P _ 1) (getP P _ 10) rfl (by decide) (by decide) ?_
  rw [putP]
  show Ev scr l _ M_Hi_init 34 [some (.ref (P.length + 0)), some (.int (nI 4))] [] (P ++ [oB 5 [.ref (P.length + 1), .int 0, .int 0], aQ "ParallelRewriting$Word" 8 (va_up (va_up (va_up (va_up (va_up (fun _ => none) 0 (some (P.length + 2))) 1 (some (P.length + 4))) 2 (some (P.length + 6))) 3 (some (P.length + 8))) 4 (some (P.length + 10))), oB 12 [.ref (P.length + 3), .int 0], aI 60 (fun _ => 0), oB 12 [.ref (P.length + 5), .int 0], aI 60 (fun _ => 0), oB 12 [.ref (P.length + 7), .int 0], aI 60 (fun _ => 0), oB 12 [.ref (P.length + 9), .int 0], aI 60 (fun _ => 0), oB 12 [.ref (P.length + 11), .int 0], aI 60 (fun _ => 0)], a + 11, s + 318) _
  refine ev_iincN_1 (c := 1) i_Hi_init_34 (by decide) rfl ?_
  refine ev_goto i_Hi_init_37 ?_
  show Ev scr l _ M_Hi_init 15 [some (.ref (P.length + 0)), some (.int (nI 5))] [] (P ++ [oB 5 [.ref (P.length + 1), .int 0, .int 0], aQ "ParallelRewriting$Word" 8 (va_up (va_up (va_up (va_up (va_up (fun _ => none) 0 (some (P.length + 2))) 1 (some (P.length + 4))) 2 (some (P.length + 6))) 3 (some (P.length + 8))) 4 (some (P.length + 10))), oB 12 [.ref (P.length + 3), .int 0], aI 60 (fun _ => 0), oB 12 [.ref (P.length + 5), .int 0], aI 60 (fun _ => 0), oB 12 [.ref (P.length + 7), .int 0], aI 60 (fun _ => 0), oB 12 [.ref (P.length + 9), .int 0], aI 60 (fun _ => 0), oB 12 [.ref (P.length + 11), .int 0], aI 60 (fun _ => 0)], a + 11, s + 318) _
  refine ev_iload_n i_Hi_init_15 rfl ?_
  refine ev_bipushN (v := 8) i_Hi_init_16 (by decide) ?_
  refine ev_icmp_geN i_Hi_init_18 (by decide) (by decide) (fun hc => absurd hc (by decide)) (fun _ => ?_)
  show Ev scr l _ M_Hi_init 21 [some (.ref (P.length + 0)), some (.int (nI 5))] [] (P ++ [oB 5 [.ref (P.length + 1), .int 0, .int 0], aQ "ParallelRewriting$Word" 8 (va_up (va_up (va_up (va_up (va_up (fun _ => none) 0 (some (P.length + 2))) 1 (some (P.length + 4))) 2 (some (P.length + 6))) 3 (some (P.length + 8))) 4 (some (P.length + 10))), oB 12 [.ref (P.length + 3), .int 0], aI 60 (fun _ => 0), oB 12 [.ref (P.length + 5), .int 0], aI 60 (fun _ => 0), oB 12 [.ref (P.length + 7), .int 0], aI 60 (fun _ => 0), oB 12 [.ref (P.length + 9), .int 0], aI 60 (fun _ => 0), oB 12 [.ref (P.length + 11), .int 0], aI 60 (fun _ => 0)], a + 11, s + 318) _
  refine ev_aload_n i_Hi_init_21 rfl ?_
  refine ev_get i_Hi_init_22 (getP P _ 0) rfl ?_
  refine ev_iload_n i_Hi_init_25 rfl ?_
  refine ev_newP (P := P) i_Hi_init_26 rfl (by have := hl; show P.length + _ < 1000; simp only [List.length_cons, List.length_nil]; omega) ?_
  show Ev scr l _ M_Hi_init 29 [some (.ref (P.length + 0)), some (.int (nI 5))] [.ref (P.length + 12), .int (nI 5), .ref (P.length + 1)] (P ++ [oB 5 [.ref (P.length + 1), .int 0, .int 0], aQ "ParallelRewriting$Word" 8 (va_up (va_up (va_up (va_up (va_up (fun _ => none) 0 (some (P.length + 2))) 1 (some (P.length + 4))) 2 (some (P.length + 6))) 3 (some (P.length + 8))) 4 (some (P.length + 10))), oB 12 [.ref (P.length + 3), .int 0], aI 60 (fun _ => 0), oB 12 [.ref (P.length + 5), .int 0], aI 60 (fun _ => 0), oB 12 [.ref (P.length + 7), .int 0], aI 60 (fun _ => 0), oB 12 [.ref (P.length + 9), .int 0], aI 60 (fun _ => 0), oB 12 [.ref (P.length + 11), .int 0], aI 60 (fun _ => 0), oB 12 [.null, .int 0]], a + 12, s + 320) _
  refine ev_dup i_Hi_init_29 rfl ?_
  refine ev_callI0 i_Hi_init_30 rfl (Nat.le_of_ble_eq_true rfl) (ct_Wd_init (P := P) (Q := [oB 5 [.ref (P.length + 1), .int 0, .int 0], aQ "ParallelRewriting$Word" 8 (va_up (va_up (va_up (va_up (va_up (fun _ => none) 0 (some (P.length + 2))) 1 (some (P.length + 4))) 2 (some (P.length + 6))) 3 (some (P.length + 8))) 4 (some (P.length + 10))), oB 12 [.ref (P.length + 3), .int 0], aI 60 (fun _ => 0), oB 12 [.ref (P.length + 5), .int 0], aI 60 (fun _ => 0), oB 12 [.ref (P.length + 7), .int 0], aI 60 (fun _ => 0), oB 12 [.ref (P.length + 9), .int 0], aI 60 (fun _ => 0), oB 12 [.ref (P.length + 11), .int 0], aI 60 (fun _ => 0)]) (b := P.length + 12) rfl (by have := hl; simp only [List.length_cons, List.length_nil]; omega)) ?_
  show Ev scr l _ M_Hi_init 33 [some (.ref (P.length + 0)), some (.int (nI 5))] [.ref (P.length + 12), .int (nI 5), .ref (P.length + 1)] (P ++ [oB 5 [.ref (P.length + 1), .int 0, .int 0], aQ "ParallelRewriting$Word" 8 (va_up (va_up (va_up (va_up (va_up (fun _ => none) 0 (some (P.length + 2))) 1 (some (P.length + 4))) 2 (some (P.length + 6))) 3 (some (P.length + 8))) 4 (some (P.length + 10))), oB 12 [.ref (P.length + 3), .int 0], aI 60 (fun _ => 0), oB 12 [.ref (P.length + 5), .int 0], aI 60 (fun _ => 0), oB 12 [.ref (P.length + 7), .int 0], aI 60 (fun _ => 0), oB 12 [.ref (P.length + 9), .int 0], aI 60 (fun _ => 0), oB 12 [.ref (P.length + 11), .int 0], aI 60 (fun _ => 0), oB 12 [.ref (P.length + 13), .int 0], aI 60 (fun _ => 0)], a + 13, s + 380) _
  refine ev_qastN i_Hi_init_33 (getP P _ 1) (getP P _ 12) rfl (by decide) (by decide) ?_
  rw [putP]
  show Ev scr l _ M_Hi_init 34 [some (.ref (P.length + 0)), some (.int (nI 5))] [] (P ++ [oB 5 [.ref (P.length + 1), .int 0, .int 0], aQ "ParallelRewriting$Word" 8 (va_up (va_up (va_up (va_up (va_up (va_up (fun _ => none) 0 (some (P.length + 2))) 1 (some (P.length + 4))) 2 (some (P.length + 6))) 3 (some (P.length + 8))) 4 (some (P.length + 10))) 5 (some (P.length + 12))), oB 12 [.ref (P.length + 3), .int 0], aI 60 (fun _ => 0), oB 12 [.ref (P.length + 5), .int 0], aI 60 (fun _ => 0), oB 12 [.ref (P.length + 7), .int 0], aI 60 (fun _ => 0), oB 12 [.ref (P.length + 9), .int 0], aI 60 (fun _ => 0), oB 12 [.ref (P.length + 11), .int 0], aI 60 (fun _ => 0), oB 12 [.ref (P.length + 13), .int 0], aI 60 (fun _ => 0)], a + 13, s + 380) _
  refine ev_iincN_1 (c := 1) i_Hi_init_34 (by decide) rfl ?_
  refine ev_goto i_Hi_init_37 ?_
  show Ev scr l _ M_Hi_init 15 [some (.ref (P.length + 0)), some (.int (nI 6))] [] (P ++ [oB 5 [.ref (P.length + 1), .int 0, .int 0], aQ "ParallelRewriting$Word" 8 (va_up (va_up (va_up (va_up (va_up (va_up (fun _ => none) 0 (some (P.length + 2))) 1 (some (P.length + 4))) 2 (some (P.length + 6))) 3 (some (P.length + 8))) 4 (some (P.length + 10))) 5 (some (P.length + 12))), oB 12 [.ref (P.length + 3), .int 0], aI 60 (fun _ => 0), oB 12 [.ref (P.length + 5), .int 0], aI 60 (fun _ => 0), oB 12 [.ref (P.length + 7), .int 0], aI 60 (fun _ => 0), oB 12 [.ref (P.length + 9), .int 0], aI 60 (fun _ => 0), oB 12 [.ref (P.length + 11), .int 0], aI 60 (fun _ => 0), oB 12 [.ref (P.length + 13), .int 0], aI 60 (fun _ => 0)], a + 13, s + 380) _
  refine ev_iload_n i_Hi_init_15 rfl ?_
  refine ev_bipushN (v := 8) i_Hi_init_16 (by decide) ?_
  refine ev_icmp_geN i_Hi_init_18 (by decide) (by decide) (fun hc => absurd hc (by decide)) (fun _ => ?_)
  show Ev scr l _ M_Hi_init 21 [some (.ref (P.length + 0)), some (.int (nI 6))] [] (P ++ [oB 5 [.ref (P.length + 1), .int 0, .int 0], aQ "ParallelRewriting$Word" 8 (va_up (va_up (va_up (va_up (va_up (va_up (fun _ => none) 0 (some (P.length + 2))) 1 (some (P.length + 4))) 2 (some (P.length + 6))) 3 (some (P.length + 8))) 4 (some (P.length + 10))) 5 (some (P.length + 12))), oB 12 [.ref (P.length + 3), .int 0], aI 60 (fun _ => 0), oB 12 [.ref (P.length + 5), .int 0], aI 60 (fun _ => 0), oB 12 [.ref (P.length + 7), .int 0], aI 60 (fun _ => 0), oB 12 [.ref (P.length + 9), .int 0], aI 60 (fun _ => 0), oB 12 [.ref (P.length + 11), .int 0], aI 60 (fun _ => 0), oB 12 [.ref (P.length + 13), .int 0], aI 60 (fun _ => 0)], a + 13, s + 380) _
  refine ev_aload_n i_Hi_init_21 rfl ?_
  refine ev_get i_Hi_init_22 (getP P _ 0) rfl ?_
  refine ev_iload_n i_Hi_init_25 rfl ?_
  refine ev_newP (P := P) i_Hi_init_26 rfl (by have := hl; show P.length + _ < 1000; simp only [List.length_cons, List.length_nil]; omega) ?_
  show Ev scr l _ M_Hi_init 29 [some (.ref (P.length + 0)), some (.int (nI 6))] [.ref (P.length + 14), .int (nI 6), .ref (P.length + 1)] (P ++ [oB 5 [.ref (P.length + 1), .int 0, .int 0], aQ "ParallelRewriting$Word" 8 (va_up (va_up (va_up (va_up (va_up (va_up (fun _ => none) 0 (some (P.length + 2))) 1 (some (P.length + 4))) 2 (some (P.length + 6))) 3 (some (P.length + 8))) 4 (some (P.length + 10))) 5 (some (P.length + 12))), oB 12 [.ref (P.length + 3), .int 0], aI 60 (fun _ => 0), oB 12 [.ref (P.length + 5), .int 0], aI 60 (fun _ => 0), oB 12 [.ref (P.length + 7), .int 0], aI 60 (fun _ => 0), oB 12 [.ref (P.length + 9), .int 0], aI 60 (fun _ => 0), oB 12 [.ref (P.length + 11), .int 0], aI 60 (fun _ => 0), oB 12 [.ref (P.length + 13), .int 0], aI 60 (fun _ => 0), oB 12 [.null, .int 0]], a + 14, s + 382) _
  refine ev_dup i_Hi_init_29 rfl ?_
  refine ev_callI0 i_Hi_init_30 rfl (Nat.le_of_ble_eq_true rfl) (ct_Wd_init (P := P) (Q := [oB 5 [.ref (P.length + 1), .int 0, .int 0], aQ "ParallelRewriting$Word" 8 (va_up (va_up (va_up (va_up (va_up (va_up (fun _ => none) 0 (some (P.length + 2))) 1 (some (P.length + 4))) 2 (some (P.length + 6))) 3 (some (P.length + 8))) 4 (some (P.length + 10))) 5 (some (P.length + 12))), oB 12 [.ref (P.length + 3), .int 0], aI 60 (fun _ => 0), oB 12 [.ref (P.length + 5), .int 0], aI 60 (fun _ => 0), oB 12 [.ref (P.length + 7), .int 0], aI 60 (fun _ => 0), oB 12 [.ref (P.length + 9), .int 0], aI 60 (fun _ => 0), oB 12 [.ref (P.length + 11), .int 0], aI 60 (fun _ => 0), oB 12 [.ref (P.length + 13), .int 0], aI 60 (fun _ => 0)]) (b := P.length + 14) rfl (by have := hl; simp only [List.length_cons, List.length_nil]; omega)) ?_
  show Ev scr l _ M_Hi_init 33 [some (.ref (P.length + 0)), some (.int (nI 6))] [.ref (P.length + 14), .int (nI 6), .ref (P.length + 1)] (P ++ [oB 5 [.ref (P.length + 1), .int 0, .int 0], aQ "ParallelRewriting$Word" 8 (va_up (va_up (va_up (va_up (va_up (va_up (fun _ => none) 0 (some (P.length + 2))) 1 (some (P.length + 4))) 2 (some (P.length + 6))) 3 (some (P.length + 8))) 4 (some (P.length + 10))) 5 (some (P.length + 12))), oB 12 [.ref (P.length + 3), .int 0], aI 60 (fun _ => 0), oB 12 [.ref (P.length + 5), .int 0], aI 60 (fun _ => 0), oB 12 [.ref (P.length + 7), .int 0], aI 60 (fun _ => 0), oB 12 [.ref (P.length + 9), .int 0], aI 60 (fun _ => 0), oB 12 [.ref (P.length + 11), .int 0], aI 60 (fun _ => 0), oB 12 [.ref (P.length + 13), .int 0], aI 60 (fun _ => 0), oB 12 [.ref (P.length + 15), .int 0], aI 60 (fun _ => 0)], a + 15, s + 442) _
  refine ev_qastN i_Hi_init_33 (getP P _ 1) (getP P _ 14) rfl (by decide) (by decide) ?_
  rw [putP]
  show Ev scr l _ M_Hi_init 34 [some (.ref (P.length + 0)), some (.int (nI 6))] [] (P ++ [oB 5 [.ref (P.length + 1), .int 0, .int 0], aQ "ParallelRewriting$Word" 8 (va_up (va_up (va_up (va_up (va_up (va_up (va_up (fun _ => none) 0 (some (P.length + 2))) 1 (some (P.length + 4))) 2 (some (P.length + 6))) 3 (some (P.length + 8))) 4 (some (P.length + 10))) 5 (some (P.length + 12))) 6 (some (P.length + 14))), oB 12 [.ref (P.length + 3), .int 0], aI 60 (fun _ => 0), oB 12 [.ref (P.length + 5), .int 0], aI 60 (fun _ => 0), oB 12 [.ref (P.length + 7), .int 0], aI 60 (fun _ => 0), oB 12 [.ref (P.length + 9), .int 0], aI 60 (fun _ => 0), oB 12 [.ref (P.length + 11), .int 0], aI 60 (fun _ => 0), oB 12 [.ref (P.length + 13), .int 0], aI 60 (fun _ => 0), oB 12 [.ref (P.length + 15), .int 0], aI 60 (fun _ => 0)], a + 15, s + 442) _
  refine ev_iincN_1 (c := 1) i_Hi_init_34 (by decide) rfl ?_
  refine ev_goto i_Hi_init_37 ?_
  show Ev scr l _ M_Hi_init 15 [some (.ref (P.length + 0)), some (.int (nI 7))] [] (P ++ [oB 5 [.ref (P.length + 1), .int 0, .int 0], aQ "ParallelRewriting$Word" 8 (va_up (va_up (va_up (va_up (va_up (va_up (va_up (fun _ => none) 0 (some (P.length + 2))) 1 (some (P.length + 4))) 2 (some (P.length + 6))) 3 (some (P.length + 8))) 4 (some (P.length + 10))) 5 (some (P.length + 12))) 6 (some (P.length + 14))), oB 12 [.ref (P.length + 3), .int 0], aI 60 (fun _ => 0), oB 12 [.ref (P.length + 5), .int 0], aI 60 (fun _ => 0), oB 12 [.ref (P.length + 7), .int 0], aI 60 (fun _ => 0), oB 12 [.ref (P.length + 9), .int 0], aI 60 (fun _ => 0), oB 12 [.ref (P.length + 11), .int 0], aI 60 (fun _ => 0), oB 12 [.ref (P.length + 13), .int 0], aI 60 (fun _ => 0), oB 12 [.ref (P.length + 15), .int 0], aI 60 (fun _ => 0)], a + 15, s + 442) _
  refine ev_iload_n i_Hi_init_15 rfl ?_
  refine ev_bipushN (v := 8) i_Hi_init_16 (by decide) ?_
  refine ev_icmp_geN i_Hi_init_18 (by decide) (by decide) (fun hc => absurd hc (by decide)) (fun _ => ?_)
  show Ev scr l _ M_Hi_init 21 [some (.ref (P.length + 0)), some (.int (nI 7))] [] (P ++ [oB 5 [.ref (P.length + 1), .int 0, .int 0], aQ "ParallelRewriting$Word" 8 (va_up (va_up (va_up (va_up (va_up (va_up (va_up (fun _ => none) 0 (some (P.length + 2))) 1 (some (P.length + 4))) 2 (some (P.length + 6))) 3 (some (P.length + 8))) 4 (some (P.length + 10))) 5 (some (P.length + 12))) 6 (some (P.length + 14))), oB 12 [.ref (P.length + 3), .int 0], aI 60 (fun _ => 0), oB 12 [.ref (P.length + 5), .int 0], aI 60 (fun _ => 0), oB 12 [.ref (P.length + 7), .int 0], aI 60 (fun _ => 0), oB 12 [.ref (P.length + 9), .int 0], aI 60 (fun _ => 0), oB 12 [.ref (P.length + 11), .int 0], aI 60 (fun _ => 0), oB 12 [.ref (P.length + 13), .int 0], aI 60 (fun _ => 0), oB 12 [.ref (P.length + 15), .int 0], aI 60 (fun _ => 0)], a + 15, s + 442) _
  refine ev_aload_n i_Hi_init_21 rfl ?_
  refine ev_get i_Hi_init_22 (getP P _ 0) rfl ?_
  refine ev_iload_n i_Hi_init_25 rfl ?_
  refine ev_newP (P := P) i_Hi_init_26 rfl (by have := hl; show P.length + _ < 1000; simp only [List.length_cons, List.length_nil]; omega) ?_
  show Ev scr l _ M_Hi_init 29 [some (.ref (P.length + 0)), some (.int (nI 7))] [.ref (P.length + 16), .int (nI 7), .ref (P.length + 1)] (P ++ [oB 5 [.ref (P.length + 1), .int 0, .int 0], aQ "ParallelRewriting$Word" 8 (va_up (va_up (va_up (va_up (va_up (va_up (va_up (fun _ => none) 0 (some (P.length + 2))) 1 (some (P.length + 4))) 2 (some (P.length + 6))) 3 (some (P.length + 8))) 4 (some (P.length + 10))) 5 (some (P.length + 12))) 6 (some (P.length + 14))), oB 12 [.ref (P.length + 3), .int 0], aI 60 (fun _ => 0), oB 12 [.ref (P.length + 5), .int 0], aI 60 (fun _ => 0), oB 12 [.ref (P.length + 7), .int 0], aI 60 (fun _ => 0), oB 12 [.ref (P.length + 9), .int 0], aI 60 (fun _ => 0), oB 12 [.ref (P.length + 11), .int 0], aI 60 (fun _ => 0), oB 12 [.ref (P.length + 13), .int 0], aI 60 (fun _ => 0), oB 12 [.ref (P.length + 15), .int 0], aI 60 (fun _ => 0), oB 12 [.null, .int 0]], a + 16, s + 444) _
  refine ev_dup i_Hi_init_29 rfl ?_
  refine ev_callI0 i_Hi_init_30 rfl (Nat.le_of_ble_eq_true rfl) (ct_Wd_init (P := P) (Q := [oB 5 [.ref (P.length + 1), .int 0, .int 0], aQ "ParallelRewriting$Word" 8 (va_up (va_up (va_up (va_up (va_up (va_up (va_up (fun _ => none) 0 (some (P.length + 2))) 1 (some (P.length + 4))) 2 (some (P.length + 6))) 3 (some (P.length + 8))) 4 (some (P.length + 10))) 5 (some (P.length + 12))) 6 (some (P.length + 14))), oB 12 [.ref (P.length + 3), .int 0], aI 60 (fun _ => 0), oB 12 [.ref (P.length + 5), .int 0], aI 60 (fun _ => 0), oB 12 [.ref (P.length + 7), .int 0], aI 60 (fun _ => 0), oB 12 [.ref (P.length + 9), .int 0], aI 60 (fun _ => 0), oB 12 [.ref (P.length + 11), .int 0], aI 60 (fun _ => 0), oB 12 [.ref (P.length + 13), .int 0], aI 60 (fun _ => 0), oB 12 [.ref (P.length + 15), .int 0], aI 60 (fun _ => 0)]) (b := P.length + 16) rfl (by have := hl; simp only [List.length_cons, List.length_nil]; omega)) ?_
  show Ev scr l _ M_Hi_init 33 [some (.ref (P.length + 0)), some (.int (nI 7))] [.ref (P.length + 16), .int (nI 7), .ref (P.length + 1)] (P ++ [oB 5 [.ref (P.length + 1), .int 0, .int 0], aQ "ParallelRewriting$Word" 8 (va_up (va_up (va_up (va_up (va_up (va_up (va_up (fun _ => none) 0 (some (P.length + 2))) 1 (some (P.length + 4))) 2 (some (P.length + 6))) 3 (some (P.length + 8))) 4 (some (P.length + 10))) 5 (some (P.length + 12))) 6 (some (P.length + 14))), oB 12 [.ref (P.length + 3), .int 0], aI 60 (fun _ => 0), oB 12 [.ref (P.length + 5), .int 0], aI 60 (fun _ => 0), oB 12 [.ref (P.length + 7), .int 0], aI 60 (fun _ => 0), oB 12 [.ref (P.length + 9), .int 0], aI 60 (fun _ => 0), oB 12 [.ref (P.length + 11), .int 0], aI 60 (fun _ => 0), oB 12 [.ref (P.length + 13), .int 0], aI 60 (fun _ => 0), oB 12 [.ref (P.length + 15), .int 0], aI 60 (fun _ => 0), oB 12 [.ref (P.length + 17), .int 0], aI 60 (fun _ => 0)], a + 17, s + 504) _
  refine ev_qastN i_Hi_init_33 (getP P _ 1) (getP P _ 16) rfl (by decide) (by decide) ?_
  rw [putP]
  show Ev scr l _ M_Hi_init 34 [some (.ref (P.length + 0)), some (.int (nI 7))] [] (P ++ [oB 5 [.ref (P.length + 1), .int 0, .int 0], aQ "ParallelRewriting$Word" 8 (va_up (va_up (va_up (va_up (va_up (va_up (va_up (va_up (fun _ => none) 0 (some (P.length + 2))) 1 (some (P.length + 4))) 2 (some (P.length + 6))) 3 (some (P.length + 8))) 4 (some (P.length + 10))) 5 (some (P.length + 12))) 6 (some (P.length + 14))) 7 (some (P.length + 16))), oB 12 [.ref (P.length + 3), .int 0], aI 60 (fun _ => 0), oB 12 [.ref (P.length + 5), .int 0], aI 60 (fun _ => 0), oB 12 [.ref (P.length + 7), .int 0], aI 60 (fun _ => 0), oB 12 [.ref (P.length + 9), .int 0], aI 60 (fun _ => 0), oB 12 [.ref (P.length + 11), .int 0], aI 60 (fun _ => 0), oB 12 [.ref (P.length + 13), .int 0], aI 60 (fun _ => 0), oB 12 [.ref (P.length + 15), .int 0], aI 60 (fun _ => 0), oB 12 [.ref (P.length + 17), .int 0], aI 60 (fun _ => 0)], a + 17, s + 504) _
  refine ev_iincN_1 (c := 1) i_Hi_init_34 (by decide) rfl ?_
  refine ev_goto i_Hi_init_37 ?_
  show Ev scr l _ M_Hi_init 15 [some (.ref (P.length + 0)), some (.int (nI 8))] [] (P ++ [oB 5 [.ref (P.length + 1), .int 0, .int 0], aQ "ParallelRewriting$Word" 8 (va_up (va_up (va_up (va_up (va_up (va_up (va_up (va_up (fun _ => none) 0 (some (P.length + 2))) 1 (some (P.length + 4))) 2 (some (P.length + 6))) 3 (some (P.length + 8))) 4 (some (P.length + 10))) 5 (some (P.length + 12))) 6 (some (P.length + 14))) 7 (some (P.length + 16))), oB 12 [.ref (P.length + 3), .int 0], aI 60 (fun _ => 0), oB 12 [.ref (P.length + 5), .int 0], aI 60 (fun _ => 0), oB 12 [.ref (P.length + 7), .int 0], aI 60 (fun _ => 0), oB 12 [.ref (P.length + 9), .int 0], aI 60 (fun _ => 0), oB 12 [.ref (P.length + 11), .int 0], aI 60 (fun _ => 0), oB 12 [.ref (P.length + 13), .int 0], aI 60 (fun _ => 0), oB 12 [.ref (P.length + 15), .int 0], aI 60 (fun _ => 0), oB 12 [.ref (P.length + 17), .int 0], aI 60 (fun _ => 0)], a + 17, s + 504) _
  refine ev_iload_n i_Hi_init_15 rfl ?_
  refine ev_bipushN (v := 8) i_Hi_init_16 (by decide) ?_
  refine ev_icmp_geN i_Hi_init_18 (by decide) (by decide) (fun _ => ?_) (fun hc => absurd hc (by decide))
  show Ev scr l _ M_Hi_init 40 [some (.ref (P.length + 0)), some (.int (nI 8))] [] (P ++ [oB 5 [.ref (P.length + 1), .int 0, .int 0], aQ "ParallelRewriting$Word" 8 (va_up (va_up (va_up (va_up (va_up (va_up (va_up (va_up (fun _ => none) 0 (some (P.length + 2))) 1 (some (P.length + 4))) 2 (some (P.length + 6))) 3 (some (P.length + 8))) 4 (some (P.length + 10))) 5 (some (P.length + 12))) 6 (some (P.length + 14))) 7 (some (P.length + 16))), oB 12 [.ref (P.length + 3), .int 0], aI 60 (fun _ => 0), oB 12 [.ref (P.length + 5), .int 0], aI 60 (fun _ => 0), oB 12 [.ref (P.length + 7), .int 0], aI 60 (fun _ => 0), oB 12 [.ref (P.length + 9), .int 0], aI 60 (fun _ => 0), oB 12 [.ref (P.length + 11), .int 0], aI 60 (fun _ => 0), oB 12 [.ref (P.length + 13), .int 0], aI 60 (fun _ => 0), oB 12 [.ref (P.length + 15), .int 0], aI 60 (fun _ => 0), oB 12 [.ref (P.length + 17), .int 0], aI 60 (fun _ => 0)], a + 17, s + 504) _
  exact ev_vret i_Hi_init_40 rfl
theorem ct_Hi_init {scr : Scr} {l : Launch} {d : Nat} {P Q : List ACell} {b a s : Nat} (hb : b = P.length + Q.length) (hl : P.length + Q.length < 962) : MetA scr l (d + 2) M_Hi_init [.ref b] (P ++ (Q ++ [oB 5 [.null, .int 0, .int 0]]), a, s) (.inl none, (P ++ (Q ++ [oB 5 [.ref (b + 1), .int 0, .int 0], aQ "ParallelRewriting$Word" 8 (va_up (va_up (va_up (va_up (va_up (va_up (va_up (va_up (fun _ => none) 0 (some (b + 2))) 1 (some (b + 4))) 2 (some (b + 6))) 3 (some (b + 8))) 4 (some (b + 10))) 5 (some (b + 12))) 6 (some (b + 14))) 7 (some (b + 16))), oB 12 [.ref (b + 3), .int 0], aI 60 (fun _ => 0), oB 12 [.ref (b + 5), .int 0], aI 60 (fun _ => 0), oB 12 [.ref (b + 7), .int 0], aI 60 (fun _ => 0), oB 12 [.ref (b + 9), .int 0], aI 60 (fun _ => 0), oB 12 [.ref (b + 11), .int 0], aI 60 (fun _ => 0), oB 12 [.ref (b + 13), .int 0], aI 60 (fun _ => 0), oB 12 [.ref (b + 15), .int 0], aI 60 (fun _ => 0), oB 12 [.ref (b + 17), .int 0], aI 60 (fun _ => 0)]), a + 17, s + 504)) := by
  have h := ct0_Hi_init (scr := scr) (l := l) (d := d) (P := P ++ Q) (a := a) (s := s) (hb.trans List.length_append.symm) (by rw [List.length_append]; exact hl)
  rw [List.append_assoc, List.append_assoc] at h
  exact h
theorem ct0_Sq_init {scr : Scr} {l : Launch} {d : Nat} {P : List ACell} {b a s : Nat} (hb : b = P.length) (hl : P.length < 966) : MetA scr l (d + 2) M_Sq_init [.ref b] (P ++ [oB 7 [.null, .int 0, .int 0]], a, s) (.inl none, (P ++ [oB 7 [.ref (b + 1), .int 0, .int 0], aQ "ParallelRewriting$Word" 6 (va_up (va_up (va_up (va_up (va_up (va_up (fun _ => none) 0 (some (b + 2))) 1 (some (b + 4))) 2 (some (b + 6))) 3 (some (b + 8))) 4 (some (b + 10))) 5 (some (b + 12))), oB 12 [.ref (b + 3), .int 0], aI 60 (fun _ => 0), oB 12 [.ref (b + 5), .int 0], aI 60 (fun _ => 0), oB 12 [.ref (b + 7), .int 0], aI 60 (fun _ => 0), oB 12 [.ref (b + 9), .int 0], aI 60 (fun _ => 0), oB 12 [.ref (b + 11), .int 0], aI 60 (fun _ => 0), oB 12 [.ref (b + 13), .int 0], aI 60 (fun _ => 0)], a + 13, s + 378)) := by
  subst hb
  refine MetA.of rfl (by decide +kernel) (Nat.le_of_ble_eq_true rfl) ?_
  show Ev scr l _ M_Sq_init 0 [some (.ref (P.length + 0)), none] [] (P ++ [oB 7 [.null, .int 0, .int 0]], a + 0, s + 0) _
  refine ev_aload_n i_Sq_init_0 rfl ?_
  refine ev_objI i_Sq_init_1 rfl (Nat.le_of_ble_eq_true rfl) ?_
  refine ev_aload_n i_Sq_init_4 rfl ?_
  refine ev_bipushN (v := 6) i_Sq_init_5 (by decide) ?_
  refine ev_newQP (P := P) i_Sq_init_7 (by decide) (by have := hl; show P.length + _ < 1000; simp only [List.length_cons, List.length_nil]; omega) ?_
  show Ev scr l _ M_Sq_init 10 [some (.ref (P.length + 0)), none] [.ref (P.length + 1), .ref (P.length + 0)] (P ++ [oB 7 [.null, .int 0, .int 0], aQ "ParallelRewriting$Word" 6 (fun _ => none)], a + 1, s + 6) _
  refine ev_putF i_Sq_init_10 (getP P _ 0) (Nat.le_of_ble_eq_true rfl) rfl rfl ?_
  rw [putP]
  show Ev scr l _ M_Sq_init 13 [some (.ref (P.length + 0)), none] [] (P ++ [oB 7 [.ref (P.length + 1), .int 0, .int 0], aQ "ParallelRewriting$Word" 6 (fun _ => none)], a + 1, s + 6) _
  refine ev_iconstN (v := 0) i_Sq_init_13 (by decide) ?_
  refine ev_ist_n_1 i_Sq_init_14 rfl ?_
  refine ev_iload_n i_Sq_init_15 rfl ?_
  refine ev_iconstN (v := 5) i_Sq_init_16 (by decide) ?_
  refine ev_icmp_gtN i_Sq_init_17 (by decide) (by decide) (fun hc => absurd hc (by decide)) (fun _ => ?_)
  show Ev scr l _ M_Sq_init 20 [some (.ref (P.length + 0)), some (.int (nI 0))] [] (P ++ [oB 7 [.ref (P.length + 1), .int 0, .int 0], aQ "ParallelRewriting$Word" 6 (fun _ => none)], a + 1, s + 6) _
  refine ev_aload_n i_Sq_init_20 rfl ?_
  refine ev_get i_Sq_init_21 (getP P _ 0) rfl ?_
  refine ev_iload_n i_Sq_init_24 rfl ?_
  refine ev_newP (P := P) i_Sq_init_25 rfl (by have := hl; show P.length + _ < 1000; simp only [List.length_cons, List.length_nil]; omega) ?_
  show Ev scr l _ M_Sq_init 28 [some (.ref (P.length + 0)), some (.int (nI 0))] [.ref (P.length + 2), .int (nI 0), .ref (P.length + 1)] (P ++ [oB 7 [.ref (P.length + 1), .int 0, .int 0], aQ "ParallelRewriting$Word" 6 (fun _ => none), oB 12 [.null, .int 0]], a + 2, s + 8) _
  refine ev_dup i_Sq_init_28 rfl ?_
  refine ev_callI0 i_Sq_init_29 rfl (Nat.le_of_ble_eq_true rfl) (ct_Wd_init (P := P) (Q := [oB 7 [.ref (P.length + 1), .int 0, .int 0], aQ "ParallelRewriting$Word" 6 (fun _ => none)]) (b := P.length + 2) rfl (by have := hl; simp only [List.length_cons, List.length_nil]; omega)) ?_
  show Ev scr l _ M_Sq_init 32 [some (.ref (P.length + 0)), some (.int (nI 0))] [.ref (P.length + 2), .int (nI 0), .ref (P.length + 1)] (P ++ [oB 7 [.ref (P.length + 1), .int 0, .int 0], aQ "ParallelRewriting$Word" 6 (fun _ => none), oB 12 [.ref (P.length + 3), .int 0], aI 60 (fun _ => 0)], a + 3, s + 68) _
  refine ev_qastN i_Sq_init_32 (getP P _ 1) (getP P _ 2) rfl (by decide) (by decide) ?_
  rw [putP]
  show Ev scr l _ M_Sq_init 33 [some (.ref (P.length + 0)), some (.int (nI 0))] [] (P ++ [oB 7 [.ref (P.length + 1), .int 0, .int 0], aQ "ParallelRewriting$Word" 6 (va_up (fun _ => none) 0 (some (P.length + 2))), oB 12 [.ref (P.length + 3), .int 0], aI 60 (fun _ => 0)], a + 3, s + 68) _
  refine ev_iincN_1 (c := 1) i_Sq_init_33 (by decide) rfl ?_
  refine ev_goto i_Sq_init_36 ?_
  show Ev scr l _ M_Sq_init 15 [some (.ref (P.length + 0)), some (.int (nI 1))] [] (P ++ [oB 7 [.ref (P.length + 1), .int 0, .int 0], aQ "ParallelRewriting$Word" 6 (va_up (fun _ => none) 0 (some (P.length + 2))), oB 12 [.ref (P.length + 3), .int 0], aI 60 (fun _ => 0)], a + 3, s + 68) _
  refine ev_iload_n i_Sq_init_15 rfl ?_
  refine ev_iconstN (v := 5) i_Sq_init_16 (by decide) ?_
  refine ev_icmp_gtN i_Sq_init_17 (by decide) (by decide) (fun hc => absurd hc (by decide)) (fun _ => ?_)
  show Ev scr l _ M_Sq_init 20 [some (.ref (P.length + 0)), some (.int (nI 1))] [] (P ++ [oB 7 [.ref (P.length + 1), .int 0, .int 0], aQ "ParallelRewriting$Word" 6 (va_up (fun _ => none) 0 (some (P.length + 2))), oB 12 [.ref (P.length + 3), .int 0], aI 60 (fun _ => 0)], a + 3, s + 68) _
  refine ev_aload_n i_Sq_init_20 rfl ?_
  refine ev_get i_Sq_init_21 (getP P _ 0) rfl ?_
  refine ev_iload_n i_Sq_init_24 rfl ?_
  refine ev_newP (P := P) i_Sq_init_25 rfl (by have := hl; show P.length + _ < 1000; simp only [List.length_cons, List.length_nil]; omega) ?_
  show Ev scr l _ M_Sq_init 28 [some (.ref (P.length + 0)), some (.int (nI 1))] [.ref (P.length + 4), .int (nI 1), .ref (P.length + 1)] (P ++ [oB 7 [.ref (P.length + 1), .int 0, .int 0], aQ "ParallelRewriting$Word" 6 (va_up (fun _ => none) 0 (some (P.length + 2))), oB 12 [.ref (P.length + 3), .int 0], aI 60 (fun _ => 0), oB 12 [.null, .int 0]], a + 4, s + 70) _
  refine ev_dup i_Sq_init_28 rfl ?_
  refine ev_callI0 i_Sq_init_29 rfl (Nat.le_of_ble_eq_true rfl) (ct_Wd_init (P := P) (Q := [oB 7 [.ref (P.length + 1), .int 0, .int 0], aQ "ParallelRewriting$Word" 6 (va_up (fun _ => none) 0 (some (P.length + 2))), oB 12 [.ref (P.length + 3), .int 0], aI 60 (fun _ => 0)]) (b := P.length + 4) rfl (by have := hl; simp only [List.length_cons, List.length_nil]; omega)) ?_
  show Ev scr l _ M_Sq_init 32 [some (.ref (P.length + 0)), some (.int (nI 1))] [.ref (P.length + 4), .int (nI 1), .ref (P.length + 1)] (P ++ [oB 7 [.ref (P.length + 1), .int 0, .int 0], aQ "ParallelRewriting$Word" 6 (va_up (fun _ => none) 0 (some (P.length + 2))), oB 12 [.ref (P.length + 3), .int 0], aI 60 (fun _ => 0), oB 12 [.ref (P.length + 5), .int 0], aI 60 (fun _ => 0)], a + 5, s + 130) _
  refine ev_qastN i_Sq_init_32 (getP P _ 1) (getP P _ 4) rfl (by decide) (by decide) ?_
  rw [putP]
  show Ev scr l _ M_Sq_init 33 [some (.ref (P.length + 0)), some (.int (nI 1))] [] (P ++ [oB 7 [.ref (P.length + 1), .int 0, .int 0], aQ "ParallelRewriting$Word" 6 (va_up (va_up (fun _ => none) 0 (some (P.length + 2))) 1 (some (P.length + 4))), oB 12 [.ref (P.length + 3), .int 0], aI 60 (fun _ => 0), oB 12 [.ref (P.length + 5), .int 0], aI 60 (fun _ => 0)], a + 5, s + 130) _
  refine ev_iincN_1 (c := 1) i_Sq_init_33 (by decide) rfl ?_
  refine ev_goto i_Sq_init_36 ?_
  show Ev scr l _ M_Sq_init 15 [some (.ref (P.length + 0)), some (.int (nI 2))] [] (P ++ [oB 7 [.ref (P.length + 1), .int 0, .int 0], aQ "ParallelRewriting$Word" 6 (va_up (va_up (fun _ => none) 0 (some (P.length + 2))) 1 (some (P.length + 4))), oB 12 [.ref (P.length + 3), .int 0], aI 60 (fun _ => 0), oB 12 [.ref (P.length + 5), .int 0], aI 60 (fun _ => 0)], a + 5, s + 130) _
  refine ev_iload_n i_Sq_init_15 rfl ?_
  refine ev_iconstN (v := 5) i_Sq_init_16 (by decide) ?_
  refine ev_icmp_gtN i_Sq_init_17 (by decide) (by decide) (fun hc => absurd hc (by decide)) (fun _ => ?_)
  show Ev scr l _ M_Sq_init 20 [some (.ref (P.length + 0)), some (.int (nI 2))] [] (P ++ [oB 7 [.ref (P.length + 1), .int 0, .int 0], aQ "ParallelRewriting$Word" 6 (va_up (va_up (fun _ => none) 0 (some (P.length + 2))) 1 (some (P.length + 4))), oB 12 [.ref (P.length + 3), .int 0], aI 60 (fun _ => 0), oB 12 [.ref (P.length + 5), .int 0], aI 60 (fun _ => 0)], a + 5, s + 130) _
  refine ev_aload_n i_Sq_init_20 rfl ?_
  refine ev_get i_Sq_init_21 (getP P _ 0) rfl ?_
  refine ev_iload_n i_Sq_init_24 rfl ?_
  refine ev_newP (P := P) i_Sq_init_25 rfl (by have := hl; show P.length + _ < 1000; simp only [List.length_cons, List.length_nil]; omega) ?_
  show Ev scr l _ M_Sq_init 28 [some (.ref (P.length + 0)), some (.int (nI 2))] [.ref (P.length + 6), .int (nI 2), .ref (P.length + 1)] (P ++ [oB 7 [.ref (P.length + 1), .int 0, .int 0], aQ "ParallelRewriting$Word" 6 (va_up (va_up (fun _ => none) 0 (some (P.length + 2))) 1 (some (P.length + 4))), oB 12 [.ref (P.length + 3), .int 0], aI 60 (fun _ => 0), oB 12 [.ref (P.length + 5), .int 0], aI 60 (fun _ => 0), oB 12 [.null, .int 0]], a + 6, s + 132) _
  refine ev_dup i_Sq_init_28 rfl ?_
  refine ev_callI0 i_Sq_init_29 rfl (Nat.le_of_ble_eq_true rfl) (ct_Wd_init (P := P) (Q := [oB 7 [.ref (P.length + 1), .int 0, .int 0], aQ "ParallelRewriting$Word" 6 (va_up (va_up (fun _ => none) 0 (some (P.length + 2))) 1 (some (P.length + 4))), oB 12 [.ref (P.length + 3), .int 0], aI 60 (fun _ => 0), oB 12 [.ref (P.length + 5), .int 0], aI 60 (fun _ => 0)]) (b := P.length + 6) rfl (by have := hl; simp only [List.length_cons, List.length_nil]; omega)) ?_
  show Ev scr l _ M_Sq_init 32 [some (.ref (P.length + 0)), some (.int (nI 2))] [.ref (P.length + 6), .int (nI 2), .ref (P.length + 1)] (P ++ [oB 7 [.ref (P.length + 1), .int 0, .int 0], aQ "ParallelRewriting$Word" 6 (va_up (va_up (fun _ => none) 0 (some (P.length + 2))) 1 (some (P.length + 4))), oB 12 [.ref (P.length + 3), .int 0], aI 60 (fun _ => 0), oB 12 [.ref (P.length + 5), .int 0], aI 60 (fun _ => 0), oB 12 [.ref (P.length + 7), .int 0], aI 60 (fun _ => 0)], a + 7, s + 192) _
  refine ev_qastN i_Sq_init_32 (getP P _ 1) (getP P _ 6) rfl (by decide) (by decide) ?_
  rw [putP]
  show Ev scr l _ M_Sq_init 33 [some (.ref (P.length + 0)), some (.int (nI 2))] [] (P ++ [oB 7 [.ref (P.length + 1), .int 0, .int 0], aQ "ParallelRewriting$Word" 6 (va_up (va_up (va_up (fun _ => none) 0 (some (P.length + 2))) 1 (some (P.length + 4))) 2 (some (P.length + 6))), oB 12 [.ref (P.length + 3), .int 0], aI 60 (fun _ => 0), oB 12 [.ref (P.length + 5), .int 0], aI 60 (fun _ => 0), oB 12 [.ref (P.length + 7), .int 0], aI 60 (fun _ => 0)], a + 7, s + 192) _
  refine ev_iincN_1 (c := 1) i_Sq_init_33 (by decide) rfl ?_
  refine ev_goto i_Sq_init_36 ?_
  show Ev scr l _ M_Sq_init 15 [some (.ref (P.length + 0)), some (.int (nI 3))] [] (P ++ [oB 7 [.ref (P.length + 1), .int 0, .int 0], aQ "ParallelRewriting$Word" 6 (va_up (va_up (va_up (fun _ => none) 0 (some (P.length + 2))) 1 (some (P.length + 4))) 2 (some (P.length + 6))), oB 12 [.ref (P.length + 3), .int 0], aI 60 (fun _ => 0), oB 12 [.ref (P.length + 5), .int 0], aI 60 (fun _ => 0), oB 12 [.ref (P.length + 7), .int 0], aI 60 (fun _ => 0)], a + 7, s + 192) _
  refine ev_iload_n i_Sq_init_15 rfl ?_
  refine ev_iconstN (v := 5) i_Sq_init_16 (by decide) ?_
  refine ev_icmp_gtN i_Sq_init_17 (by decide) (by decide) (fun hc => absurd hc (by decide)) (fun _ => ?_)
  show Ev scr l _ M_Sq_init 20 [some (.ref (P.length + 0)), some (.int (nI 3))] [] (P ++ [oB 7 [.ref (P.length + 1), .int 0, .int 0], aQ "ParallelRewriting$Word" 6 (va_up (va_up (va_up (fun _ => none) 0 (some (P.length + 2))) 1 (some (P.length + 4))) 2 (some (P.length + 6))), oB 12 [.ref (P.length + 3), .int 0], aI 60 (fun _ => 0), oB 12 [.ref (P.length + 5), .int 0], aI 60 (fun _ => 0), oB 12 [.ref (P.length + 7), .int 0], aI 60 (fun _ => 0)], a + 7, s + 192) _
  refine ev_aload_n i_Sq_init_20 rfl ?_
  refine ev_get i_Sq_init_21 (getP P _ 0) rfl ?_
  refine ev_iload_n i_Sq_init_24 rfl ?_
  refine ev_newP (P := P) i_Sq_init_25 rfl (by have := hl; show P.length + _ < 1000; simp only [List.length_cons, List.length_nil]; omega) ?_
  show Ev scr l _ M_Sq_init 28 [some (.ref (P.length + 0)), some (.int (nI 3))] [.ref (P.length + 8), .int (nI 3), .ref (P.length + 1)] (P ++ [oB 7 [.ref (P.length + 1), .int 0, .int 0], aQ "ParallelRewriting$Word" 6 (va_up (va_up (va_up (fun _ => none) 0 (some (P.length + 2))) 1 (some (P.length + 4))) 2 (some (P.length + 6))), oB 12 [.ref (P.length + 3), .int 0], aI 60 (fun _ => 0), oB 12 [.ref (P.length + 5), .int 0], aI 60 (fun _ => 0), oB 12 [.ref (P.length + 7), .int 0], aI 60 (fun _ => 0), oB 12 [.null, .int 0]], a + 8, s + 194) _
  refine ev_dup i_Sq_init_28 rfl ?_
  refine ev_callI0 i_Sq_init_29 rfl (Nat.le_of_ble_eq_true rfl) (ct_Wd_init (P := P) (Q := [oB 7 [.ref (P.length + 1), .int 0, .int 0], aQ "ParallelRewriting$Word" 6 (va_up (va_up (va_up (fun _ => none) 0 (some (P.length + 2))) 1 (some (P.length + 4))) 2 (some (P.length + 6))), oB 12 [.ref (P.length + 3), .int 0], aI 60 (fun _ => 0), oB 12 [.ref (P.length + 5), .int 0], aI 60 (fun _ => 0), oB 12 [.ref (P.length + 7), .int 0], aI 60 (fun _ => 0)]) (b := P.length + 8) rfl (by have := hl; simp only [List.length_cons, List.length_nil]; omega)) ?_
  show Ev scr l _ M_Sq_init 32 [some (.ref (P.length + 0)), some (.int (nI 3))] [.ref (P.length + 8), .int (nI 3), .ref (P.length + 1)] (P ++ [oB 7 [.ref (P.length + 1), .int 0, .int 0], aQ "ParallelRewriting$Word" 6 (va_up (va_up (va_up (fun _ => none) 0 (some (P.length + 2))) 1 (some (P.length + 4))) 2 (some (P.length + 6))), oB 12 [.ref (P.length + 3), .int 0], aI 60 (fun _ => 0), oB 12 [.ref (P.length + 5), .int 0], aI 60 (fun _ => 0), oB 12 [.ref (P.length + 7), .int 0], aI 60 (fun _ => 0), oB 12 [.ref (P.length + 9), .int 0], aI 60 (fun _ => 0)], a + 9, s + 254) _
  refine ev_qastN i_Sq_init_32 (getP P _ 1) (getP P _ 8) rfl (by decide) (by decide) ?_
  rw [putP]
  show Ev scr l _ M_Sq_init 33 [some (.ref (P.length + 0)), some (.int (nI 3))] [] (P ++ [oB 7 [.ref (P.length + 1), .int 0, .int 0], aQ "ParallelRewriting$Word" 6 (va_up (va_up (va_up (va_up (fun _ => none) 0 (some (P.length + 2))) 1 (some (P.length + 4))) 2 (some (P.length + 6))) 3 (some (P.length + 8))), oB 12 [.ref (P.length + 3), .int 0], aI 60 (fun _ => 0), oB 12 [.ref (P.length + 5), .int 0], aI 60 (fun _ => 0), oB 12 [.ref (P.length + 7), .int 0], aI 60 (fun _ => 0), oB 12 [.ref (P.length + 9), .int 0], aI 60 (fun _ => 0)], a + 9, s + 254) _
  refine ev_iincN_1 (c := 1) i_Sq_init_33 (by decide) rfl ?_
  refine ev_goto i_Sq_init_36 ?_
  show Ev scr l _ M_Sq_init 15 [some (.ref (P.length + 0)), some (.int (nI 4))] [] (P ++ [oB 7 [.ref (P.length + 1), .int 0, .int 0], aQ "ParallelRewriting$Word" 6 (va_up (va_up (va_up (va_up (fun _ => none) 0 (some (P.length + 2))) 1 (some (P.length + 4))) 2 (some (P.length + 6))) 3 (some (P.length + 8))), oB 12 [.ref (P.length + 3), .int 0], aI 60 (fun _ => 0), oB 12 [.ref (P.length + 5), .int 0], aI 60 (fun _ => 0), oB 12 [.ref (P.length + 7), .int 0], aI 60 (fun _ => 0), oB 12 [.ref (P.length + 9), .int 0], aI 60 (fun _ => 0)], a + 9, s + 254) _
  refine ev_iload_n i_Sq_init_15 rfl ?_
  refine ev_iconstN (v := 5) i_Sq_init_16 (by decide) ?_
  refine ev_icmp_gtN i_Sq_init_17 (by decide) (by decide) (fun hc => absurd hc (by decide)) (fun _ => ?_)
  show Ev scr l _ M_Sq_init 20 [some (.ref (P.length + 0)), some (.int (nI 4))] [] (P ++ [oB 7 [.ref (P.length + 1), .int 0, .int 0], aQ "ParallelRewriting$Word" 6 (va_up (va_up (va_up (va_up (fun _ => none) 0 (some (P.length + 2))) 1 (some (P.length + 4))) 2 (some (P.length + 6))) 3 (some (P.length + 8))), oB 12 [.ref (P.length + 3), .int 0], aI 60 (fun _ => 0), oB 12 [.ref (P.length + 5), .int 0], aI 60 (fun _ => 0), oB 12 [.ref (P.length + 7), .int 0], aI 60 (fun _ => 0), oB 12 [.ref (P.length + 9), .int 0], aI 60 (fun _ => 0)], a + 9, s + 254) _
  refine ev_aload_n i_Sq_init_20 rfl ?_
  refine ev_get i_Sq_init_21 (getP P _ 0) rfl ?_
  refine ev_iload_n i_Sq_init_24 rfl ?_
  refine ev_newP (P := P) i_Sq_init_25 rfl (by have := hl; show P.length + _ < 1000; simp only [List.length_cons, List.length_nil]; omega) ?_
  show Ev scr l _ M_Sq_init 28 [some (.ref (P.length + 0)), some (.int (nI 4))] [.ref (P.length + 10), .int (nI 4), .ref (P.length + 1)] (P ++ [oB 7 [.ref (P.length + 1), .int 0, .int 0], aQ "ParallelRewriting$Word" 6 (va_up (va_up (va_up (va_up (fun _ => none) 0 (some (P.length + 2))) 1 (some (P.length + 4))) 2 (some (P.length + 6))) 3 (some (P.length + 8))), oB 12 [.ref (P.length + 3), .int 0], aI 60 (fun _ => 0), oB 12 [.ref (P.length + 5), .int 0], aI 60 (fun _ => 0), oB 12 [.ref (P.length + 7), .int 0], aI 60 (fun _ => 0), oB 12 [.ref (P.length + 9), .int 0], aI 60 (fun _ => 0), oB 12 [.null, .int 0]], a + 10, s + 256) _
  refine ev_dup i_Sq_init_28 rfl ?_
  refine ev_callI0 i_Sq_init_29 rfl (Nat.le_of_ble_eq_true rfl) (ct_Wd_init (P := P) (Q := [oB 7 [.ref (P.length + 1), .int 0, .int 0], aQ "ParallelRewriting$Word" 6 (va_up (va_up (va_up (va_up (fun _ => none) 0 (some (P.length + 2))) 1 (some (P.length + 4))) 2 (some (P.length + 6))) 3 (some (P.length + 8))), oB 12 [.ref (P.length + 3), .int 0], aI 60 (fun _ => 0), oB 12 [.ref (P.length + 5), .int 0], aI 60 (fun _ => 0), oB 12 [.ref (P.length + 7), .int 0], aI 60 (fun _ => 0), oB 12 [.ref (P.length + 9), .int 0], aI 60 (fun _ => 0)]) (b := P.length + 10) rfl (by have := hl; simp only [List.length_cons, List.length_nil]; omega)) ?_
  show Ev scr l _ M_Sq_init 32 [some (.ref (P.length + 0)), some (.int (nI 4))] [.ref (P.length + 10), .int (nI 4), .ref (P.length + 1)] (P ++ [oB 7 [.ref (P.length + 1), .int 0, .int 0], aQ "ParallelRewriting$Word" 6 (va_up (va_up (va_up (va_up (fun _ => none) 0 (some (P.length + 2))) 1 (some (P.length + 4))) 2 (some (P.length + 6))) 3 (some (P.length + 8))), oB 12 [.ref (P.length + 3), .int 0], aI 60 (fun _ => 0), oB 12 [.ref (P.length + 5), .int 0], aI 60 (fun _ => 0), oB 12 [.ref (P.length + 7), .int 0], aI 60 (fun _ => 0), oB 12 [.ref (P.length + 9), .int 0], aI 60 (fun _ => 0), oB 12 [.ref (P.length + 11), .int 0], aI 60 (fun _ => 0)], a + 11, s + 316) _
  refine ev_qastN i_Sq_init_32 (getP P _ 1) (getP P _ 10) rfl (by decide) (by decide) ?_
  rw [putP]
  show Ev scr l _ M_Sq_init 33 [some (.ref (P.length + 0)), some (.int (nI 4))] [] (P ++ [oB 7 [.ref (P.length + 1), .int 0, .int 0], aQ "ParallelRewriting$Word" 6 (va_up (va_up (va_up (va_up (va_up (fun _ => none) 0 (some (P.length + 2))) 1 (some (P.length + 4))) 2 (some (P.length + 6))) 3 (some (P.length + 8))) 4 (some (P.length + 10))), oB 12 [.ref (P.length + 3), .int 0], aI 60 (fun _ => 0), oB 12 [.ref (P.length + 5), .int 0], aI 60 (fun _ => 0), oB 12 [.ref (P.length + 7), .int 0], aI 60 (fun _ => 0), oB 12 [.ref (P.length + 9), .int 0], aI 60 (fun _ => 0), oB 12 [.ref (P.length + 11), .int 0], aI 60 (fun _ => 0)], a + 11, s + 316) _
  refine ev_iincN_1 (c := 1) i_Sq_init_33 (by decide) rfl ?_
  refine ev_goto i_Sq_init_36 ?_
  show Ev scr l _ M_Sq_init 15 [some (.ref (P.length + 0)), some (.int (nI 5))] [] (P ++ [oB 7 [.ref (P.length + 1), .int 0, .int 0], aQ "ParallelRewriting$Word" 6 (va_up (va_up (va_up (va_up (va_up (fun _ => none) 0 (some (P.length + 2))) 1 (some (P.length + 4))) 2 (some (P.length + 6))) 3 (some (P.length + 8))) 4 (some (P.length + 10))), oB 12 [.ref (P.length + 3), .int 0], aI 60 (fun _ => 0), oB 12 [.ref (P.length + 5), .int 0], aI 60 (fun _ => 0), oB 12 [.ref (P.length + 7), .int 0], aI 60 (fun _ => 0), oB 12 [.ref (P.length + 9), .int 0], aI 60 (fun _ => 0), oB 12 [.ref (P.length + 11), .int 0], aI 60 (fun _ => 0)], a + 11, s + 316) _
  refine ev_iload_n i_Sq_init_15 rfl ?_
  refine ev_iconstN (v := 5) i_Sq_init_16 (by decide) ?_
  refine ev_icmp_gtN i_Sq_init_17 (by decide) (by decide) (fun hc => absurd hc (by decide)) (fun _ => ?_)
  show Ev scr l _ M_Sq_init 20 [some (.ref (P.length + 0)), some (.int (nI 5))] [] (P ++ [oB 7 [.ref (P.length + 1), .int 0, .int 0], aQ "ParallelRewriting$Word" 6 (va_up (va_up (va_up (va_up (va_up (fun _ => none) 0 (some (P.length + 2))) 1 (some (P.length + 4))) 2 (some (P.length + 6))) 3 (some (P.length + 8))) 4 (some (P.length + 10))), oB 12 [.ref (P.length + 3), .int 0], aI 60 (fun _ => 0), oB 12 [.ref (P.length + 5), .int 0], aI 60 (fun _ => 0), oB 12 [.ref (P.length + 7), .int 0], aI 60 (fun _ => 0), oB 12 [.ref (P.length + 9), .int 0], aI 60 (fun _ => 0), oB 12 [.ref (P.length + 11), .int 0], aI 60 (fun _ => 0)], a + 11, s + 316) _
  refine ev_aload_n i_Sq_init_20 rfl ?_
  refine ev_get i_Sq_init_21 (getP P _ 0) rfl ?_
  refine ev_iload_n i_Sq_init_24 rfl ?_
  refine ev_newP (P := P) i_Sq_init_25 rfl (by have := hl; show P.length + _ < 1000; simp only [List.length_cons, List.length_nil]; omega) ?_
  show Ev scr l _ M_Sq_init 28 [some (.ref (P.length + 0)), some (.int (nI 5))] [.ref (P.length + 12), .int (nI 5), .ref (P.length + 1)] (P ++ [oB 7 [.ref (P.length + 1), .int 0, .int 0], aQ "ParallelRewriting$Word" 6 (va_up (va_up (va_up (va_up (va_up (fun _ => none) 0 (some (P.length + 2))) 1 (some (P.length + 4))) 2 (some (P.length + 6))) 3 (some (P.length + 8))) 4 (some (P.length + 10))), oB 12 [.ref (P.length + 3), .int 0], aI 60 (fun _ => 0), oB 12 [.ref (P.length + 5), .int 0], aI 60 (fun _ => 0), oB 12 [.ref (P.length + 7), .int 0], aI 60 (fun _ => 0), oB 12 [.ref (P.length + 9), .int 0], aI 60 (fun _ => 0), oB 12 [.ref (P.length + 11), .int 0], aI 60 (fun _ => 0), oB 12 [.null, .int 0]], a + 12, s + 318) _
  refine ev_dup i_Sq_init_28 rfl ?_
  refine ev_callI0 i_Sq_init_29 rfl (Nat.le_of_ble_eq_true rfl) (ct_Wd_init (P := P) (Q := [oB 7 [.ref (P.length + 1), .int 0, .int 0], aQ "ParallelRewriting$Word" 6 (va_up (va_up (va_up (va_up (va_up (fun _ => none) 0 (some (P.length + 2))) 1 (some (P.length + 4))) 2 (some (P.length + 6))) 3 (some (P.length + 8))) 4 (some (P.length + 10))), oB 12 [.ref (P.length + 3), .int 0], aI 60 (fun _ => 0), oB 12 [.ref (P.length + 5), .int 0], aI 60 (fun _ => 0), oB 12 [.ref (P.length + 7), .int 0], aI 60 (fun _ => 0), oB 12 [.ref (P.length + 9), .int 0], aI 60 (fun _ => 0), oB 12 [.ref (P.length + 11), .int 0], aI 60 (fun _ => 0)]) (b := P.length + 12) rfl (by have := hl; simp only [List.length_cons, List.length_nil]; omega)) ?_
  show Ev scr l _ M_Sq_init 32 [some (.ref (P.length + 0)), some (.int (nI 5))] [.ref (P.length + 12), .int (nI 5), .ref (P.length + 1)] (P ++ [oB 7 [.ref (P.length + 1), .int 0, .int 0], aQ "ParallelRewriting$Word" 6 (va_up (va_up (va_up (va_up (va_up (fun _ => none) 0 (some (P.length + 2))) 1 (some (P.length + 4))) 2 (some (P.length + 6))) 3 (some (P.length + 8))) 4 (some (P.length + 10))), oB 12 [.ref (P.length + 3), .int 0], aI 60 (fun _ => 0), oB 12 [.ref (P.length + 5), .int 0], aI 60 (fun _ => 0), oB 12 [.ref (P.length + 7), .int 0], aI 60 (fun _ => 0), oB 12 [.ref (P.length + 9), .int 0], aI 60 (fun _ => 0), oB 12 [.ref (P.length + 11), .int 0], aI 60 (fun _ => 0), oB 12 [.ref (P.length + 13), .int 0], aI 60 (fun _ => 0)], a + 13, s + 378) _
  refine ev_qastN i_Sq_init_32 (getP P _ 1) (getP P _ 12) rfl (by decide) (by decide) ?_
  rw [putP]
  show Ev scr l _ M_Sq_init 33 [some (.ref (P.length + 0)), some (.int (nI 5))] [] (P ++ [oB 7 [.ref (P.length + 1), .int 0, .int 0], aQ "ParallelRewriting$Word" 6 (va_up (va_up (va_up (va_up (va_up (va_up (fun _ => none) 0 (some (P.length + 2))) 1 (some (P.length + 4))) 2 (some (P.length + 6))) 3 (some (P.length + 8))) 4 (some (P.length + 10))) 5 (some (P.length + 12))), oB 12 [.ref (P.length + 3), .int 0], aI 60 (fun _ => 0), oB 12 [.ref (P.length + 5), .int 0], aI 60 (fun _ => 0), oB 12 [.ref (P.length + 7), .int 0], aI 60 (fun _ => 0), oB 12 [.ref (P.length + 9), .int 0], aI 60 (fun _ => 0), oB 12 [.ref (P.length + 11), .int 0], aI 60 (fun _ => 0), oB 12 [.ref (P.length + 13), .int 0], aI 60 (fun _ => 0)], a + 13, s + 378) _
  refine ev_iincN_1 (c := 1) i_Sq_init_33 (by decide) rfl ?_
  refine ev_goto i_Sq_init_36 ?_
  show Ev scr l _ M_Sq_init 15 [some (.ref (P.length + 0)), some (.int (nI 6))] [] (P ++ [oB 7 [.ref (P.length + 1), .int 0, .int 0], aQ "ParallelRewriting$Word" 6 (va_up (va_up (va_up (va_up (va_up (va_up (fun _ => none) 0 (some (P.length + 2))) 1 (some (P.length + 4))) 2 (some (P.length + 6))) 3 (some (P.length + 8))) 4 (some (P.length + 10))) 5 (some (P.length + 12))), oB 12 [.ref (P.length + 3), .int 0], aI 60 (fun _ => 0), oB 12 [.ref (P.length + 5), .int 0], aI 60 (fun _ => 0), oB 12 [.ref (P.length + 7), .int 0], aI 60 (fun _ => 0), oB 12 [.ref (P.length + 9), .int 0], aI 60 (fun _ => 0), oB 12 [.ref (P.length + 11), .int 0], aI 60 (fun _ => 0), oB 12 [.ref (P.length + 13), .int 0], aI 60 (fun _ => 0)], a + 13, s + 378) _
  refine ev_iload_n i_Sq_init_15 rfl ?_
  refine ev_iconstN (v := 5) i_Sq_init_16 (by decide) ?_
  refine ev_icmp_gtN i_Sq_init_17 (by decide) (by decide) (fun _ => ?_) (fun hc => absurd hc (by decide))
  show Ev scr l _ M_Sq_init 39 [some (.ref (P.length + 0)), some (.int (nI 6))] [] (P ++ [oB 7 [.ref (P.length + 1), .int 0, .int 0], aQ "ParallelRewriting$Word" 6 (va_up (va_up (va_up (va_up (va_up (va_up (fun _ => none) 0 (some (P.length + 2))) 1 (some (P.length + 4))) 2 (some (P.length + 6))) 3 (some (P.length + 8))) 4 (some (P.length + 10))) 5 (some (P.length + 12))), oB 12 [.ref (P.length + 3), .int 0], aI 60 (fun _ => 0), oB 12 [.ref (P.length + 5), .int 0], aI 60 (fun _ => 0), oB 12 [.ref (P.length + 7), .int 0], aI 60 (fun _ => 0), oB 12 [.ref (P.length + 9), .int 0], aI 60 (fun _ => 0), oB 12 [.ref (P.length + 11), .int 0], aI 60 (fun _ => 0), oB 12 [.ref (P.length + 13), .int 0], aI 60 (fun _ => 0)], a + 13, s + 378) _
  exact ev_vret i_Sq_init_39 rfl
theorem ct_Sq_init {scr : Scr} {l : Launch} {d : Nat} {P Q : List ACell} {b a s : Nat} (hb : b = P.length + Q.length) (hl : P.length + Q.length < 966) : MetA scr l (d + 2) M_Sq_init [.ref b] (P ++ (Q ++ [oB 7 [.null, .int 0, .int 0]]), a, s) (.inl none, (P ++ (Q ++ [oB 7 [.ref (b + 1), .int 0, .int 0], aQ "ParallelRewriting$Word" 6 (va_up (va_up (va_up (va_up (va_up (va_up (fun _ => none) 0 (some (b + 2))) 1 (some (b + 4))) 2 (some (b + 6))) 3 (some (b + 8))) 4 (some (b + 10))) 5 (some (b + 12))), oB 12 [.ref (b + 3), .int 0], aI 60 (fun _ => 0), oB 12 [.ref (b + 5), .int 0], aI 60 (fun _ => 0), oB 12 [.ref (b + 7), .int 0], aI 60 (fun _ => 0), oB 12 [.ref (b + 9), .int 0], aI 60 (fun _ => 0), oB 12 [.ref (b + 11), .int 0], aI 60 (fun _ => 0), oB 12 [.ref (b + 13), .int 0], aI 60 (fun _ => 0)]), a + 13, s + 378)) := by
  have h := ct0_Sq_init (scr := scr) (l := l) (d := d) (P := P ++ Q) (a := a) (s := s) (hb.trans List.length_append.symm) (by rw [List.length_append]; exact hl)
  rw [List.append_assoc, List.append_assoc] at h
  exact h
theorem ct0_Fi_init {scr : Scr} {l : Launch} {d : Nat} {P : List ACell} {b a s : Nat} (hb : b = P.length) (hl : P.length < 974) : MetA scr l (d + 1) M_Fi_init [.ref b] (P ++ [oB 3 [.null, .null, .int 0, .null, .int 0, .double 0, .null, .null, .int 0, .int 0, .double 0, .double 0, .double 0, .int 0]], a, s) (.inl none, (P ++ [oB 3 [.ref (b + 1), .ref (b + 2), .int 0, .ref (b + 3), .int 0, .double 0, .ref (b + 4), .ref (b + 5), .int 0, .int 0, .double 0, .double 0, .double 0, .int 0], aD 61 (fun _ => 0), aD 61 (fun _ => 0), aD 240 (fun _ => 0), aD 60 (fun _ => 0), aI 20 (fun _ => 0)], a + 5, s + 442)) := by
  subst hb
  refine MetA.of rfl (by decide +kernel) (Nat.le_of_ble_eq_true rfl) ?_
  show Ev scr l _ M_Fi_init 0 [some (.ref (P.length + 0))] [] (P ++ [oB 3 [.null, .null, .int 0, .null, .int 0, .double 0, .null, .null, .int 0, .int 0, .double 0, .double 0, .double 0, .int 0]], a + 0, s + 0) _
  refine ev_aload_n i_Fi_init_0 rfl ?_
  refine ev_objI i_Fi_init_1 rfl (Nat.le_of_ble_eq_true rfl) ?_
  refine ev_aload_n i_Fi_init_4 rfl ?_
  refine ev_bipushN (v := 61) i_Fi_init_5 (by decide) ?_
  refine ev_newDP (P := P) i_Fi_init_7 (by decide) (by have := hl; show P.length + _ < 1000; simp only [List.length_cons, List.length_nil]; omega) ?_
  show Ev scr l _ M_Fi_init 9 [some (.ref (P.length + 0))] [.ref (P.length + 1), .ref (P.length + 0)] (P ++ [oB 3 [.null, .null, .int 0, .null, .int 0, .double 0, .null, .null, .int 0, .int 0, .double 0, .double 0, .double 0, .int 0], aD 61 (fun _ => 0)], a + 1, s + 61) _
  refine ev_putF i_Fi_init_9 (getP P _ 0) (Nat.le_of_ble_eq_true rfl) rfl rfl ?_
  rw [putP]
  show Ev scr l _ M_Fi_init 12 [some (.ref (P.length + 0))] [] (P ++ [oB 3 [.ref (P.length + 1), .null, .int 0, .null, .int 0, .double 0, .null, .null, .int 0, .int 0, .double 0, .double 0, .double 0, .int 0], aD 61 (fun _ => 0)], a + 1, s + 61) _
  refine ev_aload_n i_Fi_init_12 rfl ?_
  refine ev_bipushN (v := 61) i_Fi_init_13 (by decide) ?_
  refine ev_newDP (P := P) i_Fi_init_15 (by decide) (by have := hl; show P.length + _ < 1000; simp only [List.length_cons, List.length_nil]; omega) ?_
  show Ev scr l _ M_Fi_init 17 [some (.ref (P.length + 0))] [.ref (P.length + 2), .ref (P.length + 0)] (P ++ [oB 3 [.ref (P.length + 1), .null, .int 0, .null, .int 0, .double 0, .null, .null, .int 0, .int 0, .double 0, .double 0, .double 0, .int 0], aD 61 (fun _ => 0), aD 61 (fun _ => 0)], a + 2, s + 122) _
  refine ev_putF i_Fi_init_17 (getP P _ 0) (Nat.le_of_ble_eq_true rfl) rfl rfl ?_
  rw [putP]
  show Ev scr l _ M_Fi_init 20 [some (.ref (P.length + 0))] [] (P ++ [oB 3 [.ref (P.length + 1), .ref (P.length + 2), .int 0, .null, .int 0, .double 0, .null, .null, .int 0, .int 0, .double 0, .double 0, .double 0, .int 0], aD 61 (fun _ => 0), aD 61 (fun _ => 0)], a + 2, s + 122) _
  refine ev_aload_n i_Fi_init_20 rfl ?_
  refine ev_sipushN (v := 240) i_Fi_init_21 (by decide) ?_
  refine ev_newDP (P := P) i_Fi_init_24 (by decide) (by have := hl; show P.length + _ < 1000; simp only [List.length_cons, List.length_nil]; omega) ?_
  show Ev scr l _ M_Fi_init 26 [some (.ref (P.length + 0))] [.ref (P.length + 3), .ref (P.length + 0)] (P ++ [oB 3 [.ref (P.length + 1), .ref (P.length + 2), .int 0, .null, .int 0, .double 0, .null, .null, .int 0, .int 0, .double 0, .double 0, .double 0, .int 0], aD 61 (fun _ => 0), aD 61 (fun _ => 0), aD 240 (fun _ => 0)], a + 3, s + 362) _
  refine ev_putF i_Fi_init_26 (getP P _ 0) (Nat.le_of_ble_eq_true rfl) rfl rfl ?_
  rw [putP]
  show Ev scr l _ M_Fi_init 29 [some (.ref (P.length + 0))] [] (P ++ [oB 3 [.ref (P.length + 1), .ref (P.length + 2), .int 0, .ref (P.length + 3), .int 0, .double 0, .null, .null, .int 0, .int 0, .double 0, .double 0, .double 0, .int 0], aD 61 (fun _ => 0), aD 61 (fun _ => 0), aD 240 (fun _ => 0)], a + 3, s + 362) _
  refine ev_aload_n i_Fi_init_29 rfl ?_
  refine ev_bipushN (v := 60) i_Fi_init_30 (by decide) ?_
  refine ev_newDP (P := P) i_Fi_init_32 (by decide) (by have := hl; show P.length + _ < 1000; simp only [List.length_cons, List.length_nil]; omega) ?_
  show Ev scr l _ M_Fi_init 34 [some (.ref (P.length + 0))] [.ref (P.length + 4), .ref (P.length + 0)] (P ++ [oB 3 [.ref (P.length + 1), .ref (P.length + 2), .int 0, .ref (P.length + 3), .int 0, .double 0, .null, .null, .int 0, .int 0, .double 0, .double 0, .double 0, .int 0], aD 61 (fun _ => 0), aD 61 (fun _ => 0), aD 240 (fun _ => 0), aD 60 (fun _ => 0)], a + 4, s + 422) _
  refine ev_putF i_Fi_init_34 (getP P _ 0) (Nat.le_of_ble_eq_true rfl) rfl rfl ?_
  rw [putP]
  show Ev scr l _ M_Fi_init 37 [some (.ref (P.length + 0))] [] (P ++ [oB 3 [.ref (P.length + 1), .ref (P.length + 2), .int 0, .ref (P.length + 3), .int 0, .double 0, .ref (P.length + 4), .null, .int 0, .int 0, .double 0, .double 0, .double 0, .int 0], aD 61 (fun _ => 0), aD 61 (fun _ => 0), aD 240 (fun _ => 0), aD 60 (fun _ => 0)], a + 4, s + 422) _
  refine ev_aload_n i_Fi_init_37 rfl ?_
  refine ev_bipushN (v := 20) i_Fi_init_38 (by decide) ?_
  refine ev_newIP (P := P) i_Fi_init_40 (by decide) (by have := hl; show P.length + _ < 1000; simp only [List.length_cons, List.length_nil]; omega) ?_
  show Ev scr l _ M_Fi_init 42 [some (.ref (P.length + 0))] [.ref (P.length + 5), .ref (P.length + 0)] (P ++ [oB 3 [.ref (P.length + 1), .ref (P.length + 2), .int 0, .ref (P.length + 3), .int 0, .double 0, .ref (P.length + 4), .null, .int 0, .int 0, .double 0, .double 0, .double 0, .int 0], aD 61 (fun _ => 0), aD 61 (fun _ => 0), aD 240 (fun _ => 0), aD 60 (fun _ => 0), aI 20 (fun _ => 0)], a + 5, s + 442) _
  refine ev_putF i_Fi_init_42 (getP P _ 0) (Nat.le_of_ble_eq_true rfl) rfl rfl ?_
  rw [putP]
  show Ev scr l _ M_Fi_init 45 [some (.ref (P.length + 0))] [] (P ++ [oB 3 [.ref (P.length + 1), .ref (P.length + 2), .int 0, .ref (P.length + 3), .int 0, .double 0, .ref (P.length + 4), .ref (P.length + 5), .int 0, .int 0, .double 0, .double 0, .double 0, .int 0], aD 61 (fun _ => 0), aD 61 (fun _ => 0), aD 240 (fun _ => 0), aD 60 (fun _ => 0), aI 20 (fun _ => 0)], a + 5, s + 442) _
  exact ev_vret i_Fi_init_45 rfl
theorem ct_Fi_init {scr : Scr} {l : Launch} {d : Nat} {P Q : List ACell} {b a s : Nat} (hb : b = P.length + Q.length) (hl : P.length + Q.length < 974) : MetA scr l (d + 1) M_Fi_init [.ref b] (P ++ (Q ++ [oB 3 [.null, .null, .int 0, .null, .int 0, .double 0, .null, .null, .int 0, .int 0, .double 0, .double 0, .double 0, .int 0]]), a, s) (.inl none, (P ++ (Q ++ [oB 3 [.ref (b + 1), .ref (b + 2), .int 0, .ref (b + 3), .int 0, .double 0, .ref (b + 4), .ref (b + 5), .int 0, .int 0, .double 0, .double 0, .double 0, .int 0], aD 61 (fun _ => 0), aD 61 (fun _ => 0), aD 240 (fun _ => 0), aD 60 (fun _ => 0), aI 20 (fun _ => 0)]), a + 5, s + 442)) := by
  have h := ct0_Fi_init (scr := scr) (l := l) (d := d) (P := P ++ Q) (a := a) (s := s) (hb.trans List.length_append.symm) (by rw [List.length_append]; exact hl)
  rw [List.append_assoc, List.append_assoc] at h
  exact h
theorem ct0_Tb_init {scr : Scr} {l : Launch} {d : Nat} {P : List ACell} {b a s : Nat} (hb : b = P.length) (hl : P.length < 976) : MetA scr l (d + 1) M_Tb_init [.ref b] (P ++ [oB 9 [.null, .null, .null, .int 0]], a, s) (.inl none, (P ++ [oB 9 [.ref (b + 1), .ref (b + 2), .ref (b + 3), .int 0], aI 6 (tfs 6), aI 54 (tfl 6), aI 216 (tfe 6)], a + 3, s + 276)) := by
  subst hb
  refine MetA.of rfl (by decide +kernel) (Nat.le_of_ble_eq_true rfl) ?_
  show Ev scr l _ M_Tb_init 0 [some (.ref (P.length + 0)), none, none] [] (P ++ [oB 9 [.null, .null, .null, .int 0]], a + 0, s + 0) _
  refine ev_aload_n i_Tb_init_0 rfl ?_
  refine ev_objI i_Tb_init_1 rfl (Nat.le_of_ble_eq_true rfl) ?_
  refine ev_aload_n i_Tb_init_4 rfl ?_
  refine ev_bipushN (v := 6) i_Tb_init_5 (by decide) ?_
  refine ev_newIP (P := P) i_Tb_init_7 (by decide) (by have := hl; show P.length + _ < 1000; simp only [List.length_cons, List.length_nil]; omega) ?_
  show Ev scr l _ M_Tb_init 9 [some (.ref (P.length + 0)), none, none] [.ref (P.length + 1), .ref (P.length + 0)] (P ++ [oB 9 [.null, .null, .null, .int 0], aI 6 (fun _ => 0)], a + 1, s + 6) _
  refine ev_putF i_Tb_init_9 (getP P _ 0) (Nat.le_of_ble_eq_true rfl) rfl rfl ?_
  rw [putP]
  show Ev scr l _ M_Tb_init 12 [some (.ref (P.length + 0)), none, none] [] (P ++ [oB 9 [.ref (P.length + 1), .null, .null, .int 0], aI 6 (fun _ => 0)], a + 1, s + 6) _
  refine ev_aload_n i_Tb_init_12 rfl ?_
  refine ev_bipushN (v := 54) i_Tb_init_13 (by decide) ?_
  refine ev_newIP (P := P) i_Tb_init_15 (by decide) (by have := hl; show P.length + _ < 1000; simp only [List.length_cons, List.length_nil]; omega) ?_
  show Ev scr l _ M_Tb_init 17 [some (.ref (P.length + 0)), none, none] [.ref (P.length + 2), .ref (P.length + 0)] (P ++ [oB 9 [.ref (P.length + 1), .null, .null, .int 0], aI 6 (fun _ => 0), aI 54 (fun _ => 0)], a + 2, s + 60) _
  refine ev_putF i_Tb_init_17 (getP P _ 0) (Nat.le_of_ble_eq_true rfl) rfl rfl ?_
  rw [putP]
  show Ev scr l _ M_Tb_init 20 [some (.ref (P.length + 0)), none, none] [] (P ++ [oB 9 [.ref (P.length + 1), .ref (P.length + 2), .null, .int 0], aI 6 (fun _ => 0), aI 54 (fun _ => 0)], a + 2, s + 60) _
  refine ev_aload_n i_Tb_init_20 rfl ?_
  refine ev_sipushN (v := 216) i_Tb_init_21 (by decide) ?_
  refine ev_newIP (P := P) i_Tb_init_24 (by decide) (by have := hl; show P.length + _ < 1000; simp only [List.length_cons, List.length_nil]; omega) ?_
  show Ev scr l _ M_Tb_init 26 [some (.ref (P.length + 0)), none, none] [.ref (P.length + 3), .ref (P.length + 0)] (P ++ [oB 9 [.ref (P.length + 1), .ref (P.length + 2), .null, .int 0], aI 6 (fun _ => 0), aI 54 (fun _ => 0), aI 216 (fun _ => 0)], a + 3, s + 276) _
  refine ev_putF i_Tb_init_26 (getP P _ 0) (Nat.le_of_ble_eq_true rfl) rfl rfl ?_
  rw [putP]
  show Ev scr l _ M_Tb_init 29 [some (.ref (P.length + 0)), none, none] [] (P ++ [oB 9 [.ref (P.length + 1), .ref (P.length + 2), .ref (P.length + 3), .int 0], aI 6 (fun _ => 0), aI 54 (fun _ => 0), aI 216 (fun _ => 0)], a + 3, s + 276) _
  refine ev_aload_n i_Tb_init_29 rfl ?_
  refine ev_get i_Tb_init_30 (getP P _ 0) rfl ?_
  refine ev_iconst (v := -1) i_Tb_init_33 (by decide) ?_
  refine ev_callS2 i_Tb_init_34 rfl (Nat.le_of_ble_eq_true rfl) (c_Ar_fillI (getP P _ 2) (by decide)) ?_
  rw [putP]
  show Ev scr l _ M_Tb_init 37 [some (.ref (P.length + 0)), none, none] [] (P ++ [oB 9 [.ref (P.length + 1), .ref (P.length + 2), .ref (P.length + 3), .int 0], aI 6 (fun _ => 0), aI 54 (fillF (fun _ => 0) 0 (fun _ => -1) 54), aI 216 (fun _ => 0)], a + 3, s + 276) _
  refine ev_iconstN (v := 0) i_Tb_init_37 (by decide) ?_
  refine ev_ist_n_1 i_Tb_init_38 rfl ?_
  show Ev scr l _ M_Tb_init 39 [some (.ref (P.length + 0)), some (.int (nI 0)), none] [] (P ++ [oB 9 [.ref (P.length + 1), .ref (P.length + 2), .ref (P.length + 3), .int 0], aI 6 (tfs 0), aI 54 (tfl 0), aI 216 (tfe 0)], a + 3, s + 276) _
  refine ev_iload_n i_Tb_init_39 rfl ?_
  refine ev_bipushN (v := 6) i_Tb_init_40 (by decide) ?_
  refine ev_icmp_geN i_Tb_init_42 (by decide) (by decide) (fun hc => absurd hc (by decide)) (fun _ => ?_)
  show Ev scr l _ M_Tb_init 45 [some (.ref (P.length + 0)), some (.int (nI 0)), none] [] (P ++ [oB 9 [.ref (P.length + 1), .ref (P.length + 2), .ref (P.length + 3), .int 0], aI 6 (tfs 0), aI 54 (tfl 0), aI 216 (tfe 0)], a + 3, s + 276) _
  refine ev_iload_n i_Tb_init_45 rfl ?_
  refine ev_iconstN (v := 0) i_Tb_init_46 (by decide) ?_
  refine ev_callS2 i_Tb_init_47 rfl (Nat.le_of_ble_eq_true rfl) c_Tb_listSlot ?_
  show Ev scr l _ M_Tb_init 50 [some (.ref (P.length + 0)), some (.int (nI 0)), none] [.int (nI 0)] (P ++ [oB 9 [.ref (P.length + 1), .ref (P.length + 2), .ref (P.length + 3), .int 0], aI 6 (tfs 0), aI 54 (tfl 0), aI 216 (tfe 0)], a + 3, s + 276) _
  refine ev_ist_n_2 i_Tb_init_50 rfl ?_
  refine ev_aload_n i_Tb_init_51 rfl ?_
  refine ev_get i_Tb_init_52 (getP P _ 0) rfl ?_
  refine ev_iload_n i_Tb_init_55 rfl ?_
  refine ev_iconstN (v := 1) i_Tb_init_56 (by decide) ?_
  refine ev_iastN i_Tb_init_57 (getP P _ 1) (by decide) (by decide) ?_
  rw [putP]
  show Ev scr l _ M_Tb_init 58 [some (.ref (P.length + 0)), some (.int (nI 0)), some (.int (nI 0))] [] (P ++ [oB 9 [.ref (P.length + 1), .ref (P.length + 2), .ref (P.length + 3), .int 0], aI 6 (upd (tfs 0) 0 (nI 1)), aI 54 (tfl 0), aI 216 (tfe 0)], a + 3, s + 276) _
  refine ev_aload_n i_Tb_init_58 rfl ?_
  refine ev_get i_Tb_init_59 (getP P _ 0) rfl ?_
  refine ev_iload_n i_Tb_init_62 rfl ?_
  refine ev_iconstN (v := 1) i_Tb_init_63 (by decide) ?_
  refine ev_iastN i_Tb_init_64 (getP P _ 2) (by decide) (by decide) ?_
  rw [putP]
  show Ev scr l _ M_Tb_init 65 [some (.ref (P.length + 0)), some (.int (nI 0)), some (.int (nI 0))] [] (P ++ [oB 9 [.ref (P.length + 1), .ref (P.length + 2), .ref (P.length + 3), .int 0], aI 6 (upd (tfs 0) 0 (nI 1)), aI 54 (upd (tfl 0) 0 (nI 1)), aI 216 (tfe 0)], a + 3, s + 276) _
  refine ev_aload_n i_Tb_init_65 rfl ?_
  refine ev_get i_Tb_init_66 (getP P _ 0) rfl ?_
  refine ev_iload_n i_Tb_init_69 rfl ?_
  refine ev_iconstN (v := 4) i_Tb_init_70 (by decide) ?_
  refine ev_imulN i_Tb_init_71 ?_
  show Ev scr l _ M_Tb_init 72 [some (.ref (P.length + 0)), some (.int (nI 0)), some (.int (nI 0))] [.int (nI 0), .ref (P.length + 3)] (P ++ [oB 9 [.ref (P.length + 1), .ref (P.length + 2), .ref (P.length + 3), .int 0], aI 6 (upd (tfs 0) 0 (nI 1)), aI 54 (upd (tfl 0) 0 (nI 1)), aI 216 (tfe 0)], a + 3, s + 276) _
  refine ev_iload_n i_Tb_init_72 rfl ?_
  refine ev_iastN i_Tb_init_73 (getP P _ 3) (by decide) (by decide) ?_
  rw [putP]
  show Ev scr l _ M_Tb_init 74 [some (.ref (P.length + 0)), some (.int (nI 0)), some (.int (nI 0))] [] (P ++ [oB 9 [.ref (P.length + 1), .ref (P.length + 2), .ref (P.length + 3), .int 0], aI 6 (upd (tfs 0) 0 (nI 1)), aI 54 (upd (tfl 0) 0 (nI 1)), aI 216 (upd (tfe 0) 0 (nI 0))], a + 3, s + 276) _
  refine ev_iincN_1 (c := 1) i_Tb_init_74 (by decide) rfl ?_
  refine ev_goto i_Tb_init_77 ?_
  show Ev scr l _ M_Tb_init 39 [some (.ref (P.length + 0)), some (.int (nI 1)), some (.int (nI 0))] [] (P ++ [oB 9 [.ref (P.length + 1), .ref (P.length + 2), .ref (P.length + 3), .int 0], aI 6 (upd (tfs 0) 0 (nI 1)), aI 54 (upd (tfl 0) 0 (nI 1)), aI 216 (upd (tfe 0) 0 (nI 0))], a + 3, s + 276) _
  show Ev scr l _ M_Tb_init 39 [some (.ref (P.length + 0)), some (.int (nI 1)), some (.int (nI 0))] [] (P ++ [oB 9 [.ref (P.length + 1), .ref (P.length + 2), .ref (P.length + 3), .int 0], aI 6 (tfs 1), aI 54 (tfl 1), aI 216 (tfe 1)], a + 3, s + 276) _
  refine ev_iload_n i_Tb_init_39 rfl ?_
  refine ev_bipushN (v := 6) i_Tb_init_40 (by decide) ?_
  refine ev_icmp_geN i_Tb_init_42 (by decide) (by decide) (fun hc => absurd hc (by decide)) (fun _ => ?_)
  show Ev scr l _ M_Tb_init 45 [some (.ref (P.length + 0)), some (.int (nI 1)), some (.int (nI 0))] [] (P ++ [oB 9 [.ref (P.length + 1), .ref (P.length + 2), .ref (P.length + 3), .int 0], aI 6 (tfs 1), aI 54 (tfl 1), aI 216 (tfe 1)], a + 3, s + 276) _
  refine ev_iload_n i_Tb_init_45 rfl ?_
  refine ev_iconstN (v := 0) i_Tb_init_46 (by decide) ?_
  refine ev_callS2 i_Tb_init_47 rfl (Nat.le_of_ble_eq_true rfl) c_Tb_listSlot ?_
  show Ev scr l _ M_Tb_init 50 [some (.ref (P.length + 0)), some (.int (nI 1)), some (.int (nI 0))] [.int (nI 3)] (P ++ [oB 9 [.ref (P.length + 1), .ref (P.length + 2), .ref (P.length + 3), .int 0], aI 6 (tfs 1), aI 54 (tfl 1), aI 216 (tfe 1)], a + 3, s + 276) _
  refine ev_ist_n_2 i_Tb_init_50 rfl ?_
  refine ev_aload_n i_Tb_init_51 rfl ?_
  refine ev_get i_Tb_init_52 (getP P _ 0) rfl ?_
  refine ev_iload_n i_Tb_init_55 rfl ?_
  refine ev_iconstN (v := 1) i_Tb_init_56 (by decide) ?_
  refine ev_iastN i_Tb_init_57 (getP P _ 1) (by decide) (by decide) ?_
  rw [putP]
  show Ev scr l _ M_Tb_init 58 [some (.ref (P.length + 0)), some (.int (nI 1)), some (.int (nI 3))] [] (P ++ [oB 9 [.ref (P.length + 1), .ref (P.length + 2), .ref (P.length + 3), .int 0], aI 6 (upd (tfs 1) 1 (nI 1)), aI 54 (tfl 1), aI 216 (tfe 1)], a + 3, s + 276) _
  refine ev_aload_n i_Tb_init_58 rfl ?_
  refine ev_get i_Tb_init_59 (getP P _ 0) rfl ?_
  refine ev_iload_n i_Tb_init_62 rfl ?_
  refine ev_iconstN (v := 1) i_Tb_init_63 (by decide) ?_
  refine ev_iastN i_Tb_init_64 (getP P _ 2) (by decide) (by decide) ?_
  rw [putP]
  show Ev scr l _ M_Tb_init 65 [some (.ref (P.length + 0)), some (.int (nI 1)), some (.int (nI 3))] [] (P ++ [oB 9 [.ref (P.length + 1), .ref (P.length + 2), .ref (P.length + 3), .int 0], aI 6 (upd (tfs 1) 1 (nI 1)), aI 54 (upd (tfl 1) 3 (nI 1)), aI 216 (tfe 1)], a + 3, s + 276) _
  refine ev_aload_n i_Tb_init_65 rfl ?_
  refine ev_get i_Tb_init_66 (getP P _ 0) rfl ?_
  refine ev_iload_n i_Tb_init_69 rfl ?_
  refine ev_iconstN (v := 4) i_Tb_init_70 (by decide) ?_
  refine ev_imulN i_Tb_init_71 ?_
  show Ev scr l _ M_Tb_init 72 [some (.ref (P.length + 0)), some (.int (nI 1)), some (.int (nI 3))] [.int (nI 12), .ref (P.length + 3)] (P ++ [oB 9 [.ref (P.length + 1), .ref (P.length + 2), .ref (P.length + 3), .int 0], aI 6 (upd (tfs 1) 1 (nI 1)), aI 54 (upd (tfl 1) 3 (nI 1)), aI 216 (tfe 1)], a + 3, s + 276) _
  refine ev_iload_n i_Tb_init_72 rfl ?_
  refine ev_iastN i_Tb_init_73 (getP P _ 3) (by decide) (by decide) ?_
  rw [putP]
  show Ev scr l _ M_Tb_init 74 [some (.ref (P.length + 0)), some (.int (nI 1)), some (.int (nI 3))] [] (P ++ [oB 9 [.ref (P.length + 1), .ref (P.length + 2), .ref (P.length + 3), .int 0], aI 6 (upd (tfs 1) 1 (nI 1)), aI 54 (upd (tfl 1) 3 (nI 1)), aI 216 (upd (tfe 1) 12 (nI 1))], a + 3, s + 276) _
  refine ev_iincN_1 (c := 1) i_Tb_init_74 (by decide) rfl ?_
  refine ev_goto i_Tb_init_77 ?_
  show Ev scr l _ M_Tb_init 39 [some (.ref (P.length + 0)), some (.int (nI 2)), some (.int (nI 3))] [] (P ++ [oB 9 [.ref (P.length + 1), .ref (P.length + 2), .ref (P.length + 3), .int 0], aI 6 (upd (tfs 1) 1 (nI 1)), aI 54 (upd (tfl 1) 3 (nI 1)), aI 216 (upd (tfe 1) 12 (nI 1))], a + 3, s + 276) _
  show Ev scr l _ M_Tb_init 39 [some (.ref (P.length + 0)), some (.int (nI 2)), some (.int (nI 3))] [] (P ++ [oB 9 [.ref (P.length + 1), .ref (P.length + 2), .ref (P.length + 3), .int 0], aI 6 (tfs 2), aI 54 (tfl 2), aI 216 (tfe 2)], a + 3, s + 276) _
  refine ev_iload_n i_Tb_init_39 rfl ?_
  refine ev_bipushN (v := 6) i_Tb_init_40 (by decide) ?_
  refine ev_icmp_geN i_Tb_init_42 (by decide) (by decide) (fun hc => absurd hc (by decide)) (fun _ => ?_)
  show Ev scr l _ M_Tb_init 45 [some (.ref (P.length + 0)), some (.int (nI 2)), some (.int (nI 3))] [] (P ++ [oB 9 [.ref (P.length + 1), .ref (P.length + 2), .ref (P.length + 3), .int 0], aI 6 (tfs 2), aI 54 (tfl 2), aI 216 (tfe 2)], a + 3, s + 276) _
  refine ev_iload_n i_Tb_init_45 rfl ?_
  refine ev_iconstN (v := 0) i_Tb_init_46 (by decide) ?_
  refine ev_callS2 i_Tb_init_47 rfl (Nat.le_of_ble_eq_true rfl) c_Tb_listSlot ?_
  show Ev scr l _ M_Tb_init 50 [some (.ref (P.length + 0)), some (.int (nI 2)), some (.int (nI 3))] [.int (nI 6)] (P ++ [oB 9 [.ref (P.length + 1), .ref (P.length + 2), .ref (P.length + 3), .int 0], aI 6 (tfs 2), aI 54 (tfl 2), aI 216 (tfe 2)], a + 3, s + 276) _
  refine ev_ist_n_2 i_Tb_init_50 rfl ?_
  refine ev_aload_n i_Tb_init_51 rfl ?_
  refine ev_get i_Tb_init_52 (getP P _ 0) rfl ?_
  refine ev_iload_n i_Tb_init_55 rfl ?_
  refine ev_iconstN (v := 1) i_Tb_init_56 (by decide) ?_
  refine ev_iastN i_Tb_init_57 (getP P _ 1) (by decide) (by decide) ?_
  rw [putP]
  show Ev scr l _ M_Tb_init 58 [some (.ref (P.length + 0)), some (.int (nI 2)), some (.int (nI 6))] [] (P ++ [oB 9 [.ref (P.length + 1), .ref (P.length + 2), .ref (P.length + 3), .int 0], aI 6 (upd (tfs 2) 2 (nI 1)), aI 54 (tfl 2), aI 216 (tfe 2)], a + 3, s + 276) _
  refine ev_aload_n i_Tb_init_58 rfl ?_
  refine ev_get i_Tb_init_59 (getP P _ 0) rfl ?_
  refine ev_iload_n i_Tb_init_62 rfl ?_
  refine ev_iconstN (v := 1) i_Tb_init_63 (by decide) ?_
  refine ev_iastN i_Tb_init_64 (getP P _ 2) (by decide) (by decide) ?_
  rw [putP]
  show Ev scr l _ M_Tb_init 65 [some (.ref (P.length + 0)), some (.int (nI 2)), some (.int (nI 6))] [] (P ++ [oB 9 [.ref (P.length + 1), .ref (P.length + 2), .ref (P.length + 3), .int 0], aI 6 (upd (tfs 2) 2 (nI 1)), aI 54 (upd (tfl 2) 6 (nI 1)), aI 216 (tfe 2)], a + 3, s + 276) _
  refine ev_aload_n i_Tb_init_65 rfl ?_
  refine ev_get i_Tb_init_66 (getP P _ 0) rfl ?_
  refine ev_iload_n i_Tb_init_69 rfl ?_
  refine ev_iconstN (v := 4) i_Tb_init_70 (by decide) ?_
  refine ev_imulN i_Tb_init_71 ?_
  show Ev scr l _ M_Tb_init 72 [some (.ref (P.length + 0)), some (.int (nI 2)), some (.int (nI 6))] [.int (nI 24), .ref (P.length + 3)] (P ++ [oB 9 [.ref (P.length + 1), .ref (P.length + 2), .ref (P.length + 3), .int 0], aI 6 (upd (tfs 2) 2 (nI 1)), aI 54 (upd (tfl 2) 6 (nI 1)), aI 216 (tfe 2)], a + 3, s + 276) _
  refine ev_iload_n i_Tb_init_72 rfl ?_
  refine ev_iastN i_Tb_init_73 (getP P _ 3) (by decide) (by decide) ?_
  rw [putP]
  show Ev scr l _ M_Tb_init 74 [some (.ref (P.length + 0)), some (.int (nI 2)), some (.int (nI 6))] [] (P ++ [oB 9 [.ref (P.length + 1), .ref (P.length + 2), .ref (P.length + 3), .int 0], aI 6 (upd (tfs 2) 2 (nI 1)), aI 54 (upd (tfl 2) 6 (nI 1)), aI 216 (upd (tfe 2) 24 (nI 2))], a + 3, s + 276) _
  refine ev_iincN_1 (c := 1) i_Tb_init_74 (by decide) rfl ?_
  refine ev_goto i_Tb_init_77 ?_
  show Ev scr l _ M_Tb_init 39 [some (.ref (P.length + 0)), some (.int (nI 3)), some (.int (nI 6))] [] (P ++ [oB 9 [.ref (P.length + 1), .ref (P.length + 2), .ref (P.length + 3), .int 0], aI 6 (upd (tfs 2) 2 (nI 1)), aI 54 (upd (tfl 2) 6 (nI 1)), aI 216 (upd (tfe 2) 24 (nI 2))], a + 3, s + 276) _
  show Ev scr l _ M_Tb_init 39 [some (.ref (P.length + 0)), some (.int (nI 3)), some (.int (nI 6))] [] (P ++ [oB 9 [.ref (P.length + 1), .ref (P.length + 2), .ref (P.length + 3), .int 0], aI 6 (tfs 3), aI 54 (tfl 3), aI 216 (tfe 3)], a + 3, s + 276) _
  refine ev_iload_n i_Tb_init_39 rfl ?_
  refine ev_bipushN (v := 6) i_Tb_init_40 (by decide) ?_
  refine ev_icmp_geN i_Tb_init_42 (by decide) (by decide) (fun hc => absurd hc (by decide)) (fun _ => ?_)
  show Ev scr l _ M_Tb_init 45 [some (.ref (P.length + 0)), some (.int (nI 3)), some (.int (nI 6))] [] (P ++ [oB 9 [.ref (P.length + 1), .ref (P.length + 2), .ref (P.length + 3), .int 0], aI 6 (tfs 3), aI 54 (tfl 3), aI 216 (tfe 3)], a + 3, s + 276) _
  refine ev_iload_n i_Tb_init_45 rfl ?_
  refine ev_iconstN (v := 0) i_Tb_init_46 (by decide) ?_
  refine ev_callS2 i_Tb_init_47 rfl (Nat.le_of_ble_eq_true rfl) c_Tb_listSlot ?_
  show Ev scr l _ M_Tb_init 50 [some (.ref (P.length + 0)), some (.int (nI 3)), some (.int (nI 6))] [.int (nI 9)] (P ++ [oB 9 [.ref (P.length + 1), .ref (P.length + 2), .ref (P.length + 3), .int 0], aI 6 (tfs 3), aI 54 (tfl 3), aI 216 (tfe 3)], a + 3, s + 276) _
  refine ev_ist_n_2 i_Tb_init_50 rfl ?_
  refine ev_aload_n i_Tb_init_51 rfl ?_
  refine ev_get i_Tb_init_52 (getP P _ 0) rfl ?_
  refine ev_iload_n i_Tb_init_55 rfl ?_
  refine ev_iconstN (v := 1) i_Tb_init_56 (by decide) ?_
  refine ev_iastN i_Tb_init_57 (getP P _ 1) (by decide) (by decide) ?_
  rw [putP]
  show Ev scr l _ M_Tb_init 58 [some (.ref (P.length + 0)), some (.int (nI 3)), some (.int (nI 9))] [] (P ++ [oB 9 [.ref (P.length + 1), .ref (P.length + 2), .ref (P.length + 3), .int 0], aI 6 (upd (tfs 3) 3 (nI 1)), aI 54 (tfl 3), aI 216 (tfe 3)], a + 3, s + 276) _
  refine ev_aload_n i_Tb_init_58 rfl ?_
  refine ev_get i_Tb_init_59 (getP P _ 0) rfl ?_
  refine ev_iload_n i_Tb_init_62 rfl ?_
  refine ev_iconstN (v := 1) i_Tb_init_63 (by decide) ?_
  refine ev_iastN i_Tb_init_64 (getP P _ 2) (by decide) (by decide) ?_
  rw [putP]
  show Ev scr l _ M_Tb_init 65 [some (.ref (P.length + 0)), some (.int (nI 3)), some (.int (nI 9))] [] (P ++ [oB 9 [.ref (P.length + 1), .ref (P.length + 2), .ref (P.length + 3), .int 0], aI 6 (upd (tfs 3) 3 (nI 1)), aI 54 (upd (tfl 3) 9 (nI 1)), aI 216 (tfe 3)], a + 3, s + 276) _
  refine ev_aload_n i_Tb_init_65 rfl ?_
  refine ev_get i_Tb_init_66 (getP P _ 0) rfl ?_
  refine ev_iload_n i_Tb_init_69 rfl ?_
  refine ev_iconstN (v := 4) i_Tb_init_70 (by decide) ?_
  refine ev_imulN i_Tb_init_71 ?_
  show Ev scr l _ M_Tb_init 72 [some (.ref (P.length + 0)), some (.int (nI 3)), some (.int (nI 9))] [.int (nI 36), .ref (P.length + 3)] (P ++ [oB 9 [.ref (P.length + 1), .ref (P.length + 2), .ref (P.length + 3), .int 0], aI 6 (upd (tfs 3) 3 (nI 1)), aI 54 (upd (tfl 3) 9 (nI 1)), aI 216 (tfe 3)], a + 3, s + 276) _
  refine ev_iload_n i_Tb_init_72 rfl ?_
  refine ev_iastN i_Tb_init_73 (getP P _ 3) (by decide) (by decide) ?_
  rw [putP]
  show Ev scr l _ M_Tb_init 74 [some (.ref (P.length + 0)), some (.int (nI 3)), some (.int (nI 9))] [] (P ++ [oB 9 [.ref (P.length + 1), .ref (P.length + 2), .ref (P.length + 3), .int 0], aI 6 (upd (tfs 3) 3 (nI 1)), aI 54 (upd (tfl 3) 9 (nI 1)), aI 216 (upd (tfe 3) 36 (nI 3))], a + 3, s + 276) _
  refine ev_iincN_1 (c := 1) i_Tb_init_74 (by decide) rfl ?_
  refine ev_goto i_Tb_init_77 ?_
  show Ev scr l _ M_Tb_init 39 [some (.ref (P.length + 0)), some (.int (nI 4)), some (.int (nI 9))] [] (P ++ [oB 9 [.ref (P.length + 1), .ref (P.length + 2), .ref (P.length + 3), .int 0], aI 6 (upd (tfs 3) 3 (nI 1)), aI 54 (upd (tfl 3) 9 (nI 1)), aI 216 (upd (tfe 3) 36 (nI 3))], a + 3, s + 276) _
  show Ev scr l _ M_Tb_init 39 [some (.ref (P.length + 0)), some (.int (nI 4)), some (.int (nI 9))] [] (P ++ [oB 9 [.ref (P.length + 1), .ref (P.length + 2), .ref (P.length + 3), .int 0], aI 6 (tfs 4), aI 54 (tfl 4), aI 216 (tfe 4)], a + 3, s + 276) _
  refine ev_iload_n i_Tb_init_39 rfl ?_
  refine ev_bipushN (v := 6) i_Tb_init_40 (by decide) ?_
  refine ev_icmp_geN i_Tb_init_42 (by decide) (by decide) (fun hc => absurd hc (by decide)) (fun _ => ?_)
  show Ev scr l _ M_Tb_init 45 [some (.ref (P.length + 0)), some (.int (nI 4)), some (.int (nI 9))] [] (P ++ [oB 9 [.ref (P.length + 1), .ref (P.length + 2), .ref (P.length + 3), .int 0], aI 6 (tfs 4), aI 54 (tfl 4), aI 216 (tfe 4)], a + 3, s + 276) _
  refine ev_iload_n i_Tb_init_45 rfl ?_
  refine ev_iconstN (v := 0) i_Tb_init_46 (by decide) ?_
  refine ev_callS2 i_Tb_init_47 rfl (Nat.le_of_ble_eq_true rfl) c_Tb_listSlot ?_
  show Ev scr l _ M_Tb_init 50 [some (.ref (P.length + 0)), some (.int (nI 4)), some (.int (nI 9))] [.int (nI 12)] (P ++ [oB 9 [.ref (P.length + 1), .ref (P.length + 2), .ref (P.length + 3), .int 0], aI 6 (tfs 4), aI 54 (tfl 4), aI 216 (tfe 4)], a + 3, s + 276) _
  refine ev_ist_n_2 i_Tb_init_50 rfl ?_
  refine ev_aload_n i_Tb_init_51 rfl ?_
  refine ev_get i_Tb_init_52 (getP P _ 0) rfl ?_
  refine ev_iload_n i_Tb_init_55 rfl ?_
  refine ev_iconstN (v := 1) i_Tb_init_56 (by decide) ?_
  refine ev_iastN i_Tb_init_57 (getP P _ 1) (by decide) (by decide) ?_
  rw [putP]
  show Ev scr l _ M_Tb_init 58 [some (.ref (P.length + 0)), some (.int (nI 4)), some (.int (nI 12))] [] (P ++ [oB 9 [.ref (P.length + 1), .ref (P.length + 2), .ref (P.length + 3), .int 0], aI 6 (upd (tfs 4) 4 (nI 1)), aI 54 (tfl 4), aI 216 (tfe 4)], a + 3, s + 276) _
  refine ev_aload_n i_Tb_init_58 rfl ?_
  refine ev_get i_Tb_init_59 (getP P _ 0) rfl ?_
  refine ev_iload_n i_Tb_init_62 rfl ?_
  refine ev_iconstN (v := 1) i_Tb_init_63 (by decide) ?_
  refine ev_iastN i_Tb_init_64 (getP P _ 2) (by decide) (by decide) ?_
  rw [putP]
  show Ev scr l _ M_Tb_init 65 [some (.ref (P.length + 0)), some (.int (nI 4)), some (.int (nI 12))] [] (P ++ [oB 9 [.ref (P.length + 1), .ref (P.length + 2), .ref (P.length + 3), .int 0], aI 6 (upd (tfs 4) 4 (nI 1)), aI 54 (upd (tfl 4) 12 (nI 1)), aI 216 (tfe 4)], a + 3, s + 276) _
  refine ev_aload_n i_Tb_init_65 rfl ?_
  refine ev_get i_Tb_init_66 (getP P _ 0) rfl ?_
  refine ev_iload_n i_Tb_init_69 rfl ?_
  refine ev_iconstN (v := 4) i_Tb_init_70 (by decide) ?_
  refine ev_imulN i_Tb_init_71 ?_
  show Ev scr l _ M_Tb_init 72 [some (.ref (P.length + 0)), some (.int (nI 4)), some (.int (nI 12))] [.int (nI 48), .ref (P.length + 3)] (P ++ [oB 9 [.ref (P.length + 1), .ref (P.length + 2), .ref (P.length + 3), .int 0], aI 6 (upd (tfs 4) 4 (nI 1)), aI 54 (upd (tfl 4) 12 (nI 1)), aI 216 (tfe 4)], a + 3, s + 276) _
  refine ev_iload_n i_Tb_init_72 rfl ?_
  refine ev_iastN i_Tb_init_73 (getP P _ 3) (by decide) (by decide) ?_
  rw [putP]
  show Ev scr l _ M_Tb_init 74 [some (.ref (P.length + 0)), some (.int (nI 4)), some (.int (nI 12))] [] (P ++ [oB 9 [.ref (P.length + 1), .ref (P.length + 2), .ref (P.length + 3), .int 0], aI 6 (upd (tfs 4) 4 (nI 1)), aI 54 (upd (tfl 4) 12 (nI 1)), aI 216 (upd (tfe 4) 48 (nI 4))], a + 3, s + 276) _
  refine ev_iincN_1 (c := 1) i_Tb_init_74 (by decide) rfl ?_
  refine ev_goto i_Tb_init_77 ?_
  show Ev scr l _ M_Tb_init 39 [some (.ref (P.length + 0)), some (.int (nI 5)), some (.int (nI 12))] [] (P ++ [oB 9 [.ref (P.length + 1), .ref (P.length + 2), .ref (P.length + 3), .int 0], aI 6 (upd (tfs 4) 4 (nI 1)), aI 54 (upd (tfl 4) 12 (nI 1)), aI 216 (upd (tfe 4) 48 (nI 4))], a + 3, s + 276) _
  show Ev scr l _ M_Tb_init 39 [some (.ref (P.length + 0)), some (.int (nI 5)), some (.int (nI 12))] [] (P ++ [oB 9 [.ref (P.length + 1), .ref (P.length + 2), .ref (P.length + 3), .int 0], aI 6 (tfs 5), aI 54 (tfl 5), aI 216 (tfe 5)], a + 3, s + 276) _
  refine ev_iload_n i_Tb_init_39 rfl ?_
  refine ev_bipushN (v := 6) i_Tb_init_40 (by decide) ?_
  refine ev_icmp_geN i_Tb_init_42 (by decide) (by decide) (fun hc => absurd hc (by decide)) (fun _ => ?_)
  show Ev scr l _ M_Tb_init 45 [some (.ref (P.length + 0)), some (.int (nI 5)), some (.int (nI 12))] [] (P ++ [oB 9 [.ref (P.length + 1), .ref (P.length + 2), .ref (P.length + 3), .int 0], aI 6 (tfs 5), aI 54 (tfl 5), aI 216 (tfe 5)], a + 3, s + 276) _
  refine ev_iload_n i_Tb_init_45 rfl ?_
  refine ev_iconstN (v := 0) i_Tb_init_46 (by decide) ?_
  refine ev_callS2 i_Tb_init_47 rfl (Nat.le_of_ble_eq_true rfl) c_Tb_listSlot ?_
  show Ev scr l _ M_Tb_init 50 [some (.ref (P.length + 0)), some (.int (nI 5)), some (.int (nI 12))] [.int (nI 15)] (P ++ [oB 9 [.ref (P.length + 1), .ref (P.length + 2), .ref (P.length + 3), .int 0], aI 6 (tfs 5), aI 54 (tfl 5), aI 216 (tfe 5)], a + 3, s + 276) _
  refine ev_ist_n_2 i_Tb_init_50 rfl ?_
  refine ev_aload_n i_Tb_init_51 rfl ?_
  refine ev_get i_Tb_init_52 (getP P _ 0) rfl ?_
  refine ev_iload_n i_Tb_init_55 rfl ?_
  refine ev_iconstN (v := 1) i_Tb_init_56 (by decide) ?_
  refine ev_iastN i_Tb_init_57 (getP P _ 1) (by decide) (by decide) ?_
  rw [putP]
  show Ev scr l _ M_Tb_init 58 [some (.ref (P.length + 0)), some (.int (nI 5)), some (.int (nI 15))] [] (P ++ [oB 9 [.ref (P.length + 1), .ref (P.length + 2), .ref (P.length + 3), .int 0], aI 6 (upd (tfs 5) 5 (nI 1)), aI 54 (tfl 5), aI 216 (tfe 5)], a + 3, s + 276) _
  refine ev_aload_n i_Tb_init_58 rfl ?_
  refine ev_get i_Tb_init_59 (getP P _ 0) rfl ?_
  refine ev_iload_n i_Tb_init_62 rfl ?_
  refine ev_iconstN (v := 1) i_Tb_init_63 (by decide) ?_
  refine ev_iastN i_Tb_init_64 (getP P _ 2) (by decide) (by decide) ?_
  rw [putP]
  show Ev scr l _ M_Tb_init 65 [some (.ref (P.length + 0)), some (.int (nI 5)), some (.int (nI 15))] [] (P ++ [oB 9 [.ref (P.length + 1), .ref (P.length + 2), .ref (P.length + 3), .int 0], aI 6 (upd (tfs 5) 5 (nI 1)), aI 54 (upd (tfl 5) 15 (nI 1)), aI 216 (tfe 5)], a + 3, s + 276) _
  refine ev_aload_n i_Tb_init_65 rfl ?_
  refine ev_get i_Tb_init_66 (getP P _ 0) rfl ?_
  refine ev_iload_n i_Tb_init_69 rfl ?_
  refine ev_iconstN (v := 4) i_Tb_init_70 (by decide) ?_
  refine ev_imulN i_Tb_init_71 ?_
  show Ev scr l _ M_Tb_init 72 [some (.ref (P.length + 0)), some (.int (nI 5)), some (.int (nI 15))] [.int (nI 60), .ref (P.length + 3)] (P ++ [oB 9 [.ref (P.length + 1), .ref (P.length + 2), .ref (P.length + 3), .int 0], aI 6 (upd (tfs 5) 5 (nI 1)), aI 54 (upd (tfl 5) 15 (nI 1)), aI 216 (tfe 5)], a + 3, s + 276) _
  refine ev_iload_n i_Tb_init_72 rfl ?_
  refine ev_iastN i_Tb_init_73 (getP P _ 3) (by decide) (by decide) ?_
  rw [putP]
  show Ev scr l _ M_Tb_init 74 [some (.ref (P.length + 0)), some (.int (nI 5)), some (.int (nI 15))] [] (P ++ [oB 9 [.ref (P.length + 1), .ref (P.length + 2), .ref (P.length + 3), .int 0], aI 6 (upd (tfs 5) 5 (nI 1)), aI 54 (upd (tfl 5) 15 (nI 1)), aI 216 (upd (tfe 5) 60 (nI 5))], a + 3, s + 276) _
  refine ev_iincN_1 (c := 1) i_Tb_init_74 (by decide) rfl ?_
  refine ev_goto i_Tb_init_77 ?_
  show Ev scr l _ M_Tb_init 39 [some (.ref (P.length + 0)), some (.int (nI 6)), some (.int (nI 15))] [] (P ++ [oB 9 [.ref (P.length + 1), .ref (P.length + 2), .ref (P.length + 3), .int 0], aI 6 (upd (tfs 5) 5 (nI 1)), aI 54 (upd (tfl 5) 15 (nI 1)), aI 216 (upd (tfe 5) 60 (nI 5))], a + 3, s + 276) _
  show Ev scr l _ M_Tb_init 39 [some (.ref (P.length + 0)), some (.int (nI 6)), some (.int (nI 15))] [] (P ++ [oB 9 [.ref (P.length + 1), .ref (P.length + 2), .ref (P.length + 3), .int 0], aI 6 (tfs 6), aI 54 (tfl 6), aI 216 (tfe 6)], a + 3, s + 276) _
  refine ev_iload_n i_Tb_init_39 rfl ?_
  refine ev_bipushN (v := 6) i_Tb_init_40 (by decide) ?_
  refine ev_icmp_geN i_Tb_init_42 (by decide) (by decide) (fun _ => ?_) (fun hc => absurd hc (by decide))
  show Ev scr l _ M_Tb_init 80 [some (.ref (P.length + 0)), some (.int (nI 6)), some (.int (nI 15))] [] (P ++ [oB 9 [.ref (P.length + 1), .ref (P.length + 2), .ref (P.length + 3), .int 0], aI 6 (tfs 6), aI 54 (tfl 6), aI 216 (tfe 6)], a + 3, s + 276) _
  exact ev_vret i_Tb_init_80 rfl
theorem ct_Tb_init {scr : Scr} {l : Launch} {d : Nat} {P Q : List ACell} {b a s : Nat} (hb : b = P.length + Q.length) (hl : P.length + Q.length < 976) : MetA scr l (d + 1) M_Tb_init [.ref b] (P ++ (Q ++ [oB 9 [.null, .null, .null, .int 0]]), a, s) (.inl none, (P ++ (Q ++ [oB 9 [.ref (b + 1), .ref (b + 2), .ref (b + 3), .int 0], aI 6 (tfs 6), aI 54 (tfl 6), aI 216 (tfe 6)]), a + 3, s + 276)) := by
  have h := ct0_Tb_init (scr := scr) (l := l) (d := d) (P := P ++ Q) (a := a) (s := s) (hb.trans List.length_append.symm) (by rw [List.length_append]; exact hl)
  rw [List.append_assoc, List.append_assoc] at h
  exact h
theorem ct0_St_init {scr : Scr} {l : Launch} {d : Nat} {P : List ACell} {b a s : Nat} (hb : b = P.length) (hl : P.length < 961) : MetA scr l (d + 2) M_St_init [.ref b] (P ++ [oB 8 [.null, .null, .null, .null]], a, s) (.inl none, (P ++ [oB 8 [.ref (b + 1), .ref (b + 14), .ref (b + 16), .ref (b + 18)], aQ "ParallelRewriting$Table" 3 (va_up (va_up (va_up (fun _ => none) 0 (some (b + 2))) 1 (some (b + 6))) 2 (some (b + 10))), oB 9 [.ref (b + 3), .ref (b + 4), .ref (b + 5), .int 0], aI 6 (tfs 6), aI 54 (tfl 6), aI 216 (tfe 6), oB 9 [.ref (b + 7), .ref (b + 8), .ref (b + 9), .int 0], aI 6 (tfs 6), aI 54 (tfl 6), aI 216 (tfe 6), oB 9 [.ref (b + 11), .ref (b + 12), .ref (b + 13), .int 0], aI 6 (tfs 6), aI 54 (tfl 6), aI 216 (tfe 6), oB 12 [.ref (b + 15), .int 0], aI 60 (fun _ => 0), oB 12 [.ref (b + 17), .int 0], aI 60 (fun _ => 0), aI 6 (fillF (fun _ => 0) 0 (fun _ => nI 0) 6)], a + 18, s + 973)) := by
  subst hb
  refine MetA.of rfl (by decide +kernel) (Nat.le_of_ble_eq_true rfl) ?_
  show Ev scr l _ M_St_init 0 [some (.ref (P.length + 0)), none] [] (P ++ [oB 8 [.null, .null, .null, .null]], a + 0, s + 0) _
  refine ev_aload_n i_St_init_0 rfl ?_
  refine ev_objI i_St_init_1 rfl (Nat.le_of_ble_eq_true rfl) ?_
  refine ev_aload_n i_St_init_4 rfl ?_
  refine ev_iconstN (v := 3) i_St_init_5 (by decide) ?_
  refine ev_newQP (P := P) i_St_init_6 (by decide) (by have := hl; show P.length + _ < 1000; simp only [List.length_cons, List.length_nil]; omega) ?_
  show Ev scr l _ M_St_init 9 [some (.ref (P.length + 0)), none] [.ref (P.length + 1), .ref (P.length + 0)] (P ++ [oB 8 [.null, .null, .null, .null], aQ "ParallelRewriting$Table" 3 (fun _ => none)], a + 1, s + 3) _
  refine ev_putF i_St_init_9 (getP P _ 0) (Nat.le_of_ble_eq_true rfl) rfl rfl ?_
  rw [putP]
  show Ev scr l _ M_St_init 12 [some (.ref (P.length + 0)), none] [] (P ++ [oB 8 [.ref (P.length + 1), .null, .null, .null], aQ "ParallelRewriting$Table" 3 (fun _ => none)], a + 1, s + 3) _
  refine ev_iconstN (v := 0) i_St_init_12 (by decide) ?_
  refine ev_ist_n_1 i_St_init_13 rfl ?_
  refine ev_iload_n i_St_init_14 rfl ?_
  refine ev_iconstN (v := 3) i_St_init_15 (by decide) ?_
  refine ev_icmp_geN i_St_init_16 (by decide) (by decide) (fun hc => absurd hc (by decide)) (fun _ => ?_)
  show Ev scr l _ M_St_init 19 [some (.ref (P.length + 0)), some (.int (nI 0))] [] (P ++ [oB 8 [.ref (P.length + 1), .null, .null, .null], aQ "ParallelRewriting$Table" 3 (fun _ => none)], a + 1, s + 3) _
  refine ev_aload_n i_St_init_19 rfl ?_
  refine ev_get i_St_init_20 (getP P _ 0) rfl ?_
  refine ev_iload_n i_St_init_23 rfl ?_
  refine ev_newP (P := P) i_St_init_24 rfl (by have := hl; show P.length + _ < 1000; simp only [List.length_cons, List.length_nil]; omega) ?_
  show Ev scr l _ M_St_init 27 [some (.ref (P.length + 0)), some (.int (nI 0))] [.ref (P.length + 2), .int (nI 0), .ref (P.length + 1)] (P ++ [oB 8 [.ref (P.length + 1), .null, .null, .null], aQ "ParallelRewriting$Table" 3 (fun _ => none), oB 9 [.null, .null, .null, .int 0]], a + 2, s + 7) _
  refine ev_dup i_St_init_27 rfl ?_
  refine ev_callI0 i_St_init_28 rfl (Nat.le_of_ble_eq_true rfl) (ct_Tb_init (P := P) (Q := [oB 8 [.ref (P.length + 1), .null, .null, .null], aQ "ParallelRewriting$Table" 3 (fun _ => none)]) (b := P.length + 2) rfl (by have := hl; simp only [List.length_cons, List.length_nil]; omega)) ?_
  show Ev scr l _ M_St_init 31 [some (.ref (P.length + 0)), some (.int (nI 0))] [.ref (P.length + 2), .int (nI 0), .ref (P.length + 1)] (P ++ [oB 8 [.ref (P.length + 1), .null, .null, .null], aQ "ParallelRewriting$Table" 3 (fun _ => none), oB 9 [.ref (P.length + 3), .ref (P.length + 4), .ref (P.length + 5), .int 0], aI 6 (tfs 6), aI 54 (tfl 6), aI 216 (tfe 6)], a + 5, s + 283) _
  refine ev_qastN i_St_init_31 (getP P _ 1) (getP P _ 2) rfl (by decide) (by decide) ?_
  rw [putP]
  show Ev scr l _ M_St_init 32 [some (.ref (P.length + 0)), some (.int (nI 0))] [] (P ++ [oB 8 [.ref (P.length + 1), .null, .null, .null], aQ "ParallelRewriting$Table" 3 (va_up (fun _ => none) 0 (some (P.length + 2))), oB 9 [.ref (P.length + 3), .ref (P.length + 4), .ref (P.length + 5), .int 0], aI 6 (tfs 6), aI 54 (tfl 6), aI 216 (tfe 6)], a + 5, s + 283) _
  refine ev_iincN_1 (c := 1) i_St_init_32 (by decide) rfl ?_
  refine ev_goto i_St_init_35 ?_
  show Ev scr l _ M_St_init 14 [some (.ref (P.length + 0)), some (.int (nI 1))] [] (P ++ [oB 8 [.ref (P.length + 1), .null, .null, .null], aQ "ParallelRewriting$Table" 3 (va_up (fun _ => none) 0 (some (P.length + 2))), oB 9 [.ref (P.length + 3), .ref (P.length + 4), .ref (P.length + 5), .int 0], aI 6 (tfs 6), aI 54 (tfl 6), aI 216 (tfe 6)], a + 5, s + 283) _
  refine ev_iload_n i_St_init_14 rfl ?_
  refine ev_iconstN (v := 3) i_St_init_15 (by decide) ?_
  refine ev_icmp_geN i_St_init_16 (by decide) (by decide) (fun hc => absurd hc (by decide)) (fun _ => ?_)
  show Ev scr l _ M_St_init 19 [some (.ref (P.length + 0)), some (.int (nI 1))] [] (P ++ [oB 8 [.ref (P.length + 1), .null, .null, .null], aQ "ParallelRewriting$Table" 3 (va_up (fun _ => none) 0 (some (P.length + 2))), oB 9 [.ref (P.length + 3), .ref (P.length + 4), .ref (P.length + 5), .int 0], aI 6 (tfs 6), aI 54 (tfl 6), aI 216 (tfe 6)], a + 5, s + 283) _
  refine ev_aload_n i_St_init_19 rfl ?_
  refine ev_get i_St_init_20 (getP P _ 0) rfl ?_
  refine ev_iload_n i_St_init_23 rfl ?_
  refine ev_newP (P := P) i_St_init_24 rfl (by have := hl; show P.length + _ < 1000; simp only [List.length_cons, List.length_nil]; omega) ?_
  show Ev scr l _ M_St_init 27 [some (.ref (P.length + 0)), some (.int (nI 1))] [.ref (P.length + 6), .int (nI 1), .ref (P.length + 1)] (P ++ [oB 8 [.ref (P.length + 1), .null, .null, .null], aQ "ParallelRewriting$Table" 3 (va_up (fun _ => none) 0 (some (P.length + 2))), oB 9 [.ref (P.length + 3), .ref (P.length + 4), .ref (P.length + 5), .int 0], aI 6 (tfs 6), aI 54 (tfl 6), aI 216 (tfe 6), oB 9 [.null, .null, .null, .int 0]], a + 6, s + 287) _
  refine ev_dup i_St_init_27 rfl ?_
  refine ev_callI0 i_St_init_28 rfl (Nat.le_of_ble_eq_true rfl) (ct_Tb_init (P := P) (Q := [oB 8 [.ref (P.length + 1), .null, .null, .null], aQ "ParallelRewriting$Table" 3 (va_up (fun _ => none) 0 (some (P.length + 2))), oB 9 [.ref (P.length + 3), .ref (P.length + 4), .ref (P.length + 5), .int 0], aI 6 (tfs 6), aI 54 (tfl 6), aI 216 (tfe 6)]) (b := P.length + 6) rfl (by have := hl; simp only [List.length_cons, List.length_nil]; omega)) ?_
  show Ev scr l _ M_St_init 31 [some (.ref (P.length + 0)), some (.int (nI 1))] [.ref (P.length + 6), .int (nI 1), .ref (P.length + 1)] (P ++ [oB 8 [.ref (P.length + 1), .null, .null, .null], aQ "ParallelRewriting$Table" 3 (va_up (fun _ => none) 0 (some (P.length + 2))), oB 9 [.ref (P.length + 3), .ref (P.length + 4), .ref (P.length + 5), .int 0], aI 6 (tfs 6), aI 54 (tfl 6), aI 216 (tfe 6), oB 9 [.ref (P.length + 7), .ref (P.length + 8), .ref (P.length + 9), .int 0], aI 6 (tfs 6), aI 54 (tfl 6), aI 216 (tfe 6)], a + 9, s + 563) _
  refine ev_qastN i_St_init_31 (getP P _ 1) (getP P _ 6) rfl (by decide) (by decide) ?_
  rw [putP]
  show Ev scr l _ M_St_init 32 [some (.ref (P.length + 0)), some (.int (nI 1))] [] (P ++ [oB 8 [.ref (P.length + 1), .null, .null, .null], aQ "ParallelRewriting$Table" 3 (va_up (va_up (fun _ => none) 0 (some (P.length + 2))) 1 (some (P.length + 6))), oB 9 [.ref (P.length + 3), .ref (P.length + 4), .ref (P.length + 5), .int 0], aI 6 (tfs 6), aI 54 (tfl 6), aI 216 (tfe 6), oB 9 [.ref (P.length + 7), .ref (P.length + 8), .ref (P.length + 9), .int 0], aI 6 (tfs 6), aI 54 (tfl 6), aI 216 (tfe 6)], a + 9, s + 563) _
  refine ev_iincN_1 (c := 1) i_St_init_32 (by decide) rfl ?_
  refine ev_goto i_St_init_35 ?_
  show Ev scr l _ M_St_init 14 [some (.ref (P.length + 0)), some (.int (nI 2))] [] (P ++ [oB 8 [.ref (P.length + 1), .null, .null, .null], aQ "ParallelRewriting$Table" 3 (va_up (va_up (fun _ => none) 0 (some (P.length + 2))) 1 (some (P.length + 6))), oB 9 [.ref (P.length + 3), .ref (P.length + 4), .ref (P.length + 5), .int 0], aI 6 (tfs 6), aI 54 (tfl 6), aI 216 (tfe 6), oB 9 [.ref (P.length + 7), .ref (P.length + 8), .ref (P.length + 9), .int 0], aI 6 (tfs 6), aI 54 (tfl 6), aI 216 (tfe 6)], a + 9, s + 563) _
  refine ev_iload_n i_St_init_14 rfl ?_
  refine ev_iconstN (v := 3) i_St_init_15 (by decide) ?_
  refine ev_icmp_geN i_St_init_16 (by decide) (by decide) (fun hc => absurd hc (by decide)) (fun _ => ?_)
  show Ev scr l _ M_St_init 19 [some (.ref (P.length + 0)), some (.int (nI 2))] [] (P ++ [oB 8 [.ref (P.length + 1), .null, .null, .null], aQ "ParallelRewriting$Table" 3 (va_up (va_up (fun _ => none) 0 (some (P.length + 2))) 1 (some (P.length + 6))), oB 9 [.ref (P.length + 3), .ref (P.length + 4), .ref (P.length + 5), .int 0], aI 6 (tfs 6), aI 54 (tfl 6), aI 216 (tfe 6), oB 9 [.ref (P.length + 7), .ref (P.length + 8), .ref (P.length + 9), .int 0], aI 6 (tfs 6), aI 54 (tfl 6), aI 216 (tfe 6)], a + 9, s + 563) _
  refine ev_aload_n i_St_init_19 rfl ?_
  refine ev_get i_St_init_20 (getP P _ 0) rfl ?_
  refine ev_iload_n i_St_init_23 rfl ?_
  refine ev_newP (P := P) i_St_init_24 rfl (by have := hl; show P.length + _ < 1000; simp only [List.length_cons, List.length_nil]; omega) ?_
  show Ev scr l _ M_St_init 27 [some (.ref (P.length + 0)), some (.int (nI 2))] [.ref (P.length + 10), .int (nI 2), .ref (P.length + 1)] (P ++ [oB 8 [.ref (P.length + 1), .null, .null, .null], aQ "ParallelRewriting$Table" 3 (va_up (va_up (fun _ => none) 0 (some (P.length + 2))) 1 (some (P.length + 6))), oB 9 [.ref (P.length + 3), .ref (P.length + 4), .ref (P.length + 5), .int 0], aI 6 (tfs 6), aI 54 (tfl 6), aI 216 (tfe 6), oB 9 [.ref (P.length + 7), .ref (P.length + 8), .ref (P.length + 9), .int 0], aI 6 (tfs 6), aI 54 (tfl 6), aI 216 (tfe 6), oB 9 [.null, .null, .null, .int 0]], a + 10, s + 567) _
  refine ev_dup i_St_init_27 rfl ?_
  refine ev_callI0 i_St_init_28 rfl (Nat.le_of_ble_eq_true rfl) (ct_Tb_init (P := P) (Q := [oB 8 [.ref (P.length + 1), .null, .null, .null], aQ "ParallelRewriting$Table" 3 (va_up (va_up (fun _ => none) 0 (some (P.length + 2))) 1 (some (P.length + 6))), oB 9 [.ref (P.length + 3), .ref (P.length + 4), .ref (P.length + 5), .int 0], aI 6 (tfs 6), aI 54 (tfl 6), aI 216 (tfe 6), oB 9 [.ref (P.length + 7), .ref (P.length + 8), .ref (P.length + 9), .int 0], aI 6 (tfs 6), aI 54 (tfl 6), aI 216 (tfe 6)]) (b := P.length + 10) rfl (by have := hl; simp only [List.length_cons, List.length_nil]; omega)) ?_
  show Ev scr l _ M_St_init 31 [some (.ref (P.length + 0)), some (.int (nI 2))] [.ref (P.length + 10), .int (nI 2), .ref (P.length + 1)] (P ++ [oB 8 [.ref (P.length + 1), .null, .null, .null], aQ "ParallelRewriting$Table" 3 (va_up (va_up (fun _ => none) 0 (some (P.length + 2))) 1 (some (P.length + 6))), oB 9 [.ref (P.length + 3), .ref (P.length + 4), .ref (P.length + 5), .int 0], aI 6 (tfs 6), aI 54 (tfl 6), aI 216 (tfe 6), oB 9 [.ref (P.length + 7), .ref (P.length + 8), .ref (P.length + 9), .int 0], aI 6 (tfs 6), aI 54 (tfl 6), aI 216 (tfe 6), oB 9 [.ref (P.length + 11), .ref (P.length + 12), .ref (P.length + 13), .int 0], aI 6 (tfs 6), aI 54 (tfl 6), aI 216 (tfe 6)], a + 13, s + 843) _
  refine ev_qastN i_St_init_31 (getP P _ 1) (getP P _ 10) rfl (by decide) (by decide) ?_
  rw [putP]
  show Ev scr l _ M_St_init 32 [some (.ref (P.length + 0)), some (.int (nI 2))] [] (P ++ [oB 8 [.ref (P.length + 1), .null, .null, .null], aQ "ParallelRewriting$Table" 3 (va_up (va_up (va_up (fun _ => none) 0 (some (P.length + 2))) 1 (some (P.length + 6))) 2 (some (P.length + 10))), oB 9 [.ref (P.length + 3), .ref (P.length + 4), .ref (P.length + 5), .int 0], aI 6 (tfs 6), aI 54 (tfl 6), aI 216 (tfe 6), oB 9 [.ref (P.length + 7), .ref (P.length + 8), .ref (P.length + 9), .int 0], aI 6 (tfs 6), aI 54 (tfl 6), aI 216 (tfe 6), oB 9 [.ref (P.length + 11), .ref (P.length + 12), .ref (P.length + 13), .int 0], aI 6 (tfs 6), aI 54 (tfl 6), aI 216 (tfe 6)], a + 13, s + 843) _
  refine ev_iincN_1 (c := 1) i_St_init_32 (by decide) rfl ?_
  refine ev_goto i_St_init_35 ?_
  show Ev scr l _ M_St_init 14 [some (.ref (P.length + 0)), some (.int (nI 3))] [] (P ++ [oB 8 [.ref (P.length + 1), .null, .null, .null], aQ "ParallelRewriting$Table" 3 (va_up (va_up (va_up (fun _ => none) 0 (some (P.length + 2))) 1 (some (P.length + 6))) 2 (some (P.length + 10))), oB 9 [.ref (P.length + 3), .ref (P.length + 4), .ref (P.length + 5), .int 0], aI 6 (tfs 6), aI 54 (tfl 6), aI 216 (tfe 6), oB 9 [.ref (P.length + 7), .ref (P.length + 8), .ref (P.length + 9), .int 0], aI 6 (tfs 6), aI 54 (tfl 6), aI 216 (tfe 6), oB 9 [.ref (P.length + 11), .ref (P.length + 12), .ref (P.length + 13), .int 0], aI 6 (tfs 6), aI 54 (tfl 6), aI 216 (tfe 6)], a + 13, s + 843) _
  refine ev_iload_n i_St_init_14 rfl ?_
  refine ev_iconstN (v := 3) i_St_init_15 (by decide) ?_
  refine ev_icmp_geN i_St_init_16 (by decide) (by decide) (fun _ => ?_) (fun hc => absurd hc (by decide))
  show Ev scr l _ M_St_init 38 [some (.ref (P.length + 0)), some (.int (nI 3))] [] (P ++ [oB 8 [.ref (P.length + 1), .null, .null, .null], aQ "ParallelRewriting$Table" 3 (va_up (va_up (va_up (fun _ => none) 0 (some (P.length + 2))) 1 (some (P.length + 6))) 2 (some (P.length + 10))), oB 9 [.ref (P.length + 3), .ref (P.length + 4), .ref (P.length + 5), .int 0], aI 6 (tfs 6), aI 54 (tfl 6), aI 216 (tfe 6), oB 9 [.ref (P.length + 7), .ref (P.length + 8), .ref (P.length + 9), .int 0], aI 6 (tfs 6), aI 54 (tfl 6), aI 216 (tfe 6), oB 9 [.ref (P.length + 11), .ref (P.length + 12), .ref (P.length + 13), .int 0], aI 6 (tfs 6), aI 54 (tfl 6), aI 216 (tfe 6)], a + 13, s + 843) _
  refine ev_aload_n i_St_init_38 rfl ?_
  refine ev_newP (P := P) i_St_init_39 rfl (by have := hl; show P.length + _ < 1000; simp only [List.length_cons, List.length_nil]; omega) ?_
  show Ev scr l _ M_St_init 42 [some (.ref (P.length + 0)), some (.int (nI 3))] [.ref (P.length + 14), .ref (P.length + 0)] (P ++ [oB 8 [.ref (P.length + 1), .null, .null, .null], aQ "ParallelRewriting$Table" 3 (va_up (va_up (va_up (fun _ => none) 0 (some (P.length + 2))) 1 (some (P.length + 6))) 2 (some (P.length + 10))), oB 9 [.ref (P.length + 3), .ref (P.length + 4), .ref (P.length + 5), .int 0], aI 6 (tfs 6), aI 54 (tfl 6), aI 216 (tfe 6), oB 9 [.ref (P.length + 7), .ref (P.length + 8), .ref (P.length + 9), .int 0], aI 6 (tfs 6), aI 54 (tfl 6), aI 216 (tfe 6), oB 9 [.ref (P.length + 11), .ref (P.length + 12), .ref (P.length + 13), .int 0], aI 6 (tfs 6), aI 54 (tfl 6), aI 216 (tfe 6), oB 12 [.null, .int 0]], a + 14, s + 845) _
  refine ev_dup i_St_init_42 rfl ?_
  refine ev_callI0 i_St_init_43 rfl (Nat.le_of_ble_eq_true rfl) (ct_Wd_init (P := P) (Q := [oB 8 [.ref (P.length + 1), .null, .null, .null], aQ "ParallelRewriting$Table" 3 (va_up (va_up (va_up (fun _ => none) 0 (some (P.length + 2))) 1 (some (P.length + 6))) 2 (some (P.length + 10))), oB 9 [.ref (P.length + 3), .ref (P.length + 4), .ref (P.length + 5), .int 0], aI 6 (tfs 6), aI 54 (tfl 6), aI 216 (tfe 6), oB 9 [.ref (P.length + 7), .ref (P.length + 8), .ref (P.length + 9), .int 0], aI 6 (tfs 6), aI 54 (tfl 6), aI 216 (tfe 6), oB 9 [.ref (P.length + 11), .ref (P.length + 12), .ref (P.length + 13), .int 0], aI 6 (tfs 6), aI 54 (tfl 6), aI 216 (tfe 6)]) (b := P.length + 14) rfl (by have := hl; simp only [List.length_cons, List.length_nil]; omega)) ?_
  show Ev scr l _ M_St_init 46 [some (.ref (P.length + 0)), some (.int (nI 3))] [.ref (P.length + 14), .ref (P.length + 0)] (P ++ [oB 8 [.ref (P.length + 1), .null, .null, .null], aQ "ParallelRewriting$Table" 3 (va_up (va_up (va_up (fun _ => none) 0 (some (P.length + 2))) 1 (some (P.length + 6))) 2 (some (P.length + 10))), oB 9 [.ref (P.length + 3), .ref (P.length + 4), .ref (P.length + 5), .int 0], aI 6 (tfs 6), aI 54 (tfl 6), aI 216 (tfe 6), oB 9 [.ref (P.length + 7), .ref (P.length + 8), .ref (P.length + 9), .int 0], aI 6 (tfs 6), aI 54 (tfl 6), aI 216 (tfe 6), oB 9 [.ref (P.length + 11), .ref (P.length + 12), .ref (P.length + 13), .int 0], aI 6 (tfs 6), aI 54 (tfl 6), aI 216 (tfe 6), oB 12 [.ref (P.length + 15), .int 0], aI 60 (fun _ => 0)], a + 15, s + 905) _
  refine ev_putF i_St_init_46 (getP P _ 0) (Nat.le_of_ble_eq_true rfl) rfl rfl ?_
  rw [putP]
  show Ev scr l _ M_St_init 49 [some (.ref (P.length + 0)), some (.int (nI 3))] [] (P ++ [oB 8 [.ref (P.length + 1), .ref (P.length + 14), .null, .null], aQ "ParallelRewriting$Table" 3 (va_up (va_up (va_up (fun _ => none) 0 (some (P.length + 2))) 1 (some (P.length + 6))) 2 (some (P.length + 10))), oB 9 [.ref (P.length + 3), .ref (P.length + 4), .ref (P.length + 5), .int 0], aI 6 (tfs 6), aI 54 (tfl 6), aI 216 (tfe 6), oB 9 [.ref (P.length + 7), .ref (P.length + 8), .ref (P.length + 9), .int 0], aI 6 (tfs 6), aI 54 (tfl 6), aI 216 (tfe 6), oB 9 [.ref (P.length + 11), .ref (P.length + 12), .ref (P.length + 13), .int 0], aI 6 (tfs 6), aI 54 (tfl 6), aI 216 (tfe 6), oB 12 [.ref (P.length + 15), .int 0], aI 60 (fun _ => 0)], a + 15, s + 905) _
  refine ev_aload_n i_St_init_49 rfl ?_
  refine ev_newP (P := P) i_St_init_50 rfl (by have := hl; show P.length + _ < 1000; simp only [List.length_cons, List.length_nil]; omega) ?_
  show Ev scr l _ M_St_init 53 [some (.ref (P.length + 0)), some (.int (nI 3))] [.ref (P.length + 16), .ref (P.length + 0)] (P ++ [oB 8 [.ref (P.length + 1), .ref (P.length + 14), .null, .null], aQ "ParallelRewriting$Table" 3 (va_up (va_up (va_up (fun _ => none) 0 (some (P.length + 2))) 1 (some (P.length + 6))) 2 (some (P.length + 10))), oB 9 [.ref (P.length + 3), .ref (P.length + 4), .ref (P.length + 5), .int 0], aI 6 (tfs 6), aI 54 (tfl 6), aI 216 (tfe 6), oB 9 [.ref (P.length + 7), .ref (P.length + 8), .ref (P.length + 9), .int 0], aI 6 (tfs 6), aI 54 (tfl 6), aI 216 (tfe 6), oB 9 [.ref (P.length + 11), .ref (P.length + 12), .ref (P.length + 13), .int 0], aI 6 (tfs 6), aI 54 (tfl 6), aI 216 (tfe 6), oB 12 [.ref (P.length + 15), .int 0], aI 60 (fun _ => 0), oB 12 [.null, .int 0]], a + 16, s + 907) _
  refine ev_dup i_St_init_53 rfl ?_
  refine ev_callI0 i_St_init_54 rfl (Nat.le_of_ble_eq_true rfl) (ct_Wd_init (P := P) (Q := [oB 8 [.ref (P.length + 1), .ref (P.length + 14), .null, .null], aQ "ParallelRewriting$Table" 3 (va_up (va_up (va_up (fun _ => none) 0 (some (P.length + 2))) 1 (some (P.length + 6))) 2 (some (P.length + 10))), oB 9 [.ref (P.length + 3), .ref (P.length + 4), .ref (P.length + 5), .int 0], aI 6 (tfs 6), aI 54 (tfl 6), aI 216 (tfe 6), oB 9 [.ref (P.length + 7), .ref (P.length + 8), .ref (P.length + 9), .int 0], aI 6 (tfs 6), aI 54 (tfl 6), aI 216 (tfe 6), oB 9 [.ref (P.length + 11), .ref (P.length + 12), .ref (P.length + 13), .int 0], aI 6 (tfs 6), aI 54 (tfl 6), aI 216 (tfe 6), oB 12 [.ref (P.length + 15), .int 0], aI 60 (fun _ => 0)]) (b := P.length + 16) rfl (by have := hl; simp only [List.length_cons, List.length_nil]; omega)) ?_
  show Ev scr l _ M_St_init 57 [some (.ref (P.length + 0)), some (.int (nI 3))] [.ref (P.length + 16), .ref (P.length + 0)] (P ++ [oB 8 [.ref (P.length + 1), .ref (P.length + 14), .null, .null], aQ "ParallelRewriting$Table" 3 (va_up (va_up (va_up (fun _ => none) 0 (some (P.length + 2))) 1 (some (P.length + 6))) 2 (some (P.length + 10))), oB 9 [.ref (P.length + 3), .ref (P.length + 4), .ref (P.length + 5), .int 0], aI 6 (tfs 6), aI 54 (tfl 6), aI 216 (tfe 6), oB 9 [.ref (P.length + 7), .ref (P.length + 8), .ref (P.length + 9), .int 0], aI 6 (tfs 6), aI 54 (tfl 6), aI 216 (tfe 6), oB 9 [.ref (P.length + 11), .ref (P.length + 12), .ref (P.length + 13), .int 0], aI 6 (tfs 6), aI 54 (tfl 6), aI 216 (tfe 6), oB 12 [.ref (P.length + 15), .int 0], aI 60 (fun _ => 0), oB 12 [.ref (P.length + 17), .int 0], aI 60 (fun _ => 0)], a + 17, s + 967) _
  refine ev_putF i_St_init_57 (getP P _ 0) (Nat.le_of_ble_eq_true rfl) rfl rfl ?_
  rw [putP]
  show Ev scr l _ M_St_init 60 [some (.ref (P.length + 0)), some (.int (nI 3))] [] (P ++ [oB 8 [.ref (P.length + 1), .ref (P.length + 14), .ref (P.length + 16), .null], aQ "ParallelRewriting$Table" 3 (va_up (va_up (va_up (fun _ => none) 0 (some (P.length + 2))) 1 (some (P.length + 6))) 2 (some (P.length + 10))), oB 9 [.ref (P.length + 3), .ref (P.length + 4), .ref (P.length + 5), .int 0], aI 6 (tfs 6), aI 54 (tfl 6), aI 216 (tfe 6), oB 9 [.ref (P.length + 7), .ref (P.length + 8), .ref (P.length + 9), .int 0], aI 6 (tfs 6), aI 54 (tfl 6), aI 216 (tfe 6), oB 9 [.ref (P.length + 11), .ref (P.length + 12), .ref (P.length + 13), .int 0], aI 6 (tfs 6), aI 54 (tfl 6), aI 216 (tfe 6), oB 12 [.ref (P.length + 15), .int 0], aI 60 (fun _ => 0), oB 12 [.ref (P.length + 17), .int 0], aI 60 (fun _ => 0)], a + 17, s + 967) _
  refine ev_aload_n i_St_init_60 rfl ?_
  refine ev_bipushN (v := 6) i_St_init_61 (by decide) ?_
  refine ev_newIP (P := P) i_St_init_63 (by decide) (by have := hl; show P.length + _ < 1000; simp only [List.length_cons, List.length_nil]; omega) ?_
  show Ev scr l _ M_St_init 65 [some (.ref (P.length + 0)), some (.int (nI 3))] [.ref (P.length + 18), .ref (P.length + 0)] (P ++ [oB 8 [.ref (P.length + 1), .ref (P.length + 14), .ref (P.length + 16), .null], aQ "ParallelRewriting$Table" 3 (va_up (va_up (va_up (fun _ => none) 0 (some (P.length + 2))) 1 (some (P.length + 6))) 2 (some (P.length + 10))), oB 9 [.ref (P.length + 3), .ref (P.length + 4), .ref (P.length + 5), .int 0], aI 6 (tfs 6), aI 54 (tfl 6), aI 216 (tfe 6), oB 9 [.ref (P.length + 7), .ref (P.length + 8), .ref (P.length + 9), .int 0], aI 6 (tfs 6), aI 54 (tfl 6), aI 216 (tfe 6), oB 9 [.ref (P.length + 11), .ref (P.length + 12), .ref (P.length + 13), .int 0], aI 6 (tfs 6), aI 54 (tfl 6), aI 216 (tfe 6), oB 12 [.ref (P.length + 15), .int 0], aI 60 (fun _ => 0), oB 12 [.ref (P.length + 17), .int 0], aI 60 (fun _ => 0), aI 6 (fun _ => 0)], a + 18, s + 973) _
  refine ev_putF i_St_init_65 (getP P _ 0) (Nat.le_of_ble_eq_true rfl) rfl rfl ?_
  rw [putP]
  show Ev scr l _ M_St_init 68 [some (.ref (P.length + 0)), some (.int (nI 3))] [] (P ++ [oB 8 [.ref (P.length + 1), .ref (P.length + 14), .ref (P.length + 16), .ref (P.length + 18)], aQ "ParallelRewriting$Table" 3 (va_up (va_up (va_up (fun _ => none) 0 (some (P.length + 2))) 1 (some (P.length + 6))) 2 (some (P.length + 10))), oB 9 [.ref (P.length + 3), .ref (P.length + 4), .ref (P.length + 5), .int 0], aI 6 (tfs 6), aI 54 (tfl 6), aI 216 (tfe 6), oB 9 [.ref (P.length + 7), .ref (P.length + 8), .ref (P.length + 9), .int 0], aI 6 (tfs 6), aI 54 (tfl 6), aI 216 (tfe 6), oB 9 [.ref (P.length + 11), .ref (P.length + 12), .ref (P.length + 13), .int 0], aI 6 (tfs 6), aI 54 (tfl 6), aI 216 (tfe 6), oB 12 [.ref (P.length + 15), .int 0], aI 60 (fun _ => 0), oB 12 [.ref (P.length + 17), .int 0], aI 60 (fun _ => 0), aI 6 (fun _ => 0)], a + 18, s + 973) _
  refine ev_aload_n i_St_init_68 rfl ?_
  refine ev_get i_St_init_69 (getP P _ 0) rfl ?_
  refine ev_iconstN (v := 0) i_St_init_72 (by decide) ?_
  refine ev_callS2 i_St_init_73 rfl (Nat.le_of_ble_eq_true rfl) (c_Ar_fillI (getP P _ 18) (by decide)) ?_
  rw [putP]
  show Ev scr l _ M_St_init 76 [some (.ref (P.length + 0)), some (.int (nI 3))] [] (P ++ [oB 8 [.ref (P.length + 1), .ref (P.length + 14), .ref (P.length + 16), .ref (P.length + 18)], aQ "ParallelRewriting$Table" 3 (va_up (va_up (va_up (fun _ => none) 0 (some (P.length + 2))) 1 (some (P.length + 6))) 2 (some (P.length + 10))), oB 9 [.ref (P.length + 3), .ref (P.length + 4), .ref (P.length + 5), .int 0], aI 6 (tfs 6), aI 54 (tfl 6), aI 216 (tfe 6), oB 9 [.ref (P.length + 7), .ref (P.length + 8), .ref (P.length + 9), .int 0], aI 6 (tfs 6), aI 54 (tfl 6), aI 216 (tfe 6), oB 9 [.ref (P.length + 11), .ref (P.length + 12), .ref (P.length + 13), .int 0], aI 6 (tfs 6), aI 54 (tfl 6), aI 216 (tfe 6), oB 12 [.ref (P.length + 15), .int 0], aI 60 (fun _ => 0), oB 12 [.ref (P.length + 17), .int 0], aI 60 (fun _ => 0), aI 6 (fillF (fun _ => 0) 0 (fun _ => nI 0) 6)], a + 18, s + 973) _
  exact ev_vret i_St_init_76 rfl
theorem ct_St_init {scr : Scr} {l : Launch} {d : Nat} {P Q : List ACell} {b a s : Nat} (hb : b = P.length + Q.length) (hl : P.length + Q.length < 961) : MetA scr l (d + 2) M_St_init [.ref b] (P ++ (Q ++ [oB 8 [.null, .null, .null, .null]]), a, s) (.inl none, (P ++ (Q ++ [oB 8 [.ref (b + 1), .ref (b + 14), .ref (b + 16), .ref (b + 18)], aQ "ParallelRewriting$Table" 3 (va_up (va_up (va_up (fun _ => none) 0 (some (b + 2))) 1 (some (b + 6))) 2 (some (b + 10))), oB 9 [.ref (b + 3), .ref (b + 4), .ref (b + 5), .int 0], aI 6 (tfs 6), aI 54 (tfl 6), aI 216 (tfe 6), oB 9 [.ref (b + 7), .ref (b + 8), .ref (b + 9), .int 0], aI 6 (tfs 6), aI 54 (tfl 6), aI 216 (tfe 6), oB 9 [.ref (b + 11), .ref (b + 12), .ref (b + 13), .int 0], aI 6 (tfs 6), aI 54 (tfl 6), aI 216 (tfe 6), oB 12 [.ref (b + 15), .int 0], aI 60 (fun _ => 0), oB 12 [.ref (b + 17), .int 0], aI 60 (fun _ => 0), aI 6 (fillF (fun _ => 0) 0 (fun _ => nI 0) 6)]), a + 18, s + 973)) := by
  have h := ct0_St_init (scr := scr) (l := l) (d := d) (P := P ++ Q) (a := a) (s := s) (hb.trans List.length_append.symm) (by rw [List.length_append]; exact hl)
  rw [List.append_assoc, List.append_assoc] at h
  exact h

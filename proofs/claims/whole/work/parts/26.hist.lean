/-! History, State -/
theorem ev_eqS {scr : Scr} {l : Launch} {d : Nat} {M : Mth} {pc : Nat} {L : List (Option Value)} {st : List Value} {S S1 : Sto} {r : Res} (h : S1 = S) (k : Ev scr l d M pc L st S1 r) : Ev scr l d M pc L st S r := h ▸ k
/-- the words before the latest steps, oldest first: a ring of eight -/
def HistAt (S : Sto) (ws : List (List Nat)) : Prop := ∃ (o : Nat) (f : Nat → Option Nat) (sl : Nat → List Nat), o < 8 ∧ ws.length ≤ 8 ∧ S.1[41]? = some (oB 5 [.ref 42, .int (nI o), .int (nI ws.length)]) ∧ S.1[42]? = some (aQ "ParallelRewriting$Word" 8 f) ∧ (∀ j, j < 8 → f j = some (43 + 2 * j)) ∧ (∀ j, j < 8 → WordAt S (43 + 2 * j) (44 + 2 * j) (sl j)) ∧ ∀ k, k < ws.length → sl ((o + k) % 8) = ws.getD k []
abbrev hK : List Nat := List.range' 41 18
theorem HistAt.fr {K : List Nat} {S S1 : Sto} {ws : List (List Nat)} (h : HistAt S ws) (hF : Fr K S S1) (hk : ∀ k, k ∈ hK → k ∉ K) : HistAt S1 ws := by
  obtain ⟨o, f, sl, h1, h2, h3, h4, h5, h6, h7⟩ := h
  refine ⟨o, f, sl, h1, h2, hF.at h3 (hk _ (by decide)), hF.at h4 (hk _ (by decide)), h5, fun j hj => (h6 j hj).fr hF ⟨hk _ ?_, hk _ ?_⟩, h7⟩
  · rw [List.mem_range'_1]; omega
  · rw [List.mem_range'_1]; omega
def histPush (ws : List (List Nat)) (xs : List Nat) : List (List Nat) := (if ws.length = 8 then ws.tail else ws) ++ [xs]
theorem h_remember {scr : Scr} {l : Launch} {S : Sto} {w a : Nat} {ws : List (List Nat)} {xs : List Nat} (h : HistAt S ws) (hx : WordAt S w a xs) (hw : w ∉ hK ∧ a ∉ hK) : ∃ S1, (∀ d, MetA scr l (d + 1) M_Hi_remember [.ref 41, .ref w] S (.inl none, S1)) ∧ HistAt S1 (histPush ws xs) ∧ Fr hK S S1 := by
  obtain ⟨o, f, sl, h1, h2, h3, h4, h5, h6, h7⟩ := h
  have hw1 : ¬ (41 ≤ w ∧ w < 59) := fun q => hw.1 (by rw [List.mem_range'_1]; omega)
  have hw2 : ¬ (41 ≤ a ∧ a < 59) := fun q => hw.2 (by rw [List.mem_range'_1]; omega)
  by_cases hfull : ws.length = 8
  · have hj8 : ((o + 1) % 8 + 7) % 8 < 8 := Nat.mod_lt _ (by decide)
    have a3 : (S.put 41 (oB 5 [.ref 42, .int (nI ((o + 1) % 8)), .int (nI ws.length)])).1[41]? = some (oB 5 [.ref 42, .int (nI ((o + 1) % 8)), .int (nI ws.length)]) := put_self h3
    obtain ⟨S1, hS1⟩ : ∃ z, z = ((S.put 41 (oB 5 [.ref 42, .int (nI ((o + 1) % 8)), .int (nI ws.length)])).put 41 (oB 5 [.ref 42, .int (nI ((o + 1) % 8)), .int (nI (ws.length - 1))])) := ⟨_, rfl⟩
    have hf1 : Fr [41] S S1 := by rw [hS1]; exact (Fr.put _ _ (by simp)).tr (Fr.put _ _ (by simp))
    have b3 : S1.1[41]? = some (oB 5 [.ref 42, .int (nI ((o + 1) % 8)), .int (nI (ws.length - 1))]) := by rw [hS1]; exact put_self a3
    have b4 : S1.1[42]? = some (aQ "ParallelRewriting$Word" 8 f) := hf1.at h4 (by decide)
    have b6 : ∀ j, j < 8 → WordAt S1 (43 + 2 * j) (44 + 2 * j) (sl j) := fun j hj => (h6 j hj).fr hf1 ⟨by simp; omega, by simp; omega⟩
    have bx : WordAt S1 w a xs := hx.fr hf1 ⟨by simp; omega, by simp; omega⟩
    have bw := b6 _ hj8
    obtain ⟨S2, m3, w2, f2⟩ := w_copy (scr := scr) (l := l) bw bx
    have c3 : S2.1[41]? = some (oB 5 [.ref 42, .int (nI ((o + 1) % 8)), .int (nI (ws.length - 1))]) := f2.at b3 (by simp; omega)
    have c4 : S2.1[42]? = some (aQ "ParallelRewriting$Word" 8 f) := f2.at b4 (by simp; omega)
    have ej : ((o + 1) % 8 + 7) % 8 = ((o + 1) % 8 + (ws.length - 1)) % 8 := by rw [hfull]
    refine ⟨S2.put 41 (oB 5 [.ref 42, .int (nI ((o + 1) % 8)), .int (nI (ws.length - 1 + 1))]), fun d => ?_, ⟨(o + 1) % 8, f, fun j => if j = ((o + 1) % 8 + 7) % 8 then xs else sl j, Nat.mod_lt _ (by decide), ?_, ?_, put_at c4 (by decide), h5, fun j hj => ?_, fun k hk => ?_⟩, ?_⟩
    · rw [ej] at m3 bw hj8
      refine MetA.of rfl (by decide +kernel) (Nat.le_of_ble_eq_true rfl) ?_
      refine ev_aload_n i_Hi_remember_0 rfl ?_
      refine ev_get i_Hi_remember_1 h3 rfl ?_
      refine ev_bipushN (v := 8) i_Hi_remember_4 (by decide) ?_
      refine ev_icmp_ltN i_Hi_remember_6 (by omega) (by omega) (fun hc_6 => ?_) (fun hc_6 => ?_)
      · skip
        exfalso; omega
      · skip
        refine ev_aload_n i_Hi_remember_9 rfl ?_
        refine ev_aload_n i_Hi_remember_10 rfl ?_
        refine ev_get i_Hi_remember_11 h3 rfl ?_
        refine ev_iconstN (v := 1) i_Hi_remember_14 (by decide) ?_
        first | refine ev_iaddN i_Hi_remember_15 ?_ | refine ev_iadd i_Hi_remember_15 ?_
        refine ev_bipushN (v := 8) i_Hi_remember_16 (by decide) ?_
        refine ev_iremN i_Hi_remember_18 (by omega) (by omega) (by omega) ?_
        refine ev_put i_Hi_remember_19 h3 (Nat.le_of_ble_eq_true rfl) rfl rfl ?_
        refine ev_aload_n i_Hi_remember_22 rfl ?_
        refine ev_dup i_Hi_remember_23 rfl ?_
        refine ev_get i_Hi_remember_24 a3 rfl ?_
        refine ev_iconstN (v := 1) i_Hi_remember_27 (by decide) ?_
        first | refine ev_isubN i_Hi_remember_28 (by omega) ?_ | refine ev_isub i_Hi_remember_28 ?_
        refine ev_put i_Hi_remember_29 a3 (Nat.le_of_ble_eq_true rfl) rfl rfl ?_
        refine ev_eqS hS1 ?_
        refine ev_aload_n i_Hi_remember_32 rfl ?_
        refine ev_get i_Hi_remember_33 b3 rfl ?_
        refine ev_aload_n i_Hi_remember_36 rfl ?_
        refine ev_get i_Hi_remember_37 b3 rfl ?_
        refine ev_aload_n i_Hi_remember_40 rfl ?_
        refine ev_get i_Hi_remember_41 b3 rfl ?_
        first | refine ev_iaddN i_Hi_remember_44 ?_ | refine ev_iadd i_Hi_remember_44 ?_
        refine ev_bipushN (v := 8) i_Hi_remember_45 (by decide) ?_
        refine ev_iremN i_Hi_remember_47 (by omega) (by omega) (by omega) ?_
        refine ev_qaldN i_Hi_remember_48 b4 (by omega) (by decide) (h5 _ hj8) ?_
        refine ev_aload_n i_Hi_remember_49 rfl ?_
        refine ev_callV1 i_Hi_remember_50 rfl (bw.1) (Nat.le_of_ble_eq_true rfl) (m3 _) ?_
        refine ev_aload_n i_Hi_remember_53 rfl ?_
        refine ev_dup i_Hi_remember_54 rfl ?_
        refine ev_get i_Hi_remember_55 c3 rfl ?_
        refine ev_iconstN (v := 1) i_Hi_remember_58 (by decide) ?_
        first | refine ev_iaddN i_Hi_remember_59 ?_ | refine ev_iadd i_Hi_remember_59 ?_
        refine ev_put i_Hi_remember_60 c3 (Nat.le_of_ble_eq_true rfl) rfl rfl ?_
        exact ev_vret i_Hi_remember_63 rfl
    · unfold histPush; rw [if_pos hfull]; simp; omega
    · unfold histPush
      rw [if_pos hfull, List.length_append, List.length_tail]
      exact put_self c3
    · refine WordAt.fr (S := S2) (K := [41]) ?_ (Fr.put (K := [41]) (k := 41) S2 _ (by simp)) ⟨by simp; omega, by simp; omega⟩
      by_cases q : j = ((o + 1) % 8 + 7) % 8
      · simp only [if_pos q]
        rw [q]
        exact w2
      · simp only [if_neg q]
        exact (b6 j hj).fr f2 ⟨by simp; omega, by simp; omega⟩
    · unfold histPush at hk ⊢
      rw [if_pos hfull] at hk ⊢
      rw [List.length_append, List.length_tail, hfull] at hk
      have hk8 : k < 8 := by simpa using hk
      by_cases q : k = 7
      · subst q
        dsimp only
        rw [if_pos rfl]
        simp [List.getD_eq_getElem?_getD, hfull]
      · dsimp only
        rw [if_neg (by omega), show ((o + 1) % 8 + k) % 8 = (o + (k + 1)) % 8 by omega, h7 (k + 1) (by omega)]
        simp only [List.getD_eq_getElem?_getD]
        rw [List.getElem?_append_left (by rw [List.length_tail]; omega), List.getElem?_tail]
    · exact ((hf1.mono (by decide)).tr (f2.mono (fun k hk => by
        simp at hk
        rw [List.mem_range'_1]
        omega))).tr (Fr.put _ _ (by decide))
  · have hj8 : (o + ws.length) % 8 < 8 := Nat.mod_lt _ (by decide)
    have b3 := h3
    have b4 := h4
    have bw := h6 _ hj8
    obtain ⟨S2, m3, w2, f2⟩ := w_copy (scr := scr) (l := l) bw hx
    have c3 : S2.1[41]? = some (oB 5 [.ref 42, .int (nI o), .int (nI ws.length)]) := f2.at b3 (by simp; omega)
    have c4 : S2.1[42]? = some (aQ "ParallelRewriting$Word" 8 f) := f2.at b4 (by simp; omega)
    refine ⟨S2.put 41 (oB 5 [.ref 42, .int (nI o), .int (nI (ws.length + 1))]), fun d => ?_, ⟨o, f, fun j => if j = (o + ws.length) % 8 then xs else sl j, h1, ?_, ?_, put_at c4 (by decide), h5, fun j hj => ?_, fun k hk => ?_⟩, ?_⟩
    · refine MetA.of rfl (by decide +kernel) (Nat.le_of_ble_eq_true rfl) ?_
      refine ev_aload_n i_Hi_remember_0 rfl ?_
      refine ev_get i_Hi_remember_1 h3 rfl ?_
      refine ev_bipushN (v := 8) i_Hi_remember_4 (by decide) ?_
      refine ev_icmp_ltN i_Hi_remember_6 (by omega) (by omega) (fun hc_6 => ?_) (fun hc_6 => ?_)
      · skip
        refine ev_aload_n i_Hi_remember_32 rfl ?_
        refine ev_get i_Hi_remember_33 b3 rfl ?_
        refine ev_aload_n i_Hi_remember_36 rfl ?_
        refine ev_get i_Hi_remember_37 b3 rfl ?_
        refine ev_aload_n i_Hi_remember_40 rfl ?_
        refine ev_get i_Hi_remember_41 b3 rfl ?_
        first | refine ev_iaddN i_Hi_remember_44 ?_ | refine ev_iadd i_Hi_remember_44 ?_
        refine ev_bipushN (v := 8) i_Hi_remember_45 (by decide) ?_
        refine ev_iremN i_Hi_remember_47 (by omega) (by omega) (by omega) ?_
        refine ev_qaldN i_Hi_remember_48 b4 (by omega) (by decide) (h5 _ hj8) ?_
        refine ev_aload_n i_Hi_remember_49 rfl ?_
        refine ev_callV1 i_Hi_remember_50 rfl (bw.1) (Nat.le_of_ble_eq_true rfl) (m3 _) ?_
        refine ev_aload_n i_Hi_remember_53 rfl ?_
        refine ev_dup i_Hi_remember_54 rfl ?_
        refine ev_get i_Hi_remember_55 c3 rfl ?_
        refine ev_iconstN (v := 1) i_Hi_remember_58 (by decide) ?_
        first | refine ev_iaddN i_Hi_remember_59 ?_ | refine ev_iadd i_Hi_remember_59 ?_
        refine ev_put i_Hi_remember_60 c3 (Nat.le_of_ble_eq_true rfl) rfl rfl ?_
        exact ev_vret i_Hi_remember_63 rfl
      · skip
        exfalso; omega
    · unfold histPush; rw [if_neg hfull]; simp; omega
    · unfold histPush
      rw [if_neg hfull, List.length_append]
      exact put_self c3
    · refine WordAt.fr (S := S2) (K := [41]) ?_ (Fr.put (K := [41]) (k := 41) S2 _ (by simp)) ⟨by simp; omega, by simp; omega⟩
      by_cases q : j = (o + ws.length) % 8
      · simp only [if_pos q]
        rw [q]
        exact w2
      · simp only [if_neg q]
        exact (h6 j hj).fr f2 ⟨by simp; omega, by simp; omega⟩
    · unfold histPush at hk ⊢
      rw [if_neg hfull] at hk ⊢
      rw [List.length_append] at hk
      have hk8 : k < ws.length + 1 := by simpa using hk
      by_cases q : k = ws.length
      · subst q
        dsimp only
        rw [if_pos rfl]
        simp [List.getD_eq_getElem?_getD]
      · dsimp only
        rw [if_neg (by omega), h7 k (by omega)]
        simp only [List.getD_eq_getElem?_getD]
        rw [List.getElem?_append_left (by omega)]
    · exact (f2.mono (fun k hk => by
        simp at hk
        rw [List.mem_range'_1]
        omega)).tr (Fr.put _ _ (by decide))
theorem h_takeBack {scr : Scr} {l : Launch} {S : Sto} {w a : Nat} {ws : List (List Nat)} {xs : List Nat} (h : HistAt S ws) (hx : WordAt S w a xs) (hw : w ∉ hK ∧ a ∉ hK) (hne : ws ≠ []) : ∃ S1, (∀ d, MetA scr l (d + 1) M_Hi_takeBack [.ref 41, .ref w] S (.inl (some (.int (nI 1))), S1)) ∧ HistAt S1 ws.dropLast ∧ WordAt S1 w a (ws.getD (ws.length - 1) []) ∧ Fr [41, w, a] S S1 := by
  obtain ⟨o, f, sl, h1, h2, h3, h4, h5, h6, h7⟩ := h
  have hw1 : ¬ (41 ≤ w ∧ w < 59) := fun q => hw.1 (by rw [List.mem_range'_1]; omega)
  have hw2 : ¬ (41 ≤ a ∧ a < 59) := fun q => hw.2 (by rw [List.mem_range'_1]; omega)
  have hl : ws.length ≠ 0 := fun q => hne (List.length_eq_zero_iff.mp q)
  have hj8 : (o + (ws.length - 1)) % 8 < 8 := Nat.mod_lt _ (by decide)
  obtain ⟨S1, hS1⟩ : ∃ z, z = S.put 41 (oB 5 [.ref 42, .int (nI o), .int (nI (ws.length - 1))]) := ⟨_, rfl⟩
  have hf1 : Fr [41] S S1 := by rw [hS1]; exact Fr.put _ _ (by simp)
  have b3 : S1.1[41]? = some (oB 5 [.ref 42, .int (nI o), .int (nI (ws.length - 1))]) := by rw [hS1]; exact put_self h3
  have b4 : S1.1[42]? = some (aQ "ParallelRewriting$Word" 8 f) := hf1.at h4 (by decide)
  have b6 : ∀ j, j < 8 → WordAt S1 (43 + 2 * j) (44 + 2 * j) (sl j) := fun j hj => (h6 j hj).fr hf1 ⟨by simp; omega, by simp; omega⟩
  have bx : WordAt S1 w a xs := hx.fr hf1 ⟨by simp; omega, by simp; omega⟩
  have bw := b6 _ hj8
  obtain ⟨S2, m3, w2, f2⟩ := w_copy (scr := scr) (l := l) bx bw
  have c3 : S2.1[41]? = some (oB 5 [.ref 42, .int (nI o), .int (nI (ws.length - 1))]) := f2.at b3 (by simp; omega)
  have c4 : S2.1[42]? = some (aQ "ParallelRewriting$Word" 8 f) := f2.at b4 (by simp; omega)
  have e7 : sl ((o + (ws.length - 1)) % 8) = ws.getD (ws.length - 1) [] := h7 _ (by omega)
  refine ⟨S2, fun d => ?_, ⟨o, f, sl, h1, by simp; omega, by rw [List.length_dropLast]; exact c3, c4, h5, fun j hj => (b6 j hj).fr f2 ⟨by simp; omega, by simp; omega⟩, fun k hk => ?_⟩, by rw [← e7]; exact w2, ?_⟩
  · refine MetA.of rfl (by decide +kernel) (Nat.le_of_ble_eq_true rfl) ?_
    refine ev_aload_n i_Hi_takeBack_0 rfl ?_
    refine ev_get i_Hi_takeBack_1 h3 rfl ?_
    refine ev_if_neN i_Hi_takeBack_4 (by omega) (fun hc_4 => ?_) (fun hc_4 => ?_)
    · skip
      refine ev_aload_n i_Hi_takeBack_9 rfl ?_
      refine ev_dup i_Hi_takeBack_10 rfl ?_
      refine ev_get i_Hi_takeBack_11 h3 rfl ?_
      refine ev_iconstN (v := 1) i_Hi_takeBack_14 (by decide) ?_
      first | refine ev_isubN i_Hi_takeBack_15 (by omega) ?_ | refine ev_isub i_Hi_takeBack_15 ?_
      refine ev_put i_Hi_takeBack_16 h3 (Nat.le_of_ble_eq_true rfl) rfl rfl ?_
      refine ev_eqS hS1 ?_
      refine ev_aload_n i_Hi_takeBack_19 rfl ?_
      refine ev_aload_n i_Hi_takeBack_20 rfl ?_
      refine ev_get i_Hi_takeBack_21 b3 rfl ?_
      refine ev_aload_n i_Hi_takeBack_24 rfl ?_
      refine ev_get i_Hi_takeBack_25 b3 rfl ?_
      refine ev_aload_n i_Hi_takeBack_28 rfl ?_
      refine ev_get i_Hi_takeBack_29 b3 rfl ?_
      first | refine ev_iaddN i_Hi_takeBack_32 ?_ | refine ev_iadd i_Hi_takeBack_32 ?_
      refine ev_bipushN (v := 8) i_Hi_takeBack_33 (by decide) ?_
      refine ev_iremN i_Hi_takeBack_35 (by omega) (by omega) (by omega) ?_
      refine ev_qaldN i_Hi_takeBack_36 b4 (by omega) (by decide) (h5 _ hj8) ?_
      refine ev_callV1 i_Hi_takeBack_37 rfl bx.1 (Nat.le_of_ble_eq_true rfl) (m3 _) ?_
      refine ev_iconstN (v := 1) i_Hi_takeBack_40 (by decide) ?_
      exact ev_iret i_Hi_takeBack_41 rfl (by first | rfl | decide)
    · skip
      exfalso; omega
  · rw [List.length_dropLast] at hk
    rw [h7 k (by omega)]
    simp only [List.getD_eq_getElem?_getD]
    rw [List.getElem?_dropLast, if_pos hk]
  · exact (hf1.mono (by simp)).tr (f2.mono (by simp))
theorem h_takeBack_no {scr : Scr} {l : Launch} {S : Sto} {w d : Nat} (h : HistAt S []) : MetA scr l (d + 1) M_Hi_takeBack [.ref 41, .ref w] S (.inl (some (.int (nI 0))), S) := by
  obtain ⟨o, f, sl, h1, h2, h3, h4, h5, h6, h7⟩ := h
  have h3 : S.1[41]? = some (oB 5 [.ref 42, .int (nI o), .int (nI 0)]) := h3
  refine MetA.of rfl (by decide +kernel) (Nat.le_of_ble_eq_true rfl) ?_
  refine ev_aload_n i_Hi_takeBack_0 rfl ?_
  refine ev_get i_Hi_takeBack_1 h3 rfl ?_
  refine ev_if_neN i_Hi_takeBack_4 (by omega) (fun hc_4 => ?_) (fun hc_4 => ?_)
  · skip
    exfalso; omega
  · skip
    refine ev_iconstN (v := 0) i_Hi_takeBack_7 (by decide) ?_
    exact ev_iret i_Hi_takeBack_8 rfl (by first | rfl | decide)
theorem h_forget {scr : Scr} {l : Launch} {S : Sto} {ws : List (List Nat)} (h : HistAt S ws) : ∃ S1, (∀ d, MetA scr l d M_Hi_forget [.ref 41] S (.inl none, S1)) ∧ HistAt S1 [] ∧ Fr [41] S S1 := by
  obtain ⟨o, f, sl, h1, h2, h3, h4, h5, h6, h7⟩ := h
  have hf1 : Fr [41] S (S.put 41 (oB 5 [.ref 42, .int (nI o), .int (nI 0)])) := Fr.put _ _ (by simp)
  refine ⟨S.put 41 (oB 5 [.ref 42, .int (nI o), .int (nI 0)]), fun d => ?_, ⟨o, f, sl, h1, by simp, put_self h3, hf1.at h4 (by decide), h5, fun j hj => (h6 j hj).fr hf1 ⟨by simp; omega, by simp; omega⟩, fun k hk => by simp at hk⟩, hf1⟩
  refine MetA.of rfl (by decide +kernel) (Nat.le_of_ble_eq_true rfl) ?_
  refine ev_aload_n i_Hi_forget_0 rfl ?_
  refine ev_iconstN (v := 0) i_Hi_forget_1 (by decide) ?_
  refine ev_put i_Hi_forget_2 h3 (Nat.le_of_ble_eq_true rfl) rfl rfl ?_
  exact ev_vret i_Hi_forget_5 rfl

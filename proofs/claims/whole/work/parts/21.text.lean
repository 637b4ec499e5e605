/-! Text, Table -/
theorem nar_char {c : Nat} (h : c < 65536) : vp_nar .char (nI c) = nI c := by
  rw [vp_nar_char]
  apply Int32.toInt_inj.mp
  rw [nI_toInt (by omega)]
  have e1 : (nI c).toUInt32 = UInt32.ofNat c := rfl
  rw [e1]
  have e2 : (UInt32.ofNat c).toUInt16.toUInt32 = UInt32.ofNat c := by
    apply UInt32.toNat_inj.mp
    rw [UInt16.toNat_toUInt32, UInt32.toNat_toUInt16, UInt32.toNat_ofNat_of_lt' (by show c < 4294967296; omega)]
    omega
  rw [e2]
  exact nI_toInt (by omega)
/-- a text: c gives its characters -/
def TextIs (S : Sto) (t a n : Nat) (c : Nat → Nat) : Prop := S.1[t]? = some (oB 10 [.ref a, .int (nI n)]) ∧ n ≤ 60 ∧ ∃ f, S.1[a]? = some (aC 60 f) ∧ ∀ j, j < n → f j = nI (c j) ∧ c j < 65536
theorem nI_inj {a b : Nat} (ha : a < 2 ^ 31) (hb : b < 2 ^ 31) (h : nI a = nI b) : a = b := (nI_eq_iff ha hb).mp h
theorem c_Tx_append_ok {scr : Scr} {l : Launch} {S : Sto} {t a n : Nat} {c : Nat → Nat} {x : Nat} (hT : TextIs S t a n c) (hn0 : n < 60) (hx : x < 65536) : ∃ S1, (∀ d, MetA scr l d M_Tx_append [.ref t, .int (nI x)] S (.inl (some (.int (nI 1))), S1)) ∧ TextIs S1 t a (n + 1) (fun j => if j = n then x else c j) ∧ Fr [t, a] S S1 := by
  obtain ⟨ht, hn, f, ha, hf⟩ := hT
  have hne : a ≠ t := cell_ne ha ht (by intro h; cases h)
  refine ⟨(S.put a (aC 60 (upd f n (vp_nar .char (nI x))))).put t (oB 10 [.ref a, .int (nI (n + 1))]), fun d => ?_, ⟨put_self (put_at ht hne), by omega, upd f n (nI x), ?_, fun j hj => ?_⟩, (Fr.put _ _ (by simp)).tr (Fr.put _ _ (by simp))⟩
  · refine MetA.of rfl (by decide +kernel) (Nat.le_of_ble_eq_true rfl) ?_
    refine ev_aload_n i_Tx_append_0 rfl ?_
    refine ev_get i_Tx_append_1 (by first | assumption | exact put_at ht hne) rfl ?_
    refine ev_aload_n i_Tx_append_4 rfl ?_
    refine ev_get i_Tx_append_5 (by first | assumption | exact put_at ht hne) rfl ?_
    refine ev_alenN i_Tx_append_8 (by first | assumption | exact put_at ht hne) ?_
    first | refine ev_icmp_ltN i_Tx_append_9 (by omega) (by omega) (fun hc_9 => ?_) (fun hc_9 => ?_) | refine ev_icmp_lt i_Tx_append_9 (fun hc_9 => ?_) (fun hc_9 => ?_)
    · skip
      refine ev_aload_n i_Tx_append_14 rfl ?_
      refine ev_get i_Tx_append_15 (by first | assumption | exact put_at ht hne) rfl ?_
      refine ev_aload_n i_Tx_append_18 rfl ?_
      refine ev_get i_Tx_append_19 (by first | assumption | exact put_at ht hne) rfl ?_
      refine ev_iload_n i_Tx_append_22 rfl ?_
      refine ev_castN i_Tx_append_23 ha (by omega) (by decide) ?_
      refine ev_aload_n i_Tx_append_24 rfl ?_
      refine ev_dup i_Tx_append_25 rfl ?_
      refine ev_get i_Tx_append_26 (by first | assumption | exact put_at ht hne) rfl ?_
      refine ev_iconstN (v := 1) i_Tx_append_29 (by decide) ?_
      first | refine ev_iaddN i_Tx_append_30 ?_ | refine ev_iadd i_Tx_append_30 ?_
      refine ev_put i_Tx_append_31 (by first | assumption | exact put_at ht hne) (Nat.le_of_ble_eq_true rfl) rfl rfl ?_
      refine ev_iconstN (v := 1) i_Tx_append_34 (by decide) ?_
      exact ev_iret i_Tx_append_35 rfl (by first | rfl | decide)
    · skip
      exfalso; omega
  · rw [nar_char hx]
    exact put_at (put_self ha) hne.symm
  · unfold upd
    by_cases hq : j = n
    · simp only [if_pos hq]
      exact ⟨trivial, hx⟩
    · simp only [if_neg hq]
      exact hf j (by omega)
theorem c_Tx_append_no {scr : Scr} {l : Launch} {d : Nat} {S : Sto} {t a n : Nat} {c : Nat → Nat} {x : Nat} (hT : TextIs S t a n c) (hn0 : n = 60) : MetA scr l d M_Tx_append [.ref t, .int (nI x)] S (.inl (some (.int (nI 0))), S) := by
  obtain ⟨ht, hn, f, ha, hf⟩ := hT
  refine MetA.of rfl (by decide +kernel) (Nat.le_of_ble_eq_true rfl) ?_
  refine ev_aload_n i_Tx_append_0 rfl ?_
  refine ev_get i_Tx_append_1 (by first | assumption) rfl ?_
  refine ev_aload_n i_Tx_append_4 rfl ?_
  refine ev_get i_Tx_append_5 (by first | assumption) rfl ?_
  refine ev_alenN i_Tx_append_8 (by first | assumption) ?_
  first | refine ev_icmp_ltN i_Tx_append_9 (by omega) (by omega) (fun hc_9 => ?_) (fun hc_9 => ?_) | refine ev_icmp_lt i_Tx_append_9 (fun hc_9 => ?_) (fun hc_9 => ?_)
  · skip
    exfalso; omega
  · skip
    refine ev_iconstN (v := 0) i_Tx_append_12 (by decide) ?_
    exact ev_iret i_Tx_append_13 rfl (by first | rfl | decide)
theorem lp_Tx_hasOnlyLetters {scr : Scr} {l : Launch} {d : Nat} {S : Sto} {t a n : Nat} {c : Nat → Nat} {f : Nat → Int32} (ht : S.1[t]? = some (oB 10 [.ref a, .int (nI n)])) (hn : n ≤ 60) (ha : S.1[a]? = some (aC 60 f)) (hf : ∀ j, j < n → f j = nI (c j) ∧ c j < 65536) : ∀ (k i : Nat), i + k = n → (∀ j, j < i → 97 ≤ c j ∧ c j < 103) → Ev scr l d M_Tx_hasOnlyLetters 2 [some (.ref t), some (.int (nI i))] [] S (.inl (some (.int (nI (if ∀ j, j < n → 97 ≤ c j ∧ c j < 103 then 1 else 0)))), S) := by
  intro k
  induction k with
  | zero =>
    intro i hi hag
    have hi : i = n := by omega
    subst hi
    refine ev_iload_n i_Tx_hasOnlyLetters_2 rfl ?_
    refine ev_aload_n i_Tx_hasOnlyLetters_3 rfl ?_
    refine ev_get i_Tx_hasOnlyLetters_4 (by first | assumption) rfl ?_
    refine ev_icmp_geN i_Tx_hasOnlyLetters_7 (by omega) (by omega) (fun hc_7 => ?_) (fun hc_7 => ?_)
    · skip
      rw [if_pos hag]
      refine ev_iconstN (v := 1) i_Tx_hasOnlyLetters_40 (by decide) ?_
      exact ev_iret i_Tx_hasOnlyLetters_41 rfl (by decide)
    · skip
      exfalso; omega
  | succ k ih =>
    intro i hi hag
    refine ev_iload_n i_Tx_hasOnlyLetters_2 rfl ?_
    refine ev_aload_n i_Tx_hasOnlyLetters_3 rfl ?_
    refine ev_get i_Tx_hasOnlyLetters_4 (by first | assumption) rfl ?_
    refine ev_icmp_geN i_Tx_hasOnlyLetters_7 (by omega) (by omega) (fun hc_7 => ?_) (fun hc_7 => ?_)
    · skip
      exfalso; omega
    · skip
      refine ev_aload_n i_Tx_hasOnlyLetters_10 rfl ?_
      refine ev_get i_Tx_hasOnlyLetters_11 (by first | assumption) rfl ?_
      refine ev_iload_n i_Tx_hasOnlyLetters_14 rfl ?_
      refine ev_caldN i_Tx_hasOnlyLetters_15 ha (by omega) (by decide) ?_
      rw [(hf i (by omega)).1]
      have hci := (hf i (by omega)).2
      refine ev_bipushN (v := 97) i_Tx_hasOnlyLetters_16 (by decide) ?_
      refine ev_icmp_ltN i_Tx_hasOnlyLetters_18 (by omega) (by omega) (fun hc_18 => ?_) (fun hc_18 => ?_)
      · skip
        rw [if_neg (fun q => absurd (q i (by omega)).1 (by omega))]
        refine ev_iconstN (v := 0) i_Tx_hasOnlyLetters_32 (by decide) ?_
        exact ev_iret i_Tx_hasOnlyLetters_33 rfl (by decide)
      · skip
        refine ev_aload_n i_Tx_hasOnlyLetters_21 rfl ?_
        refine ev_get i_Tx_hasOnlyLetters_22 (by first | assumption) rfl ?_
        refine ev_iload_n i_Tx_hasOnlyLetters_25 rfl ?_
        refine ev_caldN i_Tx_hasOnlyLetters_26 ha (by omega) (by decide) ?_
        rw [(hf i (by omega)).1]
        have hci := (hf i (by omega)).2
        refine ev_bipushN (v := 103) i_Tx_hasOnlyLetters_27 (by decide) ?_
        refine ev_icmp_ltN i_Tx_hasOnlyLetters_29 (by omega) (by omega) (fun hc_29 => ?_) (fun hc_29 => ?_)
        · skip
          refine ev_iincN (c := 1) i_Tx_hasOnlyLetters_34 (by decide) rfl ?_
          refine ev_goto i_Tx_hasOnlyLetters_37 ?_
          exact ih (i + 1) (by omega) (fun j hj => by
            rcases Nat.lt_succ_iff_lt_or_eq.mp hj with q | q
            · exact hag j q
            · rw [q]; exact ⟨by omega, hc_29⟩)
        · skip
          rw [if_neg (fun q => absurd (q i (by omega)).2 (by omega))]
          refine ev_iconstN (v := 0) i_Tx_hasOnlyLetters_32 (by decide) ?_
          exact ev_iret i_Tx_hasOnlyLetters_33 rfl (by decide)
theorem c_Tx_hasOnlyLetters {scr : Scr} {l : Launch} {d : Nat} {S : Sto} {t a n : Nat} {c : Nat → Nat} (hT : TextIs S t a n c) : MetA scr l d M_Tx_hasOnlyLetters [.ref t] S (.inl (some (.int (nI (if ∀ j, j < n → 97 ≤ c j ∧ c j < 103 then 1 else 0)))), S) := by
  obtain ⟨ht, hn, f, ha, hf⟩ := hT
  refine MetA.of rfl (by decide +kernel) (Nat.le_of_ble_eq_true rfl) ?_
  refine ev_iconstN (v := 0) i_Tx_hasOnlyLetters_0 (by decide) ?_
  refine ev_istore_n i_Tx_hasOnlyLetters_1 (Nat.le_of_ble_eq_true rfl) ?_
  exact lp_Tx_hasOnlyLetters ht hn ha hf n 0 (by omega) (fun j hj => by omega)
theorem c_Tx_letterAt {scr : Scr} {l : Launch} {d : Nat} {S : Sto} {t a n : Nat} {c : Nat → Nat} {i : Nat} (hT : TextIs S t a n c) (hi : i < n) (h97 : 97 ≤ c i) : MetA scr l d M_Tx_letterAt [.ref t, .int (nI i)] S (.inl (some (.int (nI (c i - 97)))), S) := by
  obtain ⟨ht, hn, f, ha, hf⟩ := hT
  refine MetA.of rfl (by decide +kernel) (Nat.le_of_ble_eq_true rfl) ?_
  refine ev_aload_n i_Tx_letterAt_0 rfl ?_
  refine ev_get i_Tx_letterAt_1 (by first | assumption) rfl ?_
  refine ev_iload_n i_Tx_letterAt_4 rfl ?_
  refine ev_caldN i_Tx_letterAt_5 ha (by omega) (by decide) ?_
  rw [(hf i (by omega)).1]
  refine ev_bipushN (v := 97) i_Tx_letterAt_6 (by decide) ?_
  first | refine ev_isubN i_Tx_letterAt_8 (by omega) ?_ | refine ev_isub i_Tx_letterAt_8 ?_
  exact ev_iret i_Tx_letterAt_9 rfl (by first | rfl | decide)
theorem c_Tb_listSlot {scr : Scr} {l : Launch} {d : Nat} {S : Sto} {x y : Nat} : MetA scr l d M_Tb_listSlot [.int (nI x), .int (nI y)] S (.inl (some (.int (nI (x * 3 + y)))), S) := by
  refine MetA.of rfl (by decide +kernel) (Nat.le_of_ble_eq_true rfl) ?_
  refine ev_iload_n i_Tb_listSlot_0 rfl ?_
  refine ev_iconstN (v := 3) i_Tb_listSlot_1 (by decide) ?_
  first | refine ev_imulN i_Tb_listSlot_2 ?_ | refine ev_imul i_Tb_listSlot_2 ?_
  refine ev_iload_n i_Tb_listSlot_3 rfl ?_
  first | refine ev_iaddN i_Tb_listSlot_4 ?_ | refine ev_iadd i_Tb_listSlot_4 ?_
  exact ev_iret i_Tb_listSlot_5 rfl (by first | rfl | decide)
theorem c_Tb_ruleSlot {scr : Scr} {l : Launch} {d : Nat} {S : Sto} {x y : Nat} : MetA scr l d M_Tb_ruleSlot [.int (nI x), .int (nI y)] S (.inl (some (.int (nI (18 + x * 6 + y)))), S) := by
  refine MetA.of rfl (by decide +kernel) (Nat.le_of_ble_eq_true rfl) ?_
  refine ev_bipushN (v := 18) i_Tb_ruleSlot_0 (by decide) ?_
  refine ev_iload_n i_Tb_ruleSlot_2 rfl ?_
  refine ev_bipushN (v := 6) i_Tb_ruleSlot_3 (by decide) ?_
  first | refine ev_imulN i_Tb_ruleSlot_5 ?_ | refine ev_imul i_Tb_ruleSlot_5 ?_
  first | refine ev_iaddN i_Tb_ruleSlot_6 ?_ | refine ev_iadd i_Tb_ruleSlot_6 ?_
  refine ev_iload_n i_Tb_ruleSlot_7 rfl ?_
  first | refine ev_iaddN i_Tb_ruleSlot_8 ?_ | refine ev_iadd i_Tb_ruleSlot_8 ?_
  exact ev_iret i_Tb_ruleSlot_9 rfl (by first | rfl | decide)
/-- a table: sizes of the lists, lengths and letters of the slots, number of rules -/
def TabIs (S : Sto) (t ls ln le rc : Nat) (fs fl fe : Nat → Int32) : Prop := S.1[t]? = some (oB 9 [.ref ls, .ref ln, .ref le, .int (nI rc)]) ∧ S.1[ls]? = some (aI 6 fs) ∧ S.1[ln]? = some (aI 54 fl) ∧ S.1[le]? = some (aI 216 fe)
theorem TabIs.ne {S : Sto} {t ls ln le rc : Nat} {fs fl fe : Nat → Int32} (h : TabIs S t ls ln le rc fs fl fe) : (ls ≠ t ∧ ln ≠ t ∧ le ≠ t) ∧ ls ≠ ln ∧ ls ≠ le ∧ ln ≠ le :=
  ⟨⟨cell_ne h.2.1 h.1 (by simp), cell_ne h.2.2.1 h.1 (by simp), cell_ne h.2.2.2 h.1 (by simp)⟩, cell_ne h.2.1 h.2.2.1 (by simp), cell_ne h.2.1 h.2.2.2 (by simp), cell_ne h.2.2.1 h.2.2.2 (by simp)⟩
theorem TabIs.fr {K : List Nat} {S S1 : Sto} {t ls ln le rc : Nat} {fs fl fe : Nat → Int32} (h : TabIs S t ls ln le rc fs fl fe) (hF : Fr K S S1) (hk : t ∉ K ∧ ls ∉ K ∧ ln ∉ K ∧ le ∉ K) : TabIs S1 t ls ln le rc fs fl fe := ⟨hF.at h.1 hk.1, hF.at h.2.1 hk.2.1, hF.at h.2.2.1 hk.2.2.1, hF.at h.2.2.2 hk.2.2.2⟩
theorem c_Tb_letterOf {scr : Scr} {l : Launch} {d : Nat} {S : Sto} {t ls ln le rc : Nat} {fs fl fe : Nat → Int32} {s i : Nat} (hT : TabIs S t ls ln le rc fs fl fe) (hs : s < 54) (hi : i < 4) : MetA scr l d M_Tb_letterOf [.ref t, .int (nI s), .int (nI i)] S (.inl (some (.int (fe (s * 4 + i)))), S) := by
  obtain ⟨ht, hls, hln, hle⟩ := hT
  refine MetA.of rfl (by decide +kernel) (Nat.le_of_ble_eq_true rfl) ?_
  refine ev_aload_n i_Tb_letterOf_0 rfl ?_
  refine ev_get i_Tb_letterOf_1 (by first | assumption) rfl ?_
  refine ev_iload_n i_Tb_letterOf_4 rfl ?_
  refine ev_iconstN (v := 4) i_Tb_letterOf_5 (by decide) ?_
  first | refine ev_imulN i_Tb_letterOf_6 ?_ | refine ev_imul i_Tb_letterOf_6 ?_
  refine ev_iload_n i_Tb_letterOf_7 rfl ?_
  first | refine ev_iaddN i_Tb_letterOf_8 ?_ | refine ev_iadd i_Tb_letterOf_8 ?_
  refine ev_ialdN i_Tb_letterOf_9 (by first | assumption) (by omega) (by decide) ?_
  exact ev_iret i_Tb_letterOf_10 rfl (by first | rfl | decide)
theorem c_Tb_hasRule {scr : Scr} {l : Launch} {d : Nat} {S : Sto} {t ls ln le rc : Nat} {fs fl fe : Nat → Int32} {x y : Nat} (hT : TabIs S t ls ln le rc fs fl fe) (hx : x < 6) (hy : y < 6) : MetA scr l (d + 1) M_Tb_hasRule [.ref t, .int (nI x), .int (nI y)] S (.inl (some (.int (nI (if fl (18 + x * 6 + y) = -1 then 0 else 1)))), S) := by
  obtain ⟨ht, hls, hln, hle⟩ := hT
  refine MetA.of rfl (by decide +kernel) (Nat.le_of_ble_eq_true rfl) ?_
  refine ev_aload_n i_Tb_hasRule_0 rfl ?_
  refine ev_get i_Tb_hasRule_1 (by first | assumption) rfl ?_
  refine ev_iload_n i_Tb_hasRule_4 rfl ?_
  refine ev_iload_n i_Tb_hasRule_5 rfl ?_
  refine ev_callS2 i_Tb_hasRule_6 rfl (Nat.le_of_ble_eq_true rfl) c_Tb_ruleSlot ?_
  refine ev_ialdN i_Tb_hasRule_9 (by first | assumption) (by omega) (by decide) ?_
  refine ev_iconst (v := -1) i_Tb_hasRule_10 (by decide) ?_
  refine ev_icmp_eq i_Tb_hasRule_11 (fun hc_11 => ?_) (fun hc_11 => ?_)
  · skip
    rw [if_pos hc_11]
    refine ev_iconstN (v := 0) i_Tb_hasRule_18 (by decide) ?_
    exact ev_iret i_Tb_hasRule_19 rfl (by decide)
  · skip
    rw [if_neg hc_11]
    refine ev_iconstN (v := 1) i_Tb_hasRule_14 (by decide) ?_
    refine ev_goto i_Tb_hasRule_15 ?_
    exact ev_iret i_Tb_hasRule_19 rfl (by decide)
def detP (fs : Nat → Int32) : Bool := (List.range 6).all fun j => decide (fs j = nI 1)
theorem detP_iff {fs : Nat → Int32} : detP fs = true ↔ ∀ j, j < 6 → fs j = nI 1 := by
  unfold detP
  rw [List.all_eq_true]
  exact ⟨fun h j hj => of_decide_eq_true (h j (List.mem_range.mpr hj)), fun h j hj => decide_eq_true (h j (List.mem_range.mp hj))⟩
theorem lp_Tb_leavesNoChoice {scr : Scr} {l : Launch} {d : Nat} {S : Sto} {t ls ln le rc : Nat} {fs : Nat → Int32} (ht : S.1[t]? = some (oB 9 [.ref ls, .ref ln, .ref le, .int (nI rc)])) (hls : S.1[ls]? = some (aI 6 fs)) : ∀ (k i : Nat), i + k = 6 → (∀ j, j < i → fs j = nI 1) → Ev scr l d M_Tb_leavesNoChoice 2 [some (.ref t), some (.int (nI i))] [] S (.inl (some (.int (nI (if detP fs = true then 1 else 0)))), S) := by
  intro k
  induction k with
  | zero =>
    intro i hi hag
    have hi : i = 6 := by omega
    subst hi
    refine ev_iload_n i_Tb_leavesNoChoice_2 rfl ?_
    refine ev_bipushN (v := 6) i_Tb_leavesNoChoice_3 (by decide) ?_
    refine ev_icmp_geN i_Tb_leavesNoChoice_5 (by omega) (by omega) (fun hc_5 => ?_) (fun hc_5 => ?_)
    · skip
      rw [if_pos (detP_iff.mpr hag)]
      refine ev_iconstN (v := 1) i_Tb_leavesNoChoice_26 (by decide) ?_
      exact ev_iret i_Tb_leavesNoChoice_27 rfl (by decide)
    · skip
      exfalso; omega
  | succ k ih =>
    intro i hi hag
    refine ev_iload_n i_Tb_leavesNoChoice_2 rfl ?_
    refine ev_bipushN (v := 6) i_Tb_leavesNoChoice_3 (by decide) ?_
    refine ev_icmp_geN i_Tb_leavesNoChoice_5 (by omega) (by omega) (fun hc_5 => ?_) (fun hc_5 => ?_)
    · skip
      exfalso; omega
    · skip
      refine ev_aload_n i_Tb_leavesNoChoice_8 rfl ?_
      refine ev_get i_Tb_leavesNoChoice_9 (by first | assumption) rfl ?_
      refine ev_iload_n i_Tb_leavesNoChoice_12 rfl ?_
      refine ev_ialdN i_Tb_leavesNoChoice_13 (by first | assumption) (by omega) (by decide) ?_
      refine ev_iconstN (v := 1) i_Tb_leavesNoChoice_14 (by decide) ?_
      refine ev_icmp_eq i_Tb_leavesNoChoice_15 (fun hc_15 => ?_) (fun hc_15 => ?_)
      · skip
        refine ev_iincN (c := 1) i_Tb_leavesNoChoice_20 (by decide) rfl ?_
        refine ev_goto i_Tb_leavesNoChoice_23 ?_
        exact ih (i + 1) (by omega) (fun j hj => by
          rcases Nat.lt_succ_iff_lt_or_eq.mp hj with q | q
          · exact hag j q
          · rw [q]; exact hc_15)
      · skip
        rw [if_neg (fun q => hc_15 (detP_iff.mp q i (by omega)))]
        refine ev_iconstN (v := 0) i_Tb_leavesNoChoice_18 (by decide) ?_
        exact ev_iret i_Tb_leavesNoChoice_19 rfl (by decide)
theorem c_Tb_leavesNoChoice {scr : Scr} {l : Launch} {d : Nat} {S : Sto} {t ls ln le rc : Nat} {fs fl fe : Nat → Int32} (hT : TabIs S t ls ln le rc fs fl fe) : MetA scr l d M_Tb_leavesNoChoice [.ref t] S (.inl (some (.int (nI (if detP fs = true then 1 else 0)))), S) := by
  obtain ⟨ht, hls, hln, hle⟩ := hT
  refine MetA.of rfl (by decide +kernel) (Nat.le_of_ble_eq_true rfl) ?_
  refine ev_iconstN (v := 0) i_Tb_leavesNoChoice_0 (by decide) ?_
  refine ev_istore_n i_Tb_leavesNoChoice_1 (Nat.le_of_ble_eq_true rfl) ?_
  exact lp_Tb_leavesNoChoice ht hls 6 0 (by omega) (fun j hj => by omega)

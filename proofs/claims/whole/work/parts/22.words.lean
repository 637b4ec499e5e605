/-! words as lists; what Table does -/
/-- the word xs: its object w, its letters a -/
def WordAt (S : Sto) (w a : Nat) (xs : List Nat) : Prop := S.1[w]? = some (oB 12 [.ref a, .int (nI xs.length)]) ∧ xs.length ≤ 60 ∧ (∀ j, j < xs.length → xs.getD j 0 < 6) ∧ ∃ f, S.1[a]? = some (aI 60 f) ∧ ∀ j, j < xs.length → f j = nI (xs.getD j 0)
theorem WordAt.fr {K : List Nat} {S S1 : Sto} {w a : Nat} {xs : List Nat} (h : WordAt S w a xs) (hF : Fr K S S1) (hk : w ∉ K ∧ a ∉ K) : WordAt S1 w a xs := by
  obtain ⟨h1, h2, h3, f, h4, h5⟩ := h
  exact ⟨hF.at h1 hk.1, h2, h3, f, hF.at h4 hk.2, h5⟩
theorem WordAt.ne {S : Sto} {w a : Nat} {xs : List Nat} (h : WordAt S w a xs) : a ≠ w := by
  obtain ⟨h1, h2, h3, f, h4, h5⟩ := h
  exact cell_ne h4 h1 (by simp)
/-- letters and objects of words are never one -/
theorem WordAt.ne2 {S : Sto} {w a v b : Nat} {xs ys : List Nat} (h : WordAt S w a xs) (h' : WordAt S v b ys) : a ≠ v := by
  obtain ⟨h1, h2, h3, f, h4, h5⟩ := h
  exact cell_ne h4 h'.1 (by simp)
theorem getD_app {xs : List Nat} {x j : Nat} : (xs ++ [x]).getD j 0 = if j = xs.length then x else xs.getD j 0 := by
  simp only [List.getD_eq_getElem?_getD]
  by_cases h : j = xs.length
  · subst h
    simp
  · rw [if_neg h]
    by_cases h2 : j < xs.length
    · rw [List.getElem?_append_left h2]
    · rw [List.getElem?_append_right (by omega), List.getElem?_eq_none (by simp; omega), List.getElem?_eq_none (by omega)]
theorem w_append {scr : Scr} {l : Launch} {S : Sto} {w a x : Nat} {xs : List Nat} (h : WordAt S w a xs) (hx : x < 6) (hl : xs.length < 60) : ∃ S1, (∀ d, MetA scr l d M_Wd_append [.ref w, .int (nI x)] S (.inl (some (.int (nI 1))), S1)) ∧ WordAt S1 w a (xs ++ [x]) ∧ Fr [w, a] S S1 := by
  have hne := h.ne
  obtain ⟨h1, h2, h3, f, h4, h5⟩ := h
  refine ⟨_, fun d => c_Wd_append_ok h1 h4 hl, ⟨?_, ?_, ?_, upd f xs.length (nI x), ?_, ?_⟩, (Fr.put _ _ (by simp)).tr (Fr.put _ _ (by simp))⟩
  · rw [List.length_append]
    exact put_self (put_at h1 hne)
  · simp; omega
  · intro j hj
    rw [getD_app]
    split
    · exact hx
    · exact h3 j (by simp at hj; omega)
  · exact put_at (put_self h4) hne.symm
  · intro j hj
    rw [getD_app]
    unfold upd
    split
    · rfl
    · exact h5 j (by simp at hj; omega)
theorem w_append_no {scr : Scr} {l : Launch} {S : Sto} {w a x : Nat} {xs : List Nat} {d : Nat} (h : WordAt S w a xs) (hl : xs.length = 60) : MetA scr l d M_Wd_append [.ref w, .int (nI x)] S (.inl (some (.int (nI 0))), S) := by
  obtain ⟨h1, h2, h3, f, h4, h5⟩ := h
  exact c_Wd_append_no h1 h4 hl
theorem w_copy {scr : Scr} {l : Launch} {S : Sto} {w a v b : Nat} {xs ys : List Nat} (h : WordAt S w a xs) (h' : WordAt S v b ys) : ∃ S1, (∀ d, MetA scr l d M_Wd_copy [.ref w, .ref v] S (.inl none, S1)) ∧ WordAt S1 w a ys ∧ Fr [w, a] S S1 := by
  have hne := h.ne
  obtain ⟨h1, h2, h3, f, h4, h5⟩ := h
  obtain ⟨g1, g2, g3, g, g4, g5⟩ := h'
  refine ⟨_, fun d => c_Wd_copy h1 h4 g1 g4 g2, ⟨put_self (put_at h1 hne), g2, g3, fillF f 0 g ys.length, put_at (put_self h4) hne.symm, fun j hj => ?_⟩, (Fr.put _ _ (by simp)).tr (Fr.put _ _ (by simp))⟩
  unfold fillF
  rw [if_pos (by omega), Nat.sub_zero]
  exact g5 j hj
theorem list_ext {xs ys : List Nat} (hl : xs.length = ys.length) (h : ∀ j, j < xs.length → xs.getD j 0 = ys.getD j 0) : xs = ys := by
  apply List.ext_getElem hl
  intro j h1 h2
  have := h j h1
  simpa [List.getD_eq_getElem?_getD, h1, h2] using this
theorem w_same {scr : Scr} {l : Launch} {S : Sto} {w a v b d : Nat} {xs ys : List Nat} (h : WordAt S w a xs) (h' : WordAt S v b ys) : MetA scr l (d + 2) M_Wd_sameAs [.ref w, .ref v] S (.inl (some (.int (nI (if xs = ys then 1 else 0)))), S) := by
  obtain ⟨h1, h2, h3, f, h4, h5⟩ := h
  obtain ⟨g1, g2, g3, g, g4, g5⟩ := h'
  have hc := c_Wd_sameAs (scr := scr) (l := l) (d := d) h1 h4 g1 g4 h2 g2
  by_cases hq : xs = ys
  · subst hq
    rw [if_pos ⟨rfl, fun j hj => by rw [h5 j hj, g5 j hj]⟩] at hc
    rw [if_pos rfl]
    exact hc
  · have hno : ¬ (xs.length = ys.length ∧ ∀ j, j < xs.length → f j = g j) := fun q => hq (list_ext q.1 (fun j hj => nI_inj (Nat.lt_trans (h3 j hj) (by decide)) (Nat.lt_trans (g3 j (by omega)) (by decide)) (by rw [← h5 j hj, ← g5 j (by omega)]; exact q.2 j hj)))
    rw [if_neg hno] at hc
    rw [if_neg hq]
    exact hc
/-- one begins with the other -/
def agrW (xs ys : List Nat) : Prop := ∀ j, j < min xs.length ys.length → xs.getD j 0 = ys.getD j 0
theorem w_agrees {scr : Scr} {l : Launch} {S : Sto} {w a v b d : Nat} {xs ys : List Nat} (h : WordAt S w a xs) (h' : WordAt S v b ys) : (agrW xs ys → MetA scr l (d + 1) M_Wd_agreesWith [.ref w, .ref v] S (.inl (some (.int (nI 1))), S)) ∧ (¬ agrW xs ys → MetA scr l (d + 1) M_Wd_agreesWith [.ref w, .ref v] S (.inl (some (.int (nI 0))), S)) := by
  obtain ⟨h1, h2, h3, f, h4, h5⟩ := h
  obtain ⟨g1, g2, g3, g, g4, g5⟩ := h'
  have hc := c_Wd_agreesWith (scr := scr) (l := l) (d := d) h1 h4 g1 g4 h2 g2
  have hiff : (∀ j, j < min xs.length ys.length → f j = g j) ↔ agrW xs ys := by
    constructor
    · intro q j hj
      have := q j hj
      rw [h5 j (by omega), g5 j (by omega)] at this
      exact nI_inj (Nat.lt_trans (h3 j (by omega)) (by decide)) (Nat.lt_trans (g3 j (by omega)) (by decide)) this
    · intro q j hj
      rw [h5 j (by omega), g5 j (by omega), q j hj]
  constructor
  · intro q
    rw [if_pos (hiff.mpr q)] at hc
    exact hc
  · intro q
    rw [if_neg (fun z => q (hiff.mp z))] at hc
    exact hc
/-- the text cs -/
def TextAt (S : Sto) (t a : Nat) (cs : List Nat) : Prop := TextIs S t a cs.length (fun j => cs.getD j 0) ∧ ∀ j, j < cs.length → 32 ≤ cs.getD j 0 ∧ cs.getD j 0 ≤ 126
theorem TextIs.fr {K : List Nat} {S S1 : Sto} {t a n : Nat} {c : Nat → Nat} (h : TextIs S t a n c) (hF : Fr K S S1) (hk : t ∉ K ∧ a ∉ K) : TextIs S1 t a n c := by
  obtain ⟨h1, h2, f, h3, h4⟩ := h
  exact ⟨hF.at h1 hk.1, h2, f, hF.at h3 hk.2, h4⟩
theorem TextAt.fr {K : List Nat} {S S1 : Sto} {t a : Nat} {cs : List Nat} (h : TextAt S t a cs) (hF : Fr K S S1) (hk : t ∉ K ∧ a ∉ K) : TextAt S1 t a cs := ⟨h.1.fr hF hk, h.2⟩
/-- the text is a word -/
def isW (cs : List Nat) : Prop := ∀ j, j < cs.length → 97 ≤ cs.getD j 0 ∧ cs.getD j 0 < 103
/-- its letters -/
def wOf (cs : List Nat) : List Nat := cs.map (fun c => c - 97)
theorem wOf_len (cs : List Nat) : (wOf cs).length = cs.length := List.length_map _
theorem wOf_get {cs : List Nat} {j : Nat} (h : j < cs.length) : (wOf cs).getD j 0 = cs.getD j 0 - 97 := by
  unfold wOf
  simp [List.getD_eq_getElem?_getD, h]
theorem take_get {xs : List Nat} {i j : Nat} (h : j < i) : (xs.take i).getD j 0 = xs.getD j 0 := by
  simp [List.getD_eq_getElem?_getD, List.getElem?_take, h]
theorem take_succ {xs : List Nat} {i : Nat} (h : i < xs.length) : xs.take (i + 1) = xs.take i ++ [xs.getD i 0] := by
  rw [List.take_succ]
  simp [List.getD_eq_getElem?_getD, h]
theorem lp_Wd_read {scr : Scr} {l : Launch} {S : Sto} {w a t b : Nat} {cs : List Nat} (hT : TextAt S t b cs) (hlet : isW cs) (hd1 : t ∉ [w, a] ∧ b ∉ [w, a]) : ∀ (k i : Nat), i + k = cs.length → ∀ S2, WordAt S2 w a ((wOf cs).take i) → Fr [w, a] S S2 → ∃ S3, (∀ d, Ev scr l (d + 1) M_Wd_read 7 [some (.ref w), some (.ref t), some (.int (nI i))] [] S2 (.inl none, S3)) ∧ WordAt S3 w a (wOf cs) ∧ Fr [w, a] S S3 := by
  intro k
  induction k with
  | zero =>
    intro i hi S2 hw hF
    have hi : i = cs.length := by omega
    subst hi
    have hT2 := hT.1.fr hF hd1
    have hl60 := hT2.2.1
    rw [List.take_of_length_le (by rw [wOf_len]; omega)] at hw
    refine ⟨S2, fun d => ?_, hw, hF⟩
    refine ev_iload_n i_Wd_read_7 rfl ?_
    refine ev_aload_n i_Wd_read_8 rfl ?_
    refine ev_get i_Wd_read_9 hT2.1 rfl ?_
    refine ev_icmp_geN i_Wd_read_12 (by omega) (by omega) (fun hc_12 => ?_) (fun hc_12 => ?_)
    · skip
      exact ev_vret i_Wd_read_31 rfl
    · skip
      exfalso; omega
  | succ k ih =>
    intro i hi S2 hw hF
    have hT2 := hT.1.fr hF hd1
    have hl60 := hT2.2.1
    have hi6 : cs.getD i 0 - 97 < 6 := by have := hlet i (by omega); omega
    obtain ⟨S3, m3, w3, f3⟩ := w_append (scr := scr) (l := l) (x := cs.getD i 0 - 97) hw hi6 (by rw [List.length_take, wOf_len]; omega)
    obtain ⟨S4, e4, w4, f4⟩ := ih (i + 1) (by omega) S3 (by rw [take_succ (by rw [wOf_len]; omega), wOf_get (by omega)]; exact w3) (hF.tr f3)
    refine ⟨S4, fun d => ?_, w4, f4⟩
    refine ev_iload_n i_Wd_read_7 rfl ?_
    refine ev_aload_n i_Wd_read_8 rfl ?_
    refine ev_get i_Wd_read_9 (by first | exact hT2.1 | exact hw.1) rfl ?_
    refine ev_icmp_geN i_Wd_read_12 (by omega) (by omega) (fun hc_12 => ?_) (fun hc_12 => ?_)
    · skip
      exfalso; omega
    · skip
      refine ev_aload_n i_Wd_read_15 rfl ?_
      refine ev_aload_n i_Wd_read_16 rfl ?_
      refine ev_iload_n i_Wd_read_17 rfl ?_
      refine ev_callV1 i_Wd_read_18 rfl (by first | exact hT2.1 | exact hw.1) (Nat.le_of_ble_eq_true rfl) (c_Tx_letterAt hT2 (by omega) (hlet i (by omega)).1) ?_
      refine ev_callV1 i_Wd_read_21 rfl (by first | exact hT2.1 | exact hw.1) (Nat.le_of_ble_eq_true rfl) (m3 _) ?_
      refine ev_pop i_Wd_read_24 rfl ?_
      refine ev_iincN (c := 1) i_Wd_read_25 (by decide) rfl ?_
      refine ev_goto i_Wd_read_28 ?_
      exact e4 d
theorem w_read {scr : Scr} {l : Launch} {S : Sto} {w a t b : Nat} {xs cs : List Nat} (h : WordAt S w a xs) (hT : TextAt S t b cs) (hlet : isW cs) (hd1 : t ∉ [w, a] ∧ b ∉ [w, a]) : ∃ S1, (∀ d, MetA scr l (d + 1) M_Wd_read [.ref w, .ref t] S (.inl none, S1)) ∧ WordAt S1 w a (wOf cs) ∧ Fr [w, a] S S1 := by
  have hne := h.ne
  obtain ⟨h1, h2, h3, f, h4, h5⟩ := h
  obtain ⟨S4, e4, w4, f4⟩ := lp_Wd_read (scr := scr) (l := l) hT hlet hd1 cs.length 0 (by omega) (S.put w (oB 12 [.ref a, .int (nI 0)])) ⟨put_self h1, by simp, by simp, f, put_at h4 hne.symm, by simp⟩ (Fr.put _ _ (by simp))
  refine ⟨S4, fun d => ?_, w4, f4⟩
  refine MetA.of rfl (by decide +kernel) (Nat.le_of_ble_eq_true rfl) ?_
  refine ev_aload_n i_Wd_read_0 rfl ?_
  refine ev_iconstN (v := 0) i_Wd_read_1 (by decide) ?_
  refine ev_put i_Wd_read_2 h1 (Nat.le_of_ble_eq_true rfl) rfl rfl ?_
  refine ev_iconstN (v := 0) i_Wd_read_5 (by decide) ?_
  refine ev_istore_n i_Wd_read_6 (Nat.le_of_ble_eq_true rfl) ?_
  exact e4 d

/-! Math, Arrays, Word, Text -/
/-- f, but h (j - b) from b on, for i places -/
def fillF {α : Type} (f : Nat → α) (b : Nat) (h : Nat → α) (i : Nat) : Nat → α := fun j => if b ≤ j ∧ j < b + i then h (j - b) else f j
theorem fillF_0 {α : Type} (f : Nat → α) (b : Nat) (h : Nat → α) : fillF f b h 0 = f := by
  funext j
  unfold fillF
  rw [if_neg (by omega)]
theorem fillF_s (f : Nat → Int32) (b : Nat) (h : Nat → Int32) (i : Nat) : upd (fillF f b h i) (b + i) (h i) = fillF f b h (i + 1) := by
  funext j
  unfold upd fillF
  by_cases h1 : j = b + i
  · subst h1
    rw [if_pos rfl, if_pos (by omega), Nat.add_sub_cancel_left]
  · rw [if_neg h1]
    by_cases h2 : b ≤ j ∧ j < b + i
    · rw [if_pos h2, if_pos (by omega)]
    · rw [if_neg h2, if_neg (by omega)]
theorem fillF_sL (f : Nat → Int64) (b : Nat) (h : Nat → Int64) (i : Nat) : vp_updL (fillF f b h i) (b + i) (h i) = fillF f b h (i + 1) := by
  funext j
  unfold vp_updL fillF
  by_cases h1 : j = b + i
  · subst h1
    rw [if_pos rfl, if_pos (by omega), Nat.add_sub_cancel_left]
  · rw [if_neg h1]
    by_cases h2 : b ≤ j ∧ j < b + i
    · rw [if_pos h2, if_pos (by omega)]
    · rw [if_neg h2, if_neg (by omega)]
theorem put_put {S : Sto} {k : Nat} {c c' : ACell} : (S.put k c).put k c' = S.put k c' := by
  show ((S.1.set k c).set k c', S.2) = (S.1.set k c', S.2)
  rw [List.set_set]
theorem put_same {S : Sto} {k : Nat} {c : ACell} (h : S.1[k]? = some c) : S.put k c = S := by
  have : S.1.set k c = S.1 := by
    apply List.ext_getElem?
    intro j
    by_cases hj : k = j
    · subst hj
      rw [List.getElem?_set_self (List.getElem?_eq_some_iff.mp h).1, h]
    · rw [List.getElem?_set_ne hj]
  show (S.1.set k c, S.2) = S
  rw [this]
theorem c_Ma_minI {scr : Scr} {l : Launch} {d : Nat} {S : Sto} {a b : Nat} (ha : a < 2 ^ 31) (hb : b < 2 ^ 31) : MetA scr l d M_Ma_minI [.int (nI a), .int (nI b)] S (.inl (some (.int (nI (min a b)))), S) := by
  refine MetA.ofF rfl (by decide +kernel) (Nat.le_of_ble_eq_true rfl) ?_
  refine ev_iload_n i_Ma_minI_0 rfl ?_
  refine ev_iload_n i_Ma_minI_1 rfl ?_
  refine ev_icmp_gtN i_Ma_minI_2 (by omega) (by omega) (fun hc_2 => ?_) (fun hc_2 => ?_)
  · skip
    have e : min a b = b := by omega
    rw [e]
    refine ev_iload_n i_Ma_minI_9 rfl ?_
    exact ev_iret i_Ma_minI_10 rfl rfl
  · skip
    have e : min a b = a := by omega
    rw [e]
    refine ev_iload_n i_Ma_minI_5 rfl ?_
    refine ev_goto i_Ma_minI_6 ?_
    exact ev_iret i_Ma_minI_10 rfl rfl
theorem c_Ma_maxI {scr : Scr} {l : Launch} {d : Nat} {S : Sto} {a b : Nat} (ha : a < 2 ^ 31) (hb : b < 2 ^ 31) : MetA scr l d M_Ma_maxI [.int (nI a), .int (nI b)] S (.inl (some (.int (nI (max a b)))), S) := by
  refine MetA.ofF rfl (by decide +kernel) (Nat.le_of_ble_eq_true rfl) ?_
  refine ev_iload_n i_Ma_maxI_0 rfl ?_
  refine ev_iload_n i_Ma_maxI_1 rfl ?_
  refine ev_icmp_ltN i_Ma_maxI_2 (by omega) (by omega) (fun hc_2 => ?_) (fun hc_2 => ?_)
  · skip
    have e : max a b = b := by omega
    rw [e]
    refine ev_iload_n i_Ma_maxI_9 rfl ?_
    exact ev_iret i_Ma_maxI_10 rfl rfl
  · skip
    have e : max a b = a := by omega
    rw [e]
    refine ev_iload_n i_Ma_maxI_5 rfl ?_
    refine ev_goto i_Ma_maxI_6 ?_
    exact ev_iret i_Ma_maxI_10 rfl rfl
theorem lp_Ar_fillI {scr : Scr} {l : Launch} {d : Nat} {S : Sto} {a n : Nat} {f : Nat → Int32} {x : Int32} (ha : S.1[a]? = some (aI n f)) (hn : n < 2 ^ 31) : ∀ (k i : Nat), i + k = n → Ev scr l d M_Ar_fillI 5 [some (.ref a), some (.int x), some (.int (nI i)), some (.int (nI n))] [] (S.put a (aI n (fillF f 0 (fun _ => x) i))) (.inl none, S.put a (aI n (fillF f 0 (fun _ => x) n))) := by
  intro k
  induction k with
  | zero =>
    intro i hi
    have hi : i = n := by omega
    subst hi
    refine ev_iload_n i_Ar_fillI_5 rfl ?_
    refine ev_iload_n i_Ar_fillI_6 rfl ?_
    refine ev_icmp_geN i_Ar_fillI_7 (by omega) (by omega) (fun hc_7 => ?_) (fun hc_7 => ?_)
    · skip
      exact ev_vret i_Ar_fillI_20 rfl
    · skip
      exfalso; omega
  | succ k ih =>
    intro i hi
    refine ev_iload_n i_Ar_fillI_5 rfl ?_
    refine ev_iload_n i_Ar_fillI_6 rfl ?_
    refine ev_icmp_geN i_Ar_fillI_7 (by omega) (by omega) (fun hc_7 => ?_) (fun hc_7 => ?_)
    · skip
      exfalso; omega
    · skip
      refine ev_aload_n i_Ar_fillI_10 rfl ?_
      refine ev_iload_n i_Ar_fillI_11 rfl ?_
      refine ev_iload_n i_Ar_fillI_12 rfl ?_
      refine ev_iastN i_Ar_fillI_13 (put_self ha) (by omega) hn ?_
      refine ev_iincN (c := 1) i_Ar_fillI_14 (by decide) rfl ?_
      refine ev_goto i_Ar_fillI_17 ?_
      have e := fillF_s f 0 (fun _ => x) i
      rw [Nat.zero_add] at e
      rw [put_put, e]
      exact ih (i + 1) (by omega)
theorem c_Ar_fillI {scr : Scr} {l : Launch} {d : Nat} {S : Sto} {a n : Nat} {f : Nat → Int32} {x : Int32} (ha : S.1[a]? = some (aI n f)) (hn : n < 2 ^ 31) : MetA scr l d M_Ar_fillI [.ref a, .int x] S (.inl none, S.put a (aI n (fillF f 0 (fun _ => x) n))) := by
  refine MetA.of rfl (by decide +kernel) (Nat.le_of_ble_eq_true rfl) ?_
  refine ev_iconstN (v := 0) i_Ar_fillI_0 (by decide) ?_
  refine ev_istore_n i_Ar_fillI_1 (Nat.le_of_ble_eq_true rfl) ?_
  refine ev_aload_n i_Ar_fillI_2 rfl ?_
  refine ev_alenN i_Ar_fillI_3 ha ?_
  refine ev_istore_n i_Ar_fillI_4 (Nat.le_of_ble_eq_true rfl) ?_
  have h := lp_Ar_fillI (scr := scr) (l := l) (d := d) (x := x) ha hn n 0 (by omega)
  rw [fillF_0, put_same ha] at h
  exact h
theorem lp_Ar_fillJ {scr : Scr} {l : Launch} {d : Nat} {S : Sto} {a n : Nat} {f : Nat → Int64} {x : Int64} (ha : S.1[a]? = some (aJ n f)) (hn : n < 2 ^ 31) : ∀ (k i : Nat), i + k = n → Ev scr l d M_Ar_fillJ 6 [some (.ref a), some (.long x), none, some (.int (nI i)), some (.int (nI n))] [] (S.put a (aJ n (fillF f 0 (fun _ => x) i))) (.inl none, S.put a (aJ n (fillF f 0 (fun _ => x) n))) := by
  intro k
  induction k with
  | zero =>
    intro i hi
    have hi : i = n := by omega
    subst hi
    refine ev_iload_n i_Ar_fillJ_6 rfl ?_
    refine ev_iload i_Ar_fillJ_7 rfl ?_
    refine ev_icmp_geN i_Ar_fillJ_9 (by omega) (by omega) (fun hc_9 => ?_) (fun hc_9 => ?_)
    · skip
      exact ev_vret i_Ar_fillJ_22 rfl
    · skip
      exfalso; omega
  | succ k ih =>
    intro i hi
    refine ev_iload_n i_Ar_fillJ_6 rfl ?_
    refine ev_iload i_Ar_fillJ_7 rfl ?_
    refine ev_icmp_geN i_Ar_fillJ_9 (by omega) (by omega) (fun hc_9 => ?_) (fun hc_9 => ?_)
    · skip
      exfalso; omega
    · skip
      refine ev_aload_n i_Ar_fillJ_12 rfl ?_
      refine ev_iload_n i_Ar_fillJ_13 rfl ?_
      refine ev_lload_n i_Ar_fillJ_14 rfl ?_
      refine ev_lastN i_Ar_fillJ_15 (put_self ha) (by omega) hn ?_
      refine ev_iincN (c := 1) i_Ar_fillJ_16 (by decide) rfl ?_
      refine ev_goto i_Ar_fillJ_19 ?_
      have e := fillF_sL f 0 (fun _ => x) i
      rw [Nat.zero_add] at e
      rw [put_put, e]
      exact ih (i + 1) (by omega)
theorem c_Ar_fillJ {scr : Scr} {l : Launch} {d : Nat} {S : Sto} {a n : Nat} {f : Nat → Int64} {x : Int64} (ha : S.1[a]? = some (aJ n f)) (hn : n < 2 ^ 31) : MetA scr l d M_Ar_fillJ [.ref a, .long x] S (.inl none, S.put a (aJ n (fillF f 0 (fun _ => x) n))) := by
  refine MetA.of rfl (by decide +kernel) (Nat.le_of_ble_eq_true rfl) ?_
  refine ev_iconstN (v := 0) i_Ar_fillJ_0 (by decide) ?_
  refine ev_istore_n i_Ar_fillJ_1 (Nat.le_of_ble_eq_true rfl) ?_
  refine ev_aload_n i_Ar_fillJ_2 rfl ?_
  refine ev_alenN i_Ar_fillJ_3 ha ?_
  refine ev_istore i_Ar_fillJ_4 (Nat.le_of_ble_eq_true rfl) ?_
  have h := lp_Ar_fillJ (scr := scr) (l := l) (d := d) (x := x) ha hn n 0 (by omega)
  rw [fillF_0, put_same ha] at h
  exact h
theorem c_Wd_append_ok {scr : Scr} {l : Launch} {d : Nat} {S : Sto} {w a n : Nat} {f : Nat → Int32} {x : Int32} (hw : S.1[w]? = some (oB 12 [.ref a, .int (nI n)])) (ha : S.1[a]? = some (aI 60 f)) (hn : n < 60) : MetA scr l d M_Wd_append [.ref w, .int x] S (.inl (some (.int (nI 1))), (S.put a (aI 60 (upd f n x))).put w (oB 12 [.ref a, .int (nI (n + 1))])) := by
  refine MetA.of rfl (by decide +kernel) (Nat.le_of_ble_eq_true rfl) ?_
  refine ev_aload_n i_Wd_append_0 rfl ?_
  refine ev_get i_Wd_append_1 (by first | assumption | exact put_at hw (cell_ne ha hw (by intro h; cases h))) rfl ?_
  refine ev_aload_n i_Wd_append_4 rfl ?_
  refine ev_get i_Wd_append_5 (by first | assumption | exact put_at hw (cell_ne ha hw (by intro h; cases h))) rfl ?_
  refine ev_alenN i_Wd_append_8 (by first | assumption | exact put_at hw (cell_ne ha hw (by intro h; cases h))) ?_
  first | refine ev_icmp_ltN i_Wd_append_9 (by omega) (by omega) (fun hc_9 => ?_) (fun hc_9 => ?_) | refine ev_icmp_lt i_Wd_append_9 (fun hc_9 => ?_) (fun hc_9 => ?_)
  · skip
    refine ev_aload_n i_Wd_append_14 rfl ?_
    refine ev_get i_Wd_append_15 (by first | assumption | exact put_at hw (cell_ne ha hw (by intro h; cases h))) rfl ?_
    refine ev_aload_n i_Wd_append_18 rfl ?_
    refine ev_get i_Wd_append_19 (by first | assumption | exact put_at hw (cell_ne ha hw (by intro h; cases h))) rfl ?_
    refine ev_iload_n i_Wd_append_22 rfl ?_
    refine ev_iastN i_Wd_append_23 (by first | assumption | exact put_at hw (cell_ne ha hw (by intro h; cases h))) (by omega) (by decide) ?_
    refine ev_aload_n i_Wd_append_24 rfl ?_
    refine ev_dup i_Wd_append_25 rfl ?_
    refine ev_get i_Wd_append_26 (by first | assumption | exact put_at hw (cell_ne ha hw (by intro h; cases h))) rfl ?_
    refine ev_iconstN (v := 1) i_Wd_append_29 (by decide) ?_
    first | refine ev_iaddN i_Wd_append_30 ?_ | refine ev_iadd i_Wd_append_30 ?_
    refine ev_put i_Wd_append_31 (by first | assumption | exact put_at hw (cell_ne ha hw (by intro h; cases h))) (Nat.le_of_ble_eq_true rfl) rfl rfl ?_
    refine ev_iconstN (v := 1) i_Wd_append_34 (by decide) ?_
    exact ev_iret i_Wd_append_35 rfl (by first | rfl | decide)
  · skip
    exfalso; omega
theorem c_Wd_append_no {scr : Scr} {l : Launch} {d : Nat} {S : Sto} {w a n : Nat} {f : Nat → Int32} {x : Int32} (hw : S.1[w]? = some (oB 12 [.ref a, .int (nI n)])) (ha : S.1[a]? = some (aI 60 f)) (hn : n = 60) : MetA scr l d M_Wd_append [.ref w, .int x] S (.inl (some (.int (nI 0))), S) := by
  refine MetA.of rfl (by decide +kernel) (Nat.le_of_ble_eq_true rfl) ?_
  refine ev_aload_n i_Wd_append_0 rfl ?_
  refine ev_get i_Wd_append_1 (by first | assumption | exact put_at hw (cell_ne ha hw (by intro h; cases h))) rfl ?_
  refine ev_aload_n i_Wd_append_4 rfl ?_
  refine ev_get i_Wd_append_5 (by first | assumption | exact put_at hw (cell_ne ha hw (by intro h; cases h))) rfl ?_
  refine ev_alenN i_Wd_append_8 (by first | assumption | exact put_at hw (cell_ne ha hw (by intro h; cases h))) ?_
  first | refine ev_icmp_ltN i_Wd_append_9 (by omega) (by omega) (fun hc_9 => ?_) (fun hc_9 => ?_) | refine ev_icmp_lt i_Wd_append_9 (fun hc_9 => ?_) (fun hc_9 => ?_)
  · skip
    exfalso; omega
  · skip
    refine ev_iconstN (v := 0) i_Wd_append_12 (by decide) ?_
    exact ev_iret i_Wd_append_13 rfl (by first | rfl | decide)
theorem c_Wd_copy {scr : Scr} {l : Launch} {d : Nat} {S : Sto} {w a n v b m : Nat} {f g : Nat → Int32} (hw : S.1[w]? = some (oB 12 [.ref a, .int (nI n)])) (ha : S.1[a]? = some (aI 60 f)) (hv : S.1[v]? = some (oB 12 [.ref b, .int (nI m)])) (hb : S.1[b]? = some (aI 60 g)) (hm : m ≤ 60) : MetA scr l d M_Wd_copy [.ref w, .ref v] S (.inl none, (S.put a (aI 60 (fillF f 0 g m))).put w (oB 12 [.ref a, .int (nI m)])) := by
  refine MetA.of rfl (by decide +kernel) (Nat.le_of_ble_eq_true rfl) ?_
  refine ev_aload_n i_Wd_copy_0 rfl ?_
  refine ev_get i_Wd_copy_1 (by first | assumption | exact put_at hw (cell_ne ha hw (by intro h; cases h)) | exact put_at hv (cell_ne ha hv (by intro h; cases h))) rfl ?_
  refine ev_iconstN (v := 0) i_Wd_copy_4 (by decide) ?_
  refine ev_aload_n i_Wd_copy_5 rfl ?_
  refine ev_get i_Wd_copy_6 (by first | assumption | exact put_at hw (cell_ne ha hw (by intro h; cases h)) | exact put_at hv (cell_ne ha hv (by intro h; cases h))) rfl ?_
  refine ev_iconstN (v := 0) i_Wd_copy_9 (by decide) ?_
  refine ev_aload_n i_Wd_copy_10 rfl ?_
  refine ev_get i_Wd_copy_11 (by first | assumption | exact put_at hw (cell_ne ha hw (by intro h; cases h)) | exact put_at hv (cell_ne ha hv (by intro h; cases h))) rfl ?_
  have e0 : (nI 0).toNatClampNeg = 0 := nI_clamp (by omega)
  have em : (nI m).toNatClampNeg = m := nI_clamp (by omega)
  refine ev_cpyI i_Wd_copy_14 rfl (Nat.le_of_ble_eq_true rfl) hb ha (nI_pos (by omega)) (nI_pos (by omega)) (nI_pos (by omega)) (by rw [e0, em]; omega) (by rw [e0, em]; omega) ?_
  rw [e0, em, show va_cpy g f 0 0 m = fillF f 0 g m from by
    funext j
    unfold va_cpy fillF
    rw [Nat.zero_add, Nat.zero_add]]
  refine ev_aload_n i_Wd_copy_17 rfl ?_
  refine ev_aload_n i_Wd_copy_18 rfl ?_
  refine ev_get i_Wd_copy_19 (by first | assumption | exact put_at hw (cell_ne ha hw (by intro h; cases h)) | exact put_at hv (cell_ne ha hv (by intro h; cases h))) rfl ?_
  refine ev_put i_Wd_copy_22 (by first | assumption | exact put_at hw (cell_ne ha hw (by intro h; cases h)) | exact put_at hv (cell_ne ha hv (by intro h; cases h))) (Nat.le_of_ble_eq_true rfl) rfl rfl ?_
  exact ev_vret i_Wd_copy_25 rfl
theorem lp_Wd_agreesWith {scr : Scr} {l : Launch} {d : Nat} {S : Sto} {w a n v b n2 m : Nat} {f g : Nat → Int32} (hw : S.1[w]? = some (oB 12 [.ref a, .int (nI n)])) (ha : S.1[a]? = some (aI 60 f)) (hv : S.1[v]? = some (oB 12 [.ref b, .int (nI n2)])) (hb : S.1[b]? = some (aI 60 g)) (hm : m ≤ 60) : ∀ (k i : Nat), i + k = m → (∀ j, j < i → f j = g j) → Ev scr l d M_Wd_agreesWith 14 [some (.ref w), some (.ref v), some (.int (nI m)), some (.int (nI i))] [] S (.inl (some (.int (nI (if ∀ j, j < m → f j = g j then 1 else 0)))), S) := by
  intro k
  induction k with
  | zero =>
    intro i hi hag
    have hi : i = m := by omega
    subst hi
    refine ev_iload_n i_Wd_agreesWith_14 rfl ?_
    refine ev_iload_n i_Wd_agreesWith_15 rfl ?_
    refine ev_icmp_geN i_Wd_agreesWith_16 (by omega) (by omega) (fun hc_16 => ?_) (fun hc_16 => ?_)
    · skip
      rw [if_pos hag]
      refine ev_iconstN (v := 1) i_Wd_agreesWith_42 (by decide) ?_
      exact ev_iret i_Wd_agreesWith_43 rfl (by decide)
    · skip
      exfalso; omega
  | succ k ih =>
    intro i hi hag
    refine ev_iload_n i_Wd_agreesWith_14 rfl ?_
    refine ev_iload_n i_Wd_agreesWith_15 rfl ?_
    refine ev_icmp_geN i_Wd_agreesWith_16 (by omega) (by omega) (fun hc_16 => ?_) (fun hc_16 => ?_)
    · skip
      exfalso; omega
    · skip
      refine ev_aload_n i_Wd_agreesWith_19 rfl ?_
      refine ev_get i_Wd_agreesWith_20 (by first | assumption) rfl ?_
      refine ev_iload_n i_Wd_agreesWith_23 rfl ?_
      refine ev_ialdN i_Wd_agreesWith_24 (by first | assumption) (by omega) (by decide) ?_
      refine ev_aload_n i_Wd_agreesWith_25 rfl ?_
      refine ev_get i_Wd_agreesWith_26 (by first | assumption) rfl ?_
      refine ev_iload_n i_Wd_agreesWith_29 rfl ?_
      refine ev_ialdN i_Wd_agreesWith_30 (by first | assumption) (by omega) (by decide) ?_
      refine ev_icmp_eq i_Wd_agreesWith_31 (fun hc_31 => ?_) (fun hc_31 => ?_)
      · skip
        refine ev_iincN (c := 1) i_Wd_agreesWith_36 (by decide) rfl ?_
        refine ev_goto i_Wd_agreesWith_39 ?_
        exact ih (i + 1) (by omega) (fun j hj => by
          rcases Nat.lt_succ_iff_lt_or_eq.mp hj with q | q
          · exact hag j q
          · rw [q]; exact hc_31)
      · skip
        rw [if_neg (fun q => hc_31 (q i (by omega)))]
        refine ev_iconstN (v := 0) i_Wd_agreesWith_34 (by decide) ?_
        exact ev_iret i_Wd_agreesWith_35 rfl (by decide)
theorem c_Wd_agreesWith {scr : Scr} {l : Launch} {d : Nat} {S : Sto} {w a n v b n2 : Nat} {f g : Nat → Int32} (hw : S.1[w]? = some (oB 12 [.ref a, .int (nI n)])) (ha : S.1[a]? = some (aI 60 f)) (hv : S.1[v]? = some (oB 12 [.ref b, .int (nI n2)])) (hb : S.1[b]? = some (aI 60 g)) (hn : n ≤ 60) (hn2 : n2 ≤ 60) : MetA scr l (d + 1) M_Wd_agreesWith [.ref w, .ref v] S (.inl (some (.int (nI (if ∀ j, j < min n n2 → f j = g j then 1 else 0)))), S) := by
  refine MetA.of rfl (by decide +kernel) (Nat.le_of_ble_eq_true rfl) ?_
  refine ev_aload_n i_Wd_agreesWith_0 rfl ?_
  refine ev_get i_Wd_agreesWith_1 (by first | assumption) rfl ?_
  refine ev_aload_n i_Wd_agreesWith_4 rfl ?_
  refine ev_get i_Wd_agreesWith_5 (by first | assumption) rfl ?_
  refine ev_callS2 i_Wd_agreesWith_8 rfl (Nat.le_of_ble_eq_true rfl) (c_Ma_minI (by omega) (by omega)) ?_
  refine ev_istore_n i_Wd_agreesWith_11 (Nat.le_of_ble_eq_true rfl) ?_
  refine ev_iconstN (v := 0) i_Wd_agreesWith_12 (by decide) ?_
  refine ev_istore_n i_Wd_agreesWith_13 (Nat.le_of_ble_eq_true rfl) ?_
  exact lp_Wd_agreesWith hw ha hv hb (by omega) (min n n2) 0 (by omega) (fun j hj => by omega)
theorem c_Wd_sameAs {scr : Scr} {l : Launch} {d : Nat} {S : Sto} {w a n v b n2 : Nat} {f g : Nat → Int32} (hw : S.1[w]? = some (oB 12 [.ref a, .int (nI n)])) (ha : S.1[a]? = some (aI 60 f)) (hv : S.1[v]? = some (oB 12 [.ref b, .int (nI n2)])) (hb : S.1[b]? = some (aI 60 g)) (hn : n ≤ 60) (hn2 : n2 ≤ 60) : MetA scr l (d + 2) M_Wd_sameAs [.ref w, .ref v] S (.inl (some (.int (nI (if n = n2 ∧ ∀ j, j < n → f j = g j then 1 else 0)))), S) := by
  refine MetA.of rfl (by decide +kernel) (Nat.le_of_ble_eq_true rfl) ?_
  refine ev_aload_n i_Wd_sameAs_0 rfl ?_
  refine ev_get i_Wd_sameAs_1 (by first | assumption) rfl ?_
  refine ev_aload_n i_Wd_sameAs_4 rfl ?_
  refine ev_get i_Wd_sameAs_5 (by first | assumption) rfl ?_
  refine ev_icmp_neN i_Wd_sameAs_8 (by omega) (by omega) (fun hc_8 => ?_) (fun hc_8 => ?_)
  · skip
    rw [if_neg (fun q => hc_8 q.1)]
    refine ev_iconstN (v := 0) i_Wd_sameAs_23 (by decide) ?_
    exact ev_iret i_Wd_sameAs_24 rfl (by decide)
  · skip
    refine ev_aload_n i_Wd_sameAs_11 rfl ?_
    refine ev_aload_n i_Wd_sameAs_12 rfl ?_
    refine ev_callV1 i_Wd_sameAs_13 rfl (by first | assumption) (Nat.le_of_ble_eq_true rfl) (c_Wd_agreesWith hw ha hv hb hn hn2) ?_
    subst hc_8
    have e : min n n = n := by omega
    rw [e]
    by_cases hq : ∀ j, j < n → f j = g j
    · rw [if_pos hq, if_pos ⟨rfl, hq⟩]
      refine ev_if_eqN i_Wd_sameAs_16 (by omega) (fun hc => ?_) (fun hc => ?_)
      · exfalso; omega
      refine ev_iconstN (v := 1) i_Wd_sameAs_19 (by decide) ?_
      refine ev_goto i_Wd_sameAs_20 ?_
      exact ev_iret i_Wd_sameAs_24 rfl (by decide)
    · rw [if_neg hq, if_neg (fun q => hq q.2)]
      refine ev_if_eqN i_Wd_sameAs_16 (by omega) (fun hc => ?_) (fun hc => ?_)
      · refine ev_iconstN (v := 0) i_Wd_sameAs_23 (by decide) ?_
        exact ev_iret i_Wd_sameAs_24 rfl (by decide)
      · exfalso; omega

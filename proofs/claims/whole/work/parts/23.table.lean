/-! tables as mathematical values; what changes them -/
/-- a table: the list of each letter, the production of each pair -/
abbrev TabV : Type := (Nat → List (List Nat)) × (Nat → Nat → Option (List Nat))
def SlotR (fl fe : Nat → Int32) (s : Nat) (p : List Nat) : Prop := fl s = nI p.length ∧ ∀ i, i < p.length → fe (s * 4 + i) = nI (p.getD i 0)
def PrOK (p : List Nat) : Prop := p.length ≤ 4 ∧ ∀ i, i < p.length → p.getD i 0 < 6
def rcount (T : TabV) : Nat := (List.range 36).countP (fun k => (T.2 (k / 6) (k % 6)).isSome)
def TabR (fs fl fe : Nat → Int32) (rc : Nat) (T : TabV) : Prop :=
  (∀ a, a < 6 → fs a = nI (T.1 a).length ∧ 1 ≤ (T.1 a).length ∧ (T.1 a).length ≤ 3 ∧ ∀ k, k < (T.1 a).length → SlotR fl fe (a * 3 + k) ((T.1 a).getD k []) ∧ PrOK ((T.1 a).getD k [])) ∧
  (∀ a b, a < 6 → b < 6 → (T.2 a b = none → fl (18 + a * 6 + b) = -1) ∧ ∀ p, T.2 a b = some p → SlotR fl fe (18 + a * 6 + b) p ∧ PrOK p) ∧ rc = rcount T
/-- the table T: its object t, its three arrays behind it -/
def TabAt (S : Sto) (t : Nat) (T : TabV) : Prop := ∃ (rc : Nat) (fs fl fe : Nat → Int32), TabIs S t (t + 1) (t + 2) (t + 3) rc fs fl fe ∧ TabR fs fl fe rc T
theorem TabAt.fr {K : List Nat} {S S1 : Sto} {t : Nat} {T : TabV} (h : TabAt S t T) (hF : Fr K S S1) (hk : t ∉ K ∧ t + 1 ∉ K ∧ t + 2 ∉ K ∧ t + 3 ∉ K) : TabAt S1 t T := by
  obtain ⟨rc, fs, fl, fe, h1, h2⟩ := h
  exact ⟨rc, fs, fl, fe, h1.fr hF hk, h2⟩
theorem rcount_le (T : TabV) : rcount T ≤ 36 := by
  unfold rcount
  have := List.countP_le_length (l := List.range 36) (p := fun k => (T.2 (k / 6) (k % 6)).isSome)
  simpa using this
theorem SlotR.other {fl fe : Nat → Int32} {s s' n : Nat} {p' : List Nat} {v : Int32} {h : Nat → Int32} (hs : s' ≠ s) (hp : p'.length ≤ 4) (hn : n ≤ 4) (hr : SlotR fl fe s' p') : SlotR (upd fl s v) (fillF fe (s * 4) h n) s' p' := by
  refine ⟨by unfold upd; rw [if_neg hs]; exact hr.1, fun i hi => ?_⟩
  unfold fillF
  rw [if_neg (by omega)]
  exact hr.2 i hi
theorem SlotR.self {fl fe : Nat → Int32} {s : Nat} {p : List Nat} {h : Nat → Int32} (hh : ∀ i, i < p.length → h i = nI (p.getD i 0)) : SlotR (upd fl s (nI p.length)) (fillF fe (s * 4) h p.length) s p := by
  refine ⟨by unfold upd; rw [if_pos rfl], fun i hi => ?_⟩
  unfold fillF
  rw [if_pos (by omega), Nat.add_sub_cancel_left]
  exact hh i hi
theorem nI_ne_m1 {n : Nat} (h : n < 2 ^ 31) : nI n ≠ -1 := fun q => by
  have h1 := congrArg Int32.toInt q
  rw [nI_toInt h] at h1
  have h2 : (-1 : Int32).toInt = -1 := by decide
  rw [h2] at h1
  omega
def setList (T : TabV) (a : Nat) (p : List Nat) : TabV := (fun x => if x = a then [p] else T.1 x, T.2)
def addList (T : TabV) (a : Nat) (p : List Nat) : TabV := (fun x => if x = a then T.1 a ++ [p] else T.1 x, T.2)
def setRule (T : TabV) (a b : Nat) (p : List Nat) : TabV := (T.1, fun x y => if x = a ∧ y = b then some p else T.2 x y)
def delRule (T : TabV) (a b : Nat) : TabV := (T.1, fun x y => if x = a ∧ y = b then none else T.2 x y)
theorem countP_upd {n k : Nat} {f g : Nat → Bool} (hk : k < n) (hf : f k = false) (hg : g k = true) (ho : ∀ j, j ≠ k → g j = f j) : (List.range n).countP g = (List.range n).countP f + 1 := by
  induction n with
  | zero => omega
  | succ n ih =>
    rw [List.range_succ, List.countP_append, List.countP_append]
    by_cases h : k = n
    · subst h
      have e : (List.range k).countP g = (List.range k).countP f := List.countP_congr (fun j hj => by
        have := List.mem_range.mp hj
        rw [ho j (by omega)])
      rw [e]
      simp [hf, hg]
    · rw [ih (by omega)]
      have : [n].countP g = [n].countP f := List.countP_congr (fun j hj => by
        have := List.mem_singleton.mp hj
        rw [ho j (by omega)])
      rw [this]
      omega
theorem rcount_set {T : TabV} {a b : Nat} {p : List Nat} (ha : a < 6) (hb : b < 6) : rcount (setRule T a b p) = if (T.2 a b).isSome then rcount T else rcount T + 1 := by
  unfold rcount setRule
  by_cases h : (T.2 a b).isSome
  · rw [if_pos h]
    refine List.countP_congr (fun k hk => ?_)
    have := List.mem_range.mp hk
    by_cases q : k / 6 = a ∧ k % 6 = b
    · simp only [q, and_self, if_true]
      rw [h]
      simp
    · simp only [if_neg q]
  · rw [if_neg h]
    refine countP_upd (k := a * 6 + b) (by omega) ?_ ?_ (fun j hj => ?_)
    · rw [show (a * 6 + b) / 6 = a by omega, show (a * 6 + b) % 6 = b by omega]
      simpa using h
    · rw [show (a * 6 + b) / 6 = a by omega, show (a * 6 + b) % 6 = b by omega]
      simp
    · show (if j / 6 = a ∧ j % 6 = b then some p else T.2 (j / 6) (j % 6)).isSome = _
      rw [if_neg (by omega)]
theorem rcount_del {T : TabV} {a b : Nat} (ha : a < 6) (hb : b < 6) (h : (T.2 a b).isSome) : rcount (delRule T a b) + 1 = rcount T := by
  unfold rcount delRule
  refine (countP_upd (k := a * 6 + b) (by omega) ?_ ?_ (fun j hj => ?_)).symm
  · rw [show (a * 6 + b) / 6 = a by omega, show (a * 6 + b) % 6 = b by omega]
    simp
  · rw [show (a * 6 + b) / 6 = a by omega, show (a * 6 + b) % 6 = b by omega]
    exact h
  · simp only
    rw [if_neg (by omega)]
theorem lp_Tb_fillSlot {scr : Scr} {l : Launch} {S : Sto} {t ls ln le rc : Nat} {fs fl fe : Nat → Int32} {x b s d : Nat} {cs : List Nat} (hT : TabIs S t ls ln le rc fs fl fe) (hX : TextAt S x b cs) (hlet : isW cs) (hc4 : cs.length ≤ 4) (hs : s < 54) (hd1 : le ≠ x ∧ le ≠ b) : ∀ (k i : Nat), i + k = cs.length → Ev scr l (d + 1) M_Tb_fillSlot 12 [some (.ref t), some (.int (nI s)), some (.ref x), some (.int (nI cs.length)), some (.int (nI i))] [] (S.put le (aI 216 (fillF fe (s * 4) (fun j => nI (cs.getD j 0 - 97)) i))) (.inl none, (S.put le (aI 216 (fillF fe (s * 4) (fun j => nI (cs.getD j 0 - 97)) cs.length))).put ln (aI 54 (upd fl s (nI cs.length)))) := by
  intro k
  induction k with
  | zero =>
    intro i hi
    have hi : i = cs.length := by omega
    subst hi
    have hne := hT.ne
    obtain ⟨ht, hls, hln, hle⟩ := hT
    have ht2 := put_at (c := aI 216 (fillF fe (s * 4) (fun j => nI (cs.getD j 0 - 97)) cs.length)) ht hne.1.2.2
    have hln2 := put_at (c := aI 216 (fillF fe (s * 4) (fun j => nI (cs.getD j 0 - 97)) cs.length)) hln hne.2.2.2.symm
    refine ev_iload i_Tb_fillSlot_12 rfl ?_
    refine ev_iload_n i_Tb_fillSlot_14 rfl ?_
    refine ev_icmp_geN i_Tb_fillSlot_15 (by omega) (by omega) (fun hc_15 => ?_) (fun hc_15 => ?_)
    · skip
      refine ev_aload_n i_Tb_fillSlot_41 rfl ?_
      refine ev_get i_Tb_fillSlot_42 ht2 rfl ?_
      refine ev_iload_n i_Tb_fillSlot_45 rfl ?_
      refine ev_iload_n i_Tb_fillSlot_46 rfl ?_
      refine ev_iastN i_Tb_fillSlot_47 hln2 (by omega) (by decide) ?_
      exact ev_vret i_Tb_fillSlot_48 rfl
    · skip
      exfalso; omega
  | succ k ih =>
    intro i hi
    have hne := hT.ne
    have hx2 := hX.1.fr (K := [le]) (Fr.put (K := [le]) (k := le) S (aI 216 (fillF fe (s * 4) (fun j => nI (cs.getD j 0 - 97)) i)) (by simp)) (by simp; exact ⟨fun q => hd1.1 q.symm, fun q => hd1.2 q.symm⟩)
    have e4 := ih (i + 1) (by omega)
    obtain ⟨ht, hls, hln, hle⟩ := hT
    have ht2 := put_at (c := aI 216 (fillF fe (s * 4) (fun j => nI (cs.getD j 0 - 97)) i)) ht hne.1.2.2
    have hle2 := put_self (c := aI 216 (fillF fe (s * 4) (fun j => nI (cs.getD j 0 - 97)) i)) hle
    refine ev_iload i_Tb_fillSlot_12 rfl ?_
    refine ev_iload_n i_Tb_fillSlot_14 rfl ?_
    refine ev_icmp_geN i_Tb_fillSlot_15 (by omega) (by omega) (fun hc_15 => ?_) (fun hc_15 => ?_)
    · skip
      exfalso; omega
    · skip
      refine ev_aload_n i_Tb_fillSlot_18 rfl ?_
      refine ev_get i_Tb_fillSlot_19 ht2 rfl ?_
      refine ev_iload_n i_Tb_fillSlot_22 rfl ?_
      refine ev_iconstN (v := 4) i_Tb_fillSlot_23 (by decide) ?_
      first | refine ev_imulN i_Tb_fillSlot_24 ?_ | refine ev_imul i_Tb_fillSlot_24 ?_
      refine ev_iload i_Tb_fillSlot_25 rfl ?_
      first | refine ev_iaddN i_Tb_fillSlot_27 ?_ | refine ev_iadd i_Tb_fillSlot_27 ?_
      refine ev_aload_n i_Tb_fillSlot_28 rfl ?_
      refine ev_iload i_Tb_fillSlot_29 rfl ?_
      refine ev_callV1 i_Tb_fillSlot_31 rfl hx2.1 (Nat.le_of_ble_eq_true rfl) (c_Tx_letterAt hx2 (by omega) (hlet i (by omega)).1) ?_
      refine ev_iastN i_Tb_fillSlot_34 hle2 (by omega) (by decide) ?_
      refine ev_iincN (c := 1) i_Tb_fillSlot_35 (by decide) rfl ?_
      refine ev_goto i_Tb_fillSlot_38 ?_
      rw [put_put, fillF_s fe (s * 4) (fun j => nI (cs.getD j 0 - 97)) i]
      exact e4
theorem c_Tb_fillSlot {scr : Scr} {l : Launch} {S : Sto} {t ls ln le rc : Nat} {fs fl fe : Nat → Int32} {x b s d : Nat} {cs : List Nat} (hT : TabIs S t ls ln le rc fs fl fe) (hX : TextAt S x b cs) (hlet : isW cs) (hc4 : cs.length ≤ 4) (hs : s < 54) (hd1 : le ≠ x ∧ le ≠ b) : MetA scr l (d + 1) M_Tb_fillSlot [.ref t, .int (nI s), .ref x] S (.inl none, (S.put le (aI 216 (fillF fe (s * 4) (fun j => nI (cs.getD j 0 - 97)) cs.length))).put ln (aI 54 (upd fl s (nI cs.length)))) := by
  have h := lp_Tb_fillSlot (scr := scr) (l := l) (d := d) hT hX hlet hc4 hs hd1 cs.length 0 (by omega)
  rw [fillF_0, put_same hT.2.2.2] at h
  have hl60 := hX.1.2.1
  have em : min cs.length 4 = cs.length := by omega
  refine MetA.of rfl (by decide +kernel) (Nat.le_of_ble_eq_true rfl) ?_
  refine ev_aload_n i_Tb_fillSlot_0 rfl ?_
  refine ev_get i_Tb_fillSlot_1 hX.1.1 rfl ?_
  refine ev_iconstN (v := 4) i_Tb_fillSlot_4 (by decide) ?_
  refine ev_callS2 i_Tb_fillSlot_5 rfl (Nat.le_of_ble_eq_true rfl) (c_Ma_minI (by omega) (by omega)) ?_
  refine ev_istore_n i_Tb_fillSlot_8 (Nat.le_of_ble_eq_true rfl) ?_
  refine ev_iconstN (v := 0) i_Tb_fillSlot_9 (by decide) ?_
  refine ev_istore i_Tb_fillSlot_10 (Nat.le_of_ble_eq_true rfl) ?_
  rw [em]
  exact h
theorem not_le {x t : Nat} (h : x ∉ [t, t + 1, t + 2, t + 3]) : x ≠ t ∧ x ≠ t + 1 ∧ x ≠ t + 2 ∧ x ≠ t + 3 := by simpa using h
theorem wOf_PrOK {cs : List Nat} (hlet : isW cs) (hc4 : cs.length ≤ 4) : PrOK (wOf cs) := ⟨by rw [wOf_len]; exact hc4, fun i hi => by
  rw [wOf_len] at hi
  rw [wOf_get hi]
  have := hlet i hi
  omega⟩
/-- a slot is filled: the others stay -/
theorem TabR.fill {fs fl fe : Nat → Int32} {rc s : Nat} {T : TabV} {cs : List Nat} (hc4 : cs.length ≤ 4) (h : TabR fs fl fe rc T) :
    (∀ a, a < 6 → ∀ k, k < (T.1 a).length → a * 3 + k ≠ s → SlotR (upd fl s (nI cs.length)) (fillF fe (s * 4) (fun j => nI (cs.getD j 0 - 97)) cs.length) (a * 3 + k) ((T.1 a).getD k [])) ∧
    (∀ a b, a < 6 → b < 6 → 18 + a * 6 + b ≠ s → (T.2 a b = none → upd fl s (nI cs.length) (18 + a * 6 + b) = -1) ∧ ∀ p, T.2 a b = some p → SlotR (upd fl s (nI cs.length)) (fillF fe (s * 4) (fun j => nI (cs.getD j 0 - 97)) cs.length) (18 + a * 6 + b) p) ∧
    SlotR (upd fl s (nI cs.length)) (fillF fe (s * 4) (fun j => nI (cs.getD j 0 - 97)) cs.length) s (wOf cs) := by
  obtain ⟨h1, h2, -⟩ := h
  refine ⟨fun a ha k hk hs => ?_, fun a b ha hb hs => ⟨fun hq => ?_, fun p hp => ?_⟩, ?_⟩
  · obtain ⟨q1, q2⟩ := (h1 a ha).2.2.2 k hk
    exact SlotR.other hs q2.1 hc4 q1
  · unfold upd
    rw [if_neg hs]
    exact (h2 a b ha hb).1 hq
  · obtain ⟨q1, q2⟩ := (h2 a b ha hb).2 p hp
    exact SlotR.other hs q2.1 hc4 q1
  · have h := SlotR.self (fl := fl) (fe := fe) (s := s) (p := wOf cs) (h := fun j => nI (cs.getD j 0 - 97)) (fun i hi => by rw [wOf_len] at hi; rw [wOf_get hi])
    rw [wOf_len] at h
    exact h
theorem t_setList {scr : Scr} {l : Launch} {S : Sto} {t x b : Nat} {T : TabV} {cs : List Nat} {a : Nat} (h : TabAt S t T) (hX : TextAt S x b cs) (hlet : isW cs) (hc4 : cs.length ≤ 4) (ha : a < 6) (hdx : x ∉ [t, t + 1, t + 2, t + 3]) (hdb : b ∉ [t, t + 1, t + 2, t + 3]) : ∃ S2, (∀ d, MetA scr l (d + 2) M_Tb_replaceList [.ref t, .int (nI a), .ref x] S (.inl none, S2)) ∧ TabAt S2 t (setList T a (wOf cs)) ∧ Fr [t, t + 1, t + 2, t + 3] S S2 := by
  obtain ⟨rc, fs, fl, fe, hT, hR⟩ := h
  have ne := hT.ne
  have hd1 := not_le hdx
  have hd2 := not_le hdb
  have hl60 := hX.1.2.1
  have hm := fun d => c_Tb_fillSlot (scr := scr) (l := l) (d := d) (s := (a * 3 + 0)) hT hX hlet hc4 (by omega) ⟨fun q => hd1.2.2.2 q.symm, fun q => hd2.2.2.2 q.symm⟩
  obtain ⟨S1, hS1⟩ : ∃ z, z = (S.put (t + 3) (aI 216 (fillF fe ((a * 3 + 0) * 4) (fun j => nI (cs.getD j 0 - 97)) cs.length))).put (t + 2) (aI 54 (upd fl (a * 3 + 0) (nI cs.length))) := ⟨_, rfl⟩
  simp only [← hS1] at hm
  have ht1 : S1.1[t]? = some (oB 9 [.ref (t + 1), .ref (t + 2), .ref (t + 3), .int (nI rc)]) := by rw [hS1]; exact put_at (put_at hT.1 ne.1.2.2) ne.1.2.1
  have hls1 : S1.1[t + 1]? = some (aI 6 fs) := by rw [hS1]; exact put_at (put_at hT.2.1 ne.2.2.1.symm) ne.2.1.symm
  have hln1 : S1.1[t + 2]? = some (aI 54 (upd fl (a * 3 + 0) (nI cs.length))) := by rw [hS1]; exact put_self (put_at hT.2.2.1 ne.2.2.2.symm)
  have hle1 : S1.1[t + 3]? = some (aI 216 (fillF fe ((a * 3 + 0) * 4) (fun j => nI (cs.getD j 0 - 97)) cs.length)) := by rw [hS1]; exact put_at (put_self hT.2.2.2) ne.2.2.2
  have hf1 : Fr [t, t + 1, t + 2, t + 3] S S1 := by rw [hS1]; exact (Fr.put _ _ (by simp)).tr (Fr.put _ _ (by simp))
  refine ⟨S1.put (t + 1) (aI 6 (upd fs a (nI 1))), fun d => ?_, ⟨rc, upd fs a (nI 1), upd fl (a * 3 + 0) (nI cs.length), (fillF fe ((a * 3 + 0) * 4) (fun j => nI (cs.getD j 0 - 97)) cs.length), ⟨put_at ht1 ne.1.1, put_self hls1, put_at hln1 ne.2.1, put_at hle1 ne.2.2.1⟩, ?_⟩, hf1.tr (Fr.put _ _ (by simp))⟩
  · refine MetA.of rfl (by decide +kernel) (Nat.le_of_ble_eq_true rfl) ?_
    refine ev_aload_n i_Tb_replaceList_0 rfl ?_
    refine ev_iload_n i_Tb_replaceList_1 rfl ?_
    refine ev_iconstN (v := 0) i_Tb_replaceList_2 (by decide) ?_
    refine ev_callS2 i_Tb_replaceList_3 rfl (Nat.le_of_ble_eq_true rfl) c_Tb_listSlot ?_
    refine ev_aload_n i_Tb_replaceList_6 rfl ?_
    refine ev_callV2 i_Tb_replaceList_7 rfl hT.1 (Nat.le_of_ble_eq_true rfl) (hm _) ?_
    refine ev_aload_n i_Tb_replaceList_10 rfl ?_
    refine ev_get i_Tb_replaceList_11 ht1 rfl ?_
    refine ev_iload_n i_Tb_replaceList_14 rfl ?_
    refine ev_iconstN (v := 1) i_Tb_replaceList_15 (by decide) ?_
    refine ev_iastN i_Tb_replaceList_16 hls1 (by omega) (by decide) ?_
    exact ev_vret i_Tb_replaceList_17 rfl
  · obtain ⟨r1, r2, r3⟩ := TabR.fill (s := a * 3 + 0) hc4 hR
    refine ⟨fun q hq => ?_, fun p q hp hq => ⟨(r2 p q hp hq (by omega)).1, fun z hz => ⟨(r2 p q hp hq (by omega)).2 z hz, ((hR.2.1 p q hp hq).2 z hz).2⟩⟩, hR.2.2⟩
    have hold := hR.1 q hq
    unfold setList upd
    by_cases hqa : q = a
    · subst hqa
      simp only [if_true, if_pos]
      refine ⟨rfl, Nat.le_refl 1, by simp, fun k hk => ?_⟩
      have hk0 : k = 0 := by simpa using hk
      subst hk0
      exact ⟨r3, wOf_PrOK hlet hc4⟩
    · simp only [if_neg hqa]
      exact ⟨hold.1, hold.2.1, hold.2.2.1, fun k hk => ⟨r1 q hq k hk (by omega), (hold.2.2.2 k hk).2⟩⟩
theorem t_addList {scr : Scr} {l : Launch} {S : Sto} {t x b : Nat} {T : TabV} {cs : List Nat} {a : Nat} (h : TabAt S t T) (hX : TextAt S x b cs) (hlet : isW cs) (hc4 : cs.length ≤ 4) (ha : a < 6) (h3 : (T.1 a).length < 3) (hdx : x ∉ [t, t + 1, t + 2, t + 3]) (hdb : b ∉ [t, t + 1, t + 2, t + 3]) : ∃ S2, (∀ d, MetA scr l (d + 2) M_Tb_extendList [.ref t, .int (nI a), .ref x] S (.inl (some (.int (nI (T.1 a).length))), S2)) ∧ TabAt S2 t (addList T a (wOf cs)) ∧ Fr [t, t + 1, t + 2, t + 3] S S2 := by
  obtain ⟨rc, fs, fl, fe, hT, hR⟩ := h
  have hold := hR.1 a ha
  have ne := hT.ne
  have hd1 := not_le hdx
  have hd2 := not_le hdb
  have hl60 := hX.1.2.1
  have hm := fun d => c_Tb_fillSlot (scr := scr) (l := l) (d := d) (s := (a * 3 + (T.1 a).length)) hT hX hlet hc4 (by omega) ⟨fun q => hd1.2.2.2 q.symm, fun q => hd2.2.2.2 q.symm⟩
  obtain ⟨S1, hS1⟩ : ∃ z, z = (S.put (t + 3) (aI 216 (fillF fe ((a * 3 + (T.1 a).length) * 4) (fun j => nI (cs.getD j 0 - 97)) cs.length))).put (t + 2) (aI 54 (upd fl (a * 3 + (T.1 a).length) (nI cs.length))) := ⟨_, rfl⟩
  simp only [← hS1] at hm
  have ht1 : S1.1[t]? = some (oB 9 [.ref (t + 1), .ref (t + 2), .ref (t + 3), .int (nI rc)]) := by rw [hS1]; exact put_at (put_at hT.1 ne.1.2.2) ne.1.2.1
  have hls1 : S1.1[t + 1]? = some (aI 6 fs) := by rw [hS1]; exact put_at (put_at hT.2.1 ne.2.2.1.symm) ne.2.1.symm
  have hln1 : S1.1[t + 2]? = some (aI 54 (upd fl (a * 3 + (T.1 a).length) (nI cs.length))) := by rw [hS1]; exact put_self (put_at hT.2.2.1 ne.2.2.2.symm)
  have hle1 : S1.1[t + 3]? = some (aI 216 (fillF fe ((a * 3 + (T.1 a).length) * 4) (fun j => nI (cs.getD j 0 - 97)) cs.length)) := by rw [hS1]; exact put_at (put_self hT.2.2.2) ne.2.2.2
  have hf1 : Fr [t, t + 1, t + 2, t + 3] S S1 := by rw [hS1]; exact (Fr.put _ _ (by simp)).tr (Fr.put _ _ (by simp))
  refine ⟨S1.put (t + 1) (aI 6 (upd fs a (nI ((T.1 a).length + 1)))), fun d => ?_, ⟨rc, upd fs a (nI ((T.1 a).length + 1)), upd fl (a * 3 + (T.1 a).length) (nI cs.length), (fillF fe ((a * 3 + (T.1 a).length) * 4) (fun j => nI (cs.getD j 0 - 97)) cs.length), ⟨put_at ht1 ne.1.1, put_self hls1, put_at hln1 ne.2.1, put_at hle1 ne.2.2.1⟩, ?_⟩, hf1.tr (Fr.put _ _ (by simp))⟩
  · refine MetA.of rfl (by decide +kernel) (Nat.le_of_ble_eq_true rfl) ?_
    refine ev_aload_n i_Tb_extendList_0 rfl ?_
    refine ev_get i_Tb_extendList_1 hT.1 rfl ?_
    refine ev_iload_n i_Tb_extendList_4 rfl ?_
    refine ev_ialdN i_Tb_extendList_5 hT.2.1 (by omega) (by decide) ?_
    rw [hold.1]
    refine ev_istore_n i_Tb_extendList_6 (Nat.le_of_ble_eq_true rfl) ?_
    refine ev_iload_n i_Tb_extendList_7 rfl ?_
    refine ev_iconstN (v := 3) i_Tb_extendList_8 (by decide) ?_
    refine ev_icmp_ltN i_Tb_extendList_9 (by omega) (by omega) (fun hc_9 => ?_) (fun hc_9 => ?_)
    · skip
      refine ev_aload_n i_Tb_extendList_14 rfl ?_
      refine ev_iload_n i_Tb_extendList_15 rfl ?_
      refine ev_iload_n i_Tb_extendList_16 rfl ?_
      refine ev_callS2 i_Tb_extendList_17 rfl (Nat.le_of_ble_eq_true rfl) c_Tb_listSlot ?_
      refine ev_aload_n i_Tb_extendList_20 rfl ?_
      refine ev_callV2 i_Tb_extendList_21 rfl hT.1 (Nat.le_of_ble_eq_true rfl) (hm _) ?_
      refine ev_aload_n i_Tb_extendList_24 rfl ?_
      refine ev_get i_Tb_extendList_25 ht1 rfl ?_
      refine ev_iload_n i_Tb_extendList_28 rfl ?_
      refine ev_iload_n i_Tb_extendList_29 rfl ?_
      refine ev_iconstN (v := 1) i_Tb_extendList_30 (by decide) ?_
      first | refine ev_iaddN i_Tb_extendList_31 ?_ | refine ev_iadd i_Tb_extendList_31 ?_
      refine ev_iastN i_Tb_extendList_32 hls1 (by omega) (by decide) ?_
      refine ev_iload_n i_Tb_extendList_33 rfl ?_
      exact ev_iret i_Tb_extendList_34 rfl (by first | rfl | decide)
    · skip
      exfalso; omega
  · obtain ⟨r1, r2, r3⟩ := TabR.fill (s := (a * 3 + (T.1 a).length)) hc4 hR
    refine ⟨fun q hq => ?_, fun p q hp hq => ⟨(r2 p q hp hq (by omega)).1, fun z hz => ⟨(r2 p q hp hq (by omega)).2 z hz, ((hR.2.1 p q hp hq).2 z hz).2⟩⟩, hR.2.2⟩
    have hold2 := hR.1 q hq
    unfold addList upd
    by_cases hqa : q = a
    · subst hqa
      simp only [if_true, if_pos]
      refine ⟨by rw [List.length_append]; rfl, by simp, by simp; omega, fun k hk => ?_⟩
      have hk1 : k < (T.1 q).length + 1 := by simpa using hk
      by_cases hkl : k = (T.1 q).length
      · subst hkl
        have e : (T.1 q ++ [wOf cs]).getD (T.1 q).length [] = wOf cs := by simp [List.getD_eq_getElem?_getD]
        rw [e]
        exact ⟨r3, wOf_PrOK hlet hc4⟩
      · have e : (T.1 q ++ [wOf cs]).getD k [] = (T.1 q).getD k [] := by
          simp only [List.getD_eq_getElem?_getD]
          rw [List.getElem?_append_left (by omega)]
        rw [e]
        exact ⟨r1 q hq k (by omega) (by omega), (hold2.2.2.2 k (by omega)).2⟩
    · simp only [if_neg hqa]
      exact ⟨hold2.1, hold2.2.1, hold2.2.2.1, fun k hk => ⟨r1 q hq k hk (by omega), (hold2.2.2.2 k hk).2⟩⟩
theorem t_addList_no {scr : Scr} {l : Launch} {S : Sto} {t x d : Nat} {T : TabV} {a : Nat} (h : TabAt S t T) (ha : a < 6) (h3 : (T.1 a).length = 3) : MetA scr l d M_Tb_extendList [.ref t, .int (nI a), .ref x] S (.inl (some (.int (-1))), S) := by
  obtain ⟨rc, fs, fl, fe, hT, hR⟩ := h
  have hold := hR.1 a ha
  refine MetA.of rfl (by decide +kernel) (Nat.le_of_ble_eq_true rfl) ?_
  refine ev_aload_n i_Tb_extendList_0 rfl ?_
  refine ev_get i_Tb_extendList_1 hT.1 rfl ?_
  refine ev_iload_n i_Tb_extendList_4 rfl ?_
  refine ev_ialdN i_Tb_extendList_5 hT.2.1 (by omega) (by decide) ?_
  rw [hold.1]
  refine ev_istore_n i_Tb_extendList_6 (Nat.le_of_ble_eq_true rfl) ?_
  refine ev_iload_n i_Tb_extendList_7 rfl ?_
  refine ev_iconstN (v := 3) i_Tb_extendList_8 (by decide) ?_
  refine ev_icmp_ltN i_Tb_extendList_9 (by omega) (by omega) (fun hc_9 => ?_) (fun hc_9 => ?_)
  · skip
    exfalso; omega
  · skip
    refine ev_iconst (v := -1) i_Tb_extendList_12 (by decide) ?_
    exact ev_iret i_Tb_extendList_13 rfl (by first | rfl | decide)
theorem t_hasRule {scr : Scr} {l : Launch} {S : Sto} {t d : Nat} {T : TabV} {p q : Nat} (h : TabAt S t T) (hp : p < 6) (hq : q < 6) : MetA scr l (d + 1) M_Tb_hasRule [.ref t, .int (nI p), .int (nI q)] S (.inl (some (.int (nI (if (T.2 p q).isSome then 1 else 0)))), S) := by
  obtain ⟨rc, fs, fl, fe, hT, hR⟩ := h
  have hc := c_Tb_hasRule (scr := scr) (l := l) (d := d) hT hp hq
  obtain ⟨h1, h2⟩ := hR.2.1 p q hp hq
  cases hz : T.2 p q with
  | none =>
    rw [if_pos (h1 hz)] at hc
    exact hc
  | some z =>
    rw [if_neg (by rw [(h2 z hz).1.1]; exact nI_ne_m1 (by have := (h2 z hz).2.1; omega))] at hc
    exact hc
theorem TabR.ruleSet {fs fl fe : Nat → Int32} {rc p q : Nat} {T : TabV} {cs : List Nat} (hlet : isW cs) (hc4 : cs.length ≤ 4) (hp : p < 6) (hq : q < 6) (hR : TabR fs fl fe rc T) : TabR fs (upd fl (18 + p * 6 + q) (nI cs.length)) (fillF fe ((18 + p * 6 + q) * 4) (fun j => nI (cs.getD j 0 - 97)) cs.length) (if (T.2 p q).isSome then rc else rc + 1) (setRule T p q (wOf cs)) := by
  obtain ⟨r1, r2, r3⟩ := TabR.fill (s := 18 + p * 6 + q) hc4 hR
  refine ⟨fun a ha => ?_, fun a b ha hb => ?_, by rw [rcount_set hp hq, hR.2.2]⟩
  · have hold := hR.1 a ha
    exact ⟨hold.1, hold.2.1, hold.2.2.1, fun k hk => ⟨r1 a ha k hk (by have := hold.2.2.1; show a * 3 + k ≠ _; have : k < (T.1 a).length := hk; omega), (hold.2.2.2 k hk).2⟩⟩
  · by_cases hab : a = p ∧ b = q
    · obtain ⟨rfl, rfl⟩ := hab
      refine ⟨fun hz => ?_, fun z hz => ?_⟩
      · simp [setRule] at hz
      · have e : wOf cs = z := by simpa [setRule] using hz
        subst e
        exact ⟨r3, wOf_PrOK hlet hc4⟩
    · have e : (setRule T p q (wOf cs)).2 a b = T.2 a b := by
        show (if a = p ∧ b = q then _ else _) = _
        rw [if_neg hab]
      rw [e]
      have hs : 18 + a * 6 + b ≠ 18 + p * 6 + q := by omega
      exact ⟨(r2 a b ha hb hs).1, fun z hz => ⟨(r2 a b ha hb hs).2 z hz, ((hR.2.1 a b ha hb).2 z hz).2⟩⟩
theorem t_setRule {scr : Scr} {l : Launch} {S : Sto} {t x b : Nat} {T : TabV} {cs : List Nat} {p q : Nat} (h0 : TabAt S t T) (hX : TextAt S x b cs) (hlet : isW cs) (hc4 : cs.length ≤ 4) (hp : p < 6) (hq : q < 6) (hdx : x ∉ [t, t + 1, t + 2, t + 3]) (hdb : b ∉ [t, t + 1, t + 2, t + 3]) : ∃ S2, (∀ d, MetA scr l (d + 2) M_Tb_putRule [.ref t, .int (nI p), .int (nI q), .ref x] S (.inl none, S2)) ∧ TabAt S2 t (setRule T p q (wOf cs)) ∧ Fr [t, t + 1, t + 2, t + 3] S S2 := by
  obtain ⟨rc, fs, fl, fe, hT, hR⟩ := id h0
  have ne := hT.ne
  have hd1 := not_le hdx
  have hd2 := not_le hdb
  have hl60 := hX.1.2.1
  have hrc : rc ≤ 36 := by rw [hR.2.2]; exact rcount_le T
  have hR2 := TabR.ruleSet hlet hc4 hp hq hR
  cases hz : T.2 p q with
  | some z =>
    have hi : (if (T.2 p q).isSome then 1 else 0) = 1 := by rw [hz]; rfl
    rw [hz] at hR2
    have hm := fun d => c_Tb_fillSlot (scr := scr) (l := l) (d := d) (s := 18 + p * 6 + q) hT hX hlet hc4 (by omega) ⟨fun z => hd1.2.2.2 z.symm, fun z => hd2.2.2.2 z.symm⟩
    refine ⟨_, fun d => ?_, ⟨rc, fs, _, _, ⟨put_at (put_at hT.1 ne.1.2.2) ne.1.2.1, put_at (put_at hT.2.1 ne.2.2.1.symm) ne.2.1.symm, put_self (put_at hT.2.2.1 ne.2.2.2.symm), put_at (put_self hT.2.2.2) ne.2.2.2⟩, hR2⟩, (Fr.put _ _ (by simp)).tr (Fr.put _ _ (by simp))⟩
    refine MetA.of rfl (by decide +kernel) (Nat.le_of_ble_eq_true rfl) ?_
    refine ev_aload_n i_Tb_putRule_0 rfl ?_
    refine ev_iload_n i_Tb_putRule_1 rfl ?_
    refine ev_iload_n i_Tb_putRule_2 rfl ?_
    refine ev_callV2 i_Tb_putRule_3 rfl hT.1 (Nat.le_of_ble_eq_true rfl) (t_hasRule h0 hp hq) ?_
    refine ev_if_neN i_Tb_putRule_6 (by omega) (fun hc_6 => ?_) (fun hc_6 => ?_)
    · skip
      refine ev_aload_n i_Tb_putRule_19 rfl ?_
      refine ev_iload_n i_Tb_putRule_20 rfl ?_
      refine ev_iload_n i_Tb_putRule_21 rfl ?_
      refine ev_callS2 i_Tb_putRule_22 rfl (Nat.le_of_ble_eq_true rfl) c_Tb_ruleSlot ?_
      refine ev_aload_n i_Tb_putRule_25 rfl ?_
      refine ev_callV2 i_Tb_putRule_26 rfl hT.1 (Nat.le_of_ble_eq_true rfl) (hm _) ?_
      exact ev_vret i_Tb_putRule_29 rfl
    · skip
      exfalso; omega
  | none =>
    have hi : (if (T.2 p q).isSome then 1 else 0) = 0 := by rw [hz]; rfl
    rw [hz] at hR2
    have hT0 : TabIs (S.put t (oB 9 [.ref (t + 1), .ref (t + 2), .ref (t + 3), .int (nI (rc + 1))])) t (t + 1) (t + 2) (t + 3) (rc + 1) fs fl fe := ⟨put_self hT.1, put_at hT.2.1 ne.1.1.symm, put_at hT.2.2.1 ne.1.2.1.symm, put_at hT.2.2.2 ne.1.2.2.symm⟩
    have hX0 : TextAt (S.put t (oB 9 [.ref (t + 1), .ref (t + 2), .ref (t + 3), .int (nI (rc + 1))])) x b cs := hX.fr (K := [t]) (Fr.put (K := [t]) (k := t) S _ (by simp)) ⟨by simpa using hd1.1, by simpa using hd2.1⟩
    have hm := fun d => c_Tb_fillSlot (scr := scr) (l := l) (d := d) (s := 18 + p * 6 + q) hT0 hX0 hlet hc4 (by omega) ⟨fun z => hd1.2.2.2 z.symm, fun z => hd2.2.2.2 z.symm⟩
    refine ⟨_, fun d => ?_, ⟨rc + 1, fs, _, _, ⟨put_at (put_at hT0.1 ne.1.2.2) ne.1.2.1, put_at (put_at hT0.2.1 ne.2.2.1.symm) ne.2.1.symm, put_self (put_at hT0.2.2.1 ne.2.2.2.symm), put_at (put_self hT0.2.2.2) ne.2.2.2⟩, hR2⟩, ((Fr.put _ _ (by simp)).tr (Fr.put _ _ (by simp))).tr (Fr.put _ _ (by simp))⟩
    refine MetA.of rfl (by decide +kernel) (Nat.le_of_ble_eq_true rfl) ?_
    refine ev_aload_n i_Tb_putRule_0 rfl ?_
    refine ev_iload_n i_Tb_putRule_1 rfl ?_
    refine ev_iload_n i_Tb_putRule_2 rfl ?_
    refine ev_callV2 i_Tb_putRule_3 rfl hT.1 (Nat.le_of_ble_eq_true rfl) (t_hasRule h0 hp hq) ?_
    refine ev_if_neN i_Tb_putRule_6 (by omega) (fun hc_6 => ?_) (fun hc_6 => ?_)
    · skip
      exfalso; omega
    · skip
      refine ev_aload_n i_Tb_putRule_9 rfl ?_
      refine ev_dup i_Tb_putRule_10 rfl ?_
      refine ev_get i_Tb_putRule_11 hT.1 rfl ?_
      refine ev_iconstN (v := 1) i_Tb_putRule_14 (by decide) ?_
      first | refine ev_iaddN i_Tb_putRule_15 ?_ | refine ev_iadd i_Tb_putRule_15 ?_
      refine ev_put i_Tb_putRule_16 hT.1 (Nat.le_of_ble_eq_true rfl) rfl rfl ?_
      refine ev_aload_n i_Tb_putRule_19 rfl ?_
      refine ev_iload_n i_Tb_putRule_20 rfl ?_
      refine ev_iload_n i_Tb_putRule_21 rfl ?_
      refine ev_callS2 i_Tb_putRule_22 rfl (Nat.le_of_ble_eq_true rfl) c_Tb_ruleSlot ?_
      refine ev_aload_n i_Tb_putRule_25 rfl ?_
      refine ev_callV2 i_Tb_putRule_26 rfl hT0.1 (Nat.le_of_ble_eq_true rfl) (hm _) ?_
      exact ev_vret i_Tb_putRule_29 rfl

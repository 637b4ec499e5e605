/-! the class Adults: steps, counts -/
/-- after how many steps an adult word comes, within k words -/
def adS (T : TabV) : Nat → List Nat → Option Nat
  | 0, _ => none
  | k + 1, xs => if 60 < (stepW T xs (nI 0)).length then none else if stepW T xs (nI 0) = xs then some 0 else (adS T k (stepW T xs (nI 0))).map (· + 1)
def adR (o : Option Nat) (i : Nat) : Int32 := match o with
  | some n => nI (i + n)
  | none => -1
theorem adR_map {o : Option Nat} {i : Nat} : adR (o.map (· + 1)) i = adR o (i + 1) := by
  cases o with
  | none => rfl
  | some n => show nI (i + (n + 1)) = nI (i + 1 + n); congr 1; omega
theorem adS_lt {T : TabV} : ∀ {k n : Nat} {xs : List Nat}, adS T k xs = some n → n < k := by
  intro k
  induction k with
  | zero => intro n xs h; cases h
  | succ k ih =>
    intro n xs h
    unfold adS at h
    split at h
    · cases h
    · split at h
      · have := Option.some.inj h; omega
      · obtain ⟨m, hm, e⟩ := Option.map_eq_some_iff.mp h
        have := ih hm
        omega
abbrev adK : List Nat := [74, 75, 76, 77]
def tabOff (t : Nat) (K : List Nat) : Prop := t ∉ K ∧ t + 1 ∉ K ∧ t + 2 ∉ K ∧ t + 3 ∉ K
theorem tabOff.mono {t : Nat} {K K' : List Nat} (h : tabOff t K) (hs : ∀ k, k ∈ K' → k ∈ K) : tabOff t K' := ⟨fun q => h.1 (hs _ q), fun q => h.2.1 (hs _ q), fun q => h.2.2.1 (hs _ q), fun q => h.2.2.2 (hs _ q)⟩
theorem lp_sUK {scr : Scr} {l : Launch} {S : Sto} {t lim : Nat} {T : TabV} {u2 : Option Value} (ho : S.1[73]? = some (oB 2 [.ref 74, .ref 76])) (ht : TabAt S t T) (hd : tabOff t adK) (hlim : lim ≤ 50) : ∀ (k i : Nat), i + k = lim + 1 → ∀ (S2 : Sto) (xs : List Nat), WordAt S2 74 75 xs → (∃ zs, WordAt S2 76 77 zs) → Fr adK S S2 → ∃ S3, (∀ d, Ev scr l (d + 3) M_Ad_stepsUntilKept 11 [some (.ref 73), some (.ref t), u2, some (.int (nI lim)), some (.int (nI i))] [] S2 (.inl (some (.int (adR (adS T k xs) i))), S3)) ∧ ((∃ zs, WordAt S3 74 75 zs) ∧ ∃ zs, WordAt S3 76 77 zs) ∧ Fr adK S S3 := by
  intro k
  induction k with
  | zero =>
    intro i hi S2 xs hx hz hF
    refine ⟨S2, fun d => ?_, ⟨⟨xs, hx⟩, hz⟩, hF⟩
    show Ev _ _ _ _ _ _ _ _ (.inl (some (.int (-1))), S2)
    refine ev_iload i_Ad_stepsUntilKept_11 rfl ?_
    refine ev_iload_n i_Ad_stepsUntilKept_13 rfl ?_
    refine ev_icmp_gtN i_Ad_stepsUntilKept_14 (by omega) (by omega) (fun hc_14 => ?_) (fun hc_14 => ?_)
    · skip
      refine ev_iconst (v := -1) i_Ad_stepsUntilKept_69 (by decide) ?_
      exact ev_iret i_Ad_stepsUntilKept_70 rfl (by first | rfl | decide)
    · skip
      exfalso; omega
  | succ k ih =>
    intro i hi S2 xs hx hz hF
    obtain ⟨zs, hz⟩ := hz
    have ht2 := ht.fr hF hd
    obtain ⟨rc, htb, -⟩ := tab_obj ht2
    have o2 := hF.at ho (by decide)
    unfold adS
    by_cases hl : 60 < (stepW T xs (nI 0)).length
    · rw [if_pos hl]
      obtain ⟨S3, m3, w3, f3⟩ := (t_rewrite (scr := scr) (l := l) (seed := nI 0) ht2 hx (hd.mono (by simp)) ⟨by decide, by decide⟩ hz).2 hl
      refine ⟨S3, fun d => ?_, ⟨⟨xs, hx.fr f3 ⟨by decide, by decide⟩⟩, w3⟩, hF.tr (f3.mono (by simp))⟩
      show Ev _ _ _ _ _ _ _ _ (.inl (some (.int (-1))), S3)
      refine ev_iload i_Ad_stepsUntilKept_11 rfl ?_
      refine ev_iload_n i_Ad_stepsUntilKept_13 rfl ?_
      refine ev_icmp_gtN i_Ad_stepsUntilKept_14 (by omega) (by omega) (fun hc_14 => ?_) (fun hc_14 => ?_)
      · skip
        exfalso; omega
      · skip
        refine ev_aload_n i_Ad_stepsUntilKept_17 rfl ?_
        refine ev_aload_n i_Ad_stepsUntilKept_18 rfl ?_
        refine ev_get i_Ad_stepsUntilKept_19 o2 rfl ?_
        refine ev_iconstN (v := 0) i_Ad_stepsUntilKept_22 (by decide) ?_
        refine ev_aload_n i_Ad_stepsUntilKept_23 rfl ?_
        refine ev_get i_Ad_stepsUntilKept_24 o2 rfl ?_
        refine ev_callV3 i_Ad_stepsUntilKept_27 rfl htb (Nat.le_of_ble_eq_true rfl) (m3 _) ?_
        refine ev_if_neN i_Ad_stepsUntilKept_30 (by omega) (fun hc_30 => ?_) (fun hc_30 => ?_)
        · skip
          exfalso; omega
        · skip
          refine ev_iconst (v := -1) i_Ad_stepsUntilKept_33 (by decide) ?_
          exact ev_iret i_Ad_stepsUntilKept_34 rfl (by first | rfl | decide)
    · rw [if_neg hl]
      obtain ⟨S3, m3, w3, f3⟩ := (t_rewrite (scr := scr) (l := l) (seed := nI 0) ht2 hx (hd.mono (by simp)) ⟨by decide, by decide⟩ hz).1 (by omega)
      have y3 := hx.fr f3 ⟨by decide, by decide⟩
      have o3 := f3.at o2 (by decide)
      by_cases he : stepW T xs (nI 0) = xs
      · rw [if_pos he]
        refine ⟨S3, fun d => ?_, ⟨⟨xs, y3⟩, ⟨_, w3⟩⟩, hF.tr (f3.mono (by simp))⟩
        show Ev _ _ _ _ _ _ _ _ (.inl (some (.int (nI i))), S3)
        refine ev_iload i_Ad_stepsUntilKept_11 rfl ?_
        refine ev_iload_n i_Ad_stepsUntilKept_13 rfl ?_
        refine ev_icmp_gtN i_Ad_stepsUntilKept_14 (by omega) (by omega) (fun hc_14 => ?_) (fun hc_14 => ?_)
        · skip
          exfalso; omega
        · skip
          refine ev_aload_n i_Ad_stepsUntilKept_17 rfl ?_
          refine ev_aload_n i_Ad_stepsUntilKept_18 rfl ?_
          refine ev_get i_Ad_stepsUntilKept_19 o2 rfl ?_
          refine ev_iconstN (v := 0) i_Ad_stepsUntilKept_22 (by decide) ?_
          refine ev_aload_n i_Ad_stepsUntilKept_23 rfl ?_
          refine ev_get i_Ad_stepsUntilKept_24 o2 rfl ?_
          refine ev_callV3 i_Ad_stepsUntilKept_27 rfl htb (Nat.le_of_ble_eq_true rfl) (m3 _) ?_
          refine ev_if_neN i_Ad_stepsUntilKept_30 (by omega) (fun hc_30 => ?_) (fun hc_30 => ?_)
          · skip
            refine ev_aload_n i_Ad_stepsUntilKept_35 rfl ?_
            refine ev_get i_Ad_stepsUntilKept_36 o3 rfl ?_
            refine ev_aload_n i_Ad_stepsUntilKept_39 rfl ?_
            refine ev_get i_Ad_stepsUntilKept_40 o3 rfl ?_
            refine ev_callV1 i_Ad_stepsUntilKept_43 rfl w3.1 (Nat.le_of_ble_eq_true rfl) (w_same w3 y3) ?_
            rw [if_pos he]
            refine ev_if_eqN i_Ad_stepsUntilKept_46 (by omega) (fun hc_46 => ?_) (fun hc_46 => ?_)
            · skip
              exfalso; omega
            · skip
              refine ev_iload i_Ad_stepsUntilKept_49 rfl ?_
              exact ev_iret i_Ad_stepsUntilKept_51 rfl (by first | rfl | decide)
          · skip
            exfalso; omega
      · rw [if_neg he, adR_map]
        obtain ⟨S4, m4, w4, f4⟩ := w_copy (scr := scr) (l := l) y3 w3
        obtain ⟨S5, m5, r5⟩ := ih (i + 1) (by omega) S4 _ w4 ⟨_, w3.fr f4 ⟨by decide, by decide⟩⟩ ((hF.tr (f3.mono (by simp))).tr (f4.mono (by simp)))
        refine ⟨S5, fun d => ?_, r5⟩
        refine ev_iload i_Ad_stepsUntilKept_11 rfl ?_
        refine ev_iload_n i_Ad_stepsUntilKept_13 rfl ?_
        refine ev_icmp_gtN i_Ad_stepsUntilKept_14 (by omega) (by omega) (fun hc_14 => ?_) (fun hc_14 => ?_)
        · skip
          exfalso; omega
        · skip
          refine ev_aload_n i_Ad_stepsUntilKept_17 rfl ?_
          refine ev_aload_n i_Ad_stepsUntilKept_18 rfl ?_
          refine ev_get i_Ad_stepsUntilKept_19 o2 rfl ?_
          refine ev_iconstN (v := 0) i_Ad_stepsUntilKept_22 (by decide) ?_
          refine ev_aload_n i_Ad_stepsUntilKept_23 rfl ?_
          refine ev_get i_Ad_stepsUntilKept_24 o2 rfl ?_
          refine ev_callV3 i_Ad_stepsUntilKept_27 rfl htb (Nat.le_of_ble_eq_true rfl) (m3 _) ?_
          refine ev_if_neN i_Ad_stepsUntilKept_30 (by omega) (fun hc_30 => ?_) (fun hc_30 => ?_)
          · skip
            refine ev_aload_n i_Ad_stepsUntilKept_35 rfl ?_
            refine ev_get i_Ad_stepsUntilKept_36 o3 rfl ?_
            refine ev_aload_n i_Ad_stepsUntilKept_39 rfl ?_
            refine ev_get i_Ad_stepsUntilKept_40 o3 rfl ?_
            refine ev_callV1 i_Ad_stepsUntilKept_43 rfl w3.1 (Nat.le_of_ble_eq_true rfl) (w_same w3 y3) ?_
            rw [if_neg he]
            refine ev_if_eqN i_Ad_stepsUntilKept_46 (by omega) (fun hc_46 => ?_) (fun hc_46 => ?_)
            · skip
              refine ev_aload_n i_Ad_stepsUntilKept_52 rfl ?_
              refine ev_get i_Ad_stepsUntilKept_53 o3 rfl ?_
              refine ev_aload_n i_Ad_stepsUntilKept_56 rfl ?_
              refine ev_get i_Ad_stepsUntilKept_57 o3 rfl ?_
              refine ev_callV1 i_Ad_stepsUntilKept_60 rfl y3.1 (Nat.le_of_ble_eq_true rfl) (m4 _) ?_
              refine ev_iincN_4 (c := 1) i_Ad_stepsUntilKept_63 (by decide) rfl ?_
              refine ev_goto i_Ad_stepsUntilKept_66 ?_
              exact m5 d
            · skip
              exfalso; omega
          · skip
            exfalso; omega
theorem a_steps {scr : Scr} {l : Launch} {S : Sto} {t w a lim : Nat} {T : TabV} {xs : List Nat} (h : AdOK S) (ht : TabAt S t T) (hx : WordAt S w a xs) (hd : tabOff t adK) (hlim : lim ≤ 50) : ∃ S1, (∀ d, MetA scr l (d + 3) M_Ad_stepsUntilKept [.ref 73, .ref t, .ref w, .int (nI lim)] S (.inl (some (.int (adR (adS T (lim + 1) xs) 0))), S1)) ∧ AdOK S1 ∧ Fr adK S S1 := by
  obtain ⟨zs, hw⟩ := h.2.1
  obtain ⟨S1, m1, w1, f1⟩ := w_copy (scr := scr) (l := l) hw hx
  obtain ⟨S2, m2, ⟨r1, r2⟩, f2⟩ := lp_sUK (scr := scr) (l := l) (u2 := some (.ref w)) h.1 ht hd hlim (lim + 1) 0 (by omega) S1 xs w1 (wfr h.2.2 f1 ⟨by decide, by decide⟩) (f1.mono (by simp))
  refine ⟨S2, fun d => ?_, ⟨f2.at h.1 (by decide), r1, r2⟩, f2⟩
  refine MetA.of rfl (by decide +kernel) (Nat.le_of_ble_eq_true rfl) ?_
  refine ev_aload_n i_Ad_stepsUntilKept_0 rfl ?_
  refine ev_get i_Ad_stepsUntilKept_1 h.1 rfl ?_
  refine ev_aload_n i_Ad_stepsUntilKept_4 rfl ?_
  refine ev_callV1 i_Ad_stepsUntilKept_5 rfl hw.1 (Nat.le_of_ble_eq_true rfl) (m1 _) ?_
  refine ev_iconstN (v := 0) i_Ad_stepsUntilKept_8 (by decide) ?_
  refine ev_ist_4 i_Ad_stepsUntilKept_9 rfl ?_
  exact m2 d
/-- how many words that begin with w, k letters longer, are adult -/
def cntA (T : TabV) : Nat → List Nat → Nat
  | 0, w => bI (adB T w)
  | k + 1, w => sumN (fun a => cntA T k (w ++ [a])) 6
theorem cntA_le {T : TabV} : ∀ {k : Nat} {w : List Nat}, cntA T k w ≤ 6 ^ k := by
  intro k
  induction k with
  | zero => intro w; exact bI_le _
  | succ k ih =>
    intro w
    have := sumN_le (f := fun a => cntA T k (w ++ [a])) (b := 6 ^ k) (n := 6) (fun i _ => ih)
    show sumN _ 6 ≤ _
    rw [Nat.pow_succ]
    omega
theorem getD_left {xs ys : List Nat} {j : Nat} (h : j < xs.length) : (xs ++ ys).getD j 0 = xs.getD j 0 := by
  rw [List.getD_eq_getElem?_getD, List.getD_eq_getElem?_getD, List.getElem?_append_left h]
theorem ruleAt_left {T : TabV} {xs ys : List Nat} {i : Nat} (h : i < xs.length) : ruleAt T (xs ++ ys) i = ruleAt T xs i := by
  unfold ruleAt
  by_cases z : i = 0
  · rw [if_pos z, if_pos z]
  · rw [if_neg z, if_neg z, getD_left h, getD_left (by omega)]
theorem stepN_left {T : TabV} {xs ys : List Nat} {s : Int32} : ∀ {i : Nat}, i ≤ xs.length → stepN T (xs ++ ys) s i = stepN T xs s i := by
  intro i
  induction i with
  | zero => intro _; rfl
  | succ i ih =>
    intro h
    have e := ih (by omega)
    have ep : ∀ x, prodAt T (xs ++ ys) i x = prodAt T xs i x := fun x => by
      unfold prodAt listAt
      rw [ruleAt_left (by omega), getD_left (by omega)]
    show ((stepN T (xs ++ ys) s i).1 ++ (prodAt T (xs ++ ys) i (stepN T (xs ++ ys) s i).2).1, (prodAt T (xs ++ ys) i (stepN T (xs ++ ys) s i).2).2) = ((stepN T xs s i).1 ++ (prodAt T xs i (stepN T xs s i).2).1, (prodAt T xs i (stepN T xs s i).2).2)
    rw [e, ep]
theorem stepW_left {T : TabV} {xs : List Nat} {a : Nat} {s : Int32} : ∃ u, stepW T (xs ++ [a]) s = stepW T xs s ++ u := by
  refine ⟨(prodAt T (xs ++ [a]) xs.length (stepN T (xs ++ [a]) s xs.length).2).1, ?_⟩
  unfold stepW
  rw [List.length_append]
  show (stepN T (xs ++ [a]) s xs.length).1 ++ _ = _
  rw [stepN_left (Nat.le_refl _)]
theorem oneI_left {T : TabV} {xs : List Nat} {a : Nat} (h : oneI T (xs ++ [a]) = true) : oneI T xs = true := by
  unfold oneI at h ⊢
  refine allB_iff.mpr (fun i hi => ?_)
  have := allB_iff.mp h i (by rw [List.length_append]; omega)
  rw [ruleAt_left hi, getD_left hi] at this
  exact this
theorem agr_left {xs ys u : List Nat} {a : Nat} (h : agrW (xs ++ u) (ys ++ [a])) : agrW xs ys := by
  intro j hj
  have := h j (by rw [List.length_append, List.length_append]; omega)
  rw [getD_left (by omega), getD_left (by omega)] at this
  exact this
/-- a beginning that its own image contradicts -/
def badW (T : TabV) (w : List Nat) : Prop := oneI T w = false ∨ 60 < (stepW T w (nI 0)).length ∨ ¬ agrW (stepW T w (nI 0)) w
theorem badW.app {T : TabV} {w : List Nat} {a : Nat} (h : badW T w) : badW T (w ++ [a]) := by
  obtain ⟨u, hu⟩ := stepW_left (T := T) (xs := w) (a := a) (s := nI 0)
  rcases h with h | h | h
  · left
    cases hz : oneI T (w ++ [a]) with
    | false => rfl
    | true => rw [oneI_left hz] at h; cases h
  · right; left
    rw [hu, List.length_append]
    omega
  · right; right
    rw [hu]
    exact fun q => h (agr_left q)
theorem sumN_zero {f : Nat → Nat} {n : Nat} (h : ∀ i, i < n → f i = 0) : sumN f n = 0 := by
  have := sumN_le (f := f) (b := 0) (n := n) (fun i hi => by rw [h i hi]; exact Nat.le_refl _)
  omega
theorem cnt_bad {T : TabV} : ∀ {k : Nat} {w : List Nat}, w.length + k ≤ 60 → badW T w → cntA T k w = 0 := by
  intro k
  induction k with
  | zero =>
    intro w hw h
    show bI (adB T w) = 0
    have e : adB T w = false := by
      unfold adB
      rcases h with h | h | h
      · rw [h]; rfl
      · rw [decide_eq_false (fun q => by rw [q] at h; omega), Bool.and_false]
      · rw [decide_eq_false (fun q => h (by rw [q]; exact fun j _ => rfl)), Bool.and_false]
    rw [e]; rfl
  | succ k ih =>
    intro w hw h
    exact sumN_zero (fun i hi => ih (by rw [List.length_append]; show w.length + 1 + k ≤ 60; omega) h.app)
theorem WordAt.cut {S : Sto} {w a x : Nat} {ws : List Nat} (h : WordAt S w a (ws ++ [x])) : WordAt (S.put w (oB 12 [.ref a, .int (nI ws.length)])) w a ws := by
  have hne := h.ne
  obtain ⟨h1, h2, h3, f, h4, h5⟩ := h
  rw [List.length_append] at h2 h3 h5
  refine ⟨put_self h1, by omega, fun j hj => ?_, f, put_at h4 hne.symm, fun j hj => ?_⟩
  · have := h3 j (by omega)
    rw [getD_left hj] at this; exact this
  · have := h5 j (by omega)
    rw [getD_left hj] at this; exact this
theorem WordAt.nil {S : Sto} {w a : Nat} {ws : List Nat} (h : WordAt S w a ws) : WordAt (S.put w (oB 12 [.ref a, .int (nI 0)])) w a [] := by
  have hne := h.ne
  obtain ⟨h1, h2, h3, f, h4, h5⟩ := h
  exact ⟨put_self h1, Nat.zero_le _, fun j hj => absurd hj (by show ¬ j < 0; omega), f, put_at h4 hne.symm, fun j hj => absurd hj (by show ¬ j < 0; omega)⟩
theorem a_cnt {scr : Scr} {l : Launch} {S : Sto} {t len : Nat} {T : TabV} (ho : S.1[73]? = some (oB 2 [.ref 74, .ref 76])) (ht : TabAt S t T) (hd : tabOff t adK) (hlen : len ≤ 4) : ∀ (k : Nat) (ws : List Nat) (S2 : Sto), ws.length + k = len → WordAt S2 74 75 ws → (∃ zs, WordAt S2 76 77 zs) → Fr adK S S2 → ∃ S3, (∀ d, MetA scr l (d + k + 4) M_Ad_countExtensions [.ref 73, .ref t, .int (nI len)] S2 (.inl (some (.int (nI (cntA T k ws)))), S3)) ∧ WordAt S3 74 75 ws ∧ (∃ zs, WordAt S3 76 77 zs) ∧ Fr adK S S3 := by
  intro k
  induction k with
  | zero =>
    intro ws S2 hk hx hz hF
    obtain ⟨zs, hz⟩ := hz
    have ht2 := ht.fr hF hd
    obtain ⟨rc, htb, -⟩ := tab_obj ht2
    have o2 := hF.at ho (by decide)
    by_cases hb : badW T ws
    · rw [cnt_bad (by omega) hb]
      cases h1 : oneI T ws with
      | false =>
        refine ⟨S2, fun d => ?_, hx, ⟨zs, hz⟩, hF⟩
        refine MetA.of rfl (by decide +kernel) (Nat.le_of_ble_eq_true rfl) ?_
        refine ev_aload_n i_Ad_countExtensions_0 rfl ?_
        refine ev_aload_n i_Ad_countExtensions_1 rfl ?_
        refine ev_get i_Ad_countExtensions_2 o2 rfl ?_
        refine ev_callS2 i_Ad_countExtensions_5 rfl (Nat.le_of_ble_eq_true rfl) (a_oneI ht2 hx) ?_
        rw [h1, bI_f]
        refine ev_if_eqN i_Ad_countExtensions_8 (by omega) (fun hc_8 => ?_) (fun hc_8 => ?_)
        · skip
          refine ev_iconstN (v := 0) i_Ad_countExtensions_41 (by decide) ?_
          exact ev_iret i_Ad_countExtensions_42 rfl (by first | rfl | decide)
        · skip
          exfalso; omega
      | true =>
        by_cases hl : 60 < (stepW T ws (nI 0)).length
        · obtain ⟨S3, m3, w3, f3⟩ := (t_rewrite (scr := scr) (l := l) (seed := nI 0) ht2 hx (hd.mono (by simp)) ⟨by decide, by decide⟩ hz).2 hl
          refine ⟨S3, fun d => ?_, hx.fr f3 ⟨by decide, by decide⟩, w3, hF.tr (f3.mono (by simp))⟩
          refine MetA.of rfl (by decide +kernel) (Nat.le_of_ble_eq_true rfl) ?_
          refine ev_aload_n i_Ad_countExtensions_0 rfl ?_
          refine ev_aload_n i_Ad_countExtensions_1 rfl ?_
          refine ev_get i_Ad_countExtensions_2 o2 rfl ?_
          refine ev_callS2 i_Ad_countExtensions_5 rfl (Nat.le_of_ble_eq_true rfl) (a_oneI ht2 hx) ?_
          rw [h1, bI_t]
          refine ev_if_eqN i_Ad_countExtensions_8 (by omega) (fun hc_8 => ?_) (fun hc_8 => ?_)
          · skip
            exfalso; omega
          · skip
            refine ev_aload_n i_Ad_countExtensions_11 rfl ?_
            refine ev_aload_n i_Ad_countExtensions_12 rfl ?_
            refine ev_get i_Ad_countExtensions_13 o2 rfl ?_
            refine ev_iconstN (v := 0) i_Ad_countExtensions_16 (by decide) ?_
            refine ev_aload_n i_Ad_countExtensions_17 rfl ?_
            refine ev_get i_Ad_countExtensions_18 o2 rfl ?_
            refine ev_callV3 i_Ad_countExtensions_21 rfl htb (Nat.le_of_ble_eq_true rfl) (m3 _) ?_
            refine ev_if_eqN i_Ad_countExtensions_24 (by omega) (fun hc_24 => ?_) (fun hc_24 => ?_)
            · skip
              refine ev_iconstN (v := 0) i_Ad_countExtensions_41 (by decide) ?_
              exact ev_iret i_Ad_countExtensions_42 rfl (by first | rfl | decide)
            · skip
              exfalso; omega
        · obtain ⟨S3, m3, w3, f3⟩ := (t_rewrite (scr := scr) (l := l) (seed := nI 0) ht2 hx (hd.mono (by simp)) ⟨by decide, by decide⟩ hz).1 (by omega)
          have y3 := hx.fr f3 ⟨by decide, by decide⟩
          have o3 := f3.at o2 (by decide)
          have ha : ¬ agrW (stepW T ws (nI 0)) ws := by
            rcases hb with q | q | q
            · rw [h1] at q; cases q
            · exact absurd q hl
            · exact q
          refine ⟨S3, fun d => ?_, y3, ⟨_, w3⟩, hF.tr (f3.mono (by simp))⟩
          refine MetA.of rfl (by decide +kernel) (Nat.le_of_ble_eq_true rfl) ?_
          refine ev_aload_n i_Ad_countExtensions_0 rfl ?_
          refine ev_aload_n i_Ad_countExtensions_1 rfl ?_
          refine ev_get i_Ad_countExtensions_2 o2 rfl ?_
          refine ev_callS2 i_Ad_countExtensions_5 rfl (Nat.le_of_ble_eq_true rfl) (a_oneI ht2 hx) ?_
          rw [h1, bI_t]
          refine ev_if_eqN i_Ad_countExtensions_8 (by omega) (fun hc_8 => ?_) (fun hc_8 => ?_)
          · skip
            exfalso; omega
          · skip
            refine ev_aload_n i_Ad_countExtensions_11 rfl ?_
            refine ev_aload_n i_Ad_countExtensions_12 rfl ?_
            refine ev_get i_Ad_countExtensions_13 o2 rfl ?_
            refine ev_iconstN (v := 0) i_Ad_countExtensions_16 (by decide) ?_
            refine ev_aload_n i_Ad_countExtensions_17 rfl ?_
            refine ev_get i_Ad_countExtensions_18 o2 rfl ?_
            refine ev_callV3 i_Ad_countExtensions_21 rfl htb (Nat.le_of_ble_eq_true rfl) (m3 _) ?_
            refine ev_if_eqN i_Ad_countExtensions_24 (by omega) (fun hc_24 => ?_) (fun hc_24 => ?_)
            · skip
              exfalso; omega
            · skip
              refine ev_aload_n i_Ad_countExtensions_27 rfl ?_
              refine ev_get i_Ad_countExtensions_28 o3 rfl ?_
              refine ev_aload_n i_Ad_countExtensions_31 rfl ?_
              refine ev_get i_Ad_countExtensions_32 o3 rfl ?_
              refine ev_callV1 i_Ad_countExtensions_35 rfl w3.1 (Nat.le_of_ble_eq_true rfl) ((w_agrees w3 y3).2 ha) ?_
              refine ev_if_neN i_Ad_countExtensions_38 (by omega) (fun hc_38 => ?_) (fun hc_38 => ?_)
              · skip
                exfalso; omega
              · skip
                refine ev_iconstN (v := 0) i_Ad_countExtensions_41 (by decide) ?_
                exact ev_iret i_Ad_countExtensions_42 rfl (by first | rfl | decide)
    · have h1 : oneI T ws = true := by
        cases q : oneI T ws with
        | true => rfl
        | false => exact absurd (Or.inl q) hb
      have hl : ¬ 60 < (stepW T ws (nI 0)).length := fun q => hb (Or.inr (Or.inl q))
      have ha : agrW (stepW T ws (nI 0)) ws := Classical.byContradiction (fun q => hb (Or.inr (Or.inr q)))
      obtain ⟨S3, m3, w3, f3⟩ := (t_rewrite (scr := scr) (l := l) (seed := nI 0) ht2 hx (hd.mono (by simp)) ⟨by decide, by decide⟩ hz).1 (by omega)
      have y3 := hx.fr f3 ⟨by decide, by decide⟩
      have o3 := f3.at o2 (by decide)
      have hF3 := hF.tr (f3.mono (K' := adK) (by simp))
      refine ⟨S3, fun d => ?_, y3, ⟨_, w3⟩, hF3⟩
      show MetA _ _ _ _ _ _ (.inl (some (.int (nI (bI (adB T ws))))), _)
      unfold adB
      rw [h1, Bool.true_and]
      by_cases hq : (stepW T ws (nI 0)).length = ws.length
      · have e : stepW T ws (nI 0) = ws := list_ext hq (fun j hj => ha j (by omega))
        rw [decide_eq_true e, bI_t]
        refine MetA.of rfl (by decide +kernel) (Nat.le_of_ble_eq_true rfl) ?_
        refine ev_aload_n i_Ad_countExtensions_0 rfl ?_
        refine ev_aload_n i_Ad_countExtensions_1 rfl ?_
        refine ev_get i_Ad_countExtensions_2 o2 rfl ?_
        refine ev_callS2 i_Ad_countExtensions_5 rfl (Nat.le_of_ble_eq_true rfl) (a_oneI ht2 hx) ?_
        rw [h1, bI_t]
        refine ev_if_eqN i_Ad_countExtensions_8 (by omega) (fun hc_8 => ?_) (fun hc_8 => ?_)
        · skip
          exfalso; omega
        · skip
          refine ev_aload_n i_Ad_countExtensions_11 rfl ?_
          refine ev_aload_n i_Ad_countExtensions_12 rfl ?_
          refine ev_get i_Ad_countExtensions_13 o2 rfl ?_
          refine ev_iconstN (v := 0) i_Ad_countExtensions_16 (by decide) ?_
          refine ev_aload_n i_Ad_countExtensions_17 rfl ?_
          refine ev_get i_Ad_countExtensions_18 o2 rfl ?_
          refine ev_callV3 i_Ad_countExtensions_21 rfl htb (Nat.le_of_ble_eq_true rfl) (m3 _) ?_
          refine ev_if_eqN i_Ad_countExtensions_24 (by omega) (fun hc_24 => ?_) (fun hc_24 => ?_)
          · skip
            exfalso; omega
          · skip
            refine ev_aload_n i_Ad_countExtensions_27 rfl ?_
            refine ev_get i_Ad_countExtensions_28 o3 rfl ?_
            refine ev_aload_n i_Ad_countExtensions_31 rfl ?_
            refine ev_get i_Ad_countExtensions_32 o3 rfl ?_
            refine ev_callV1 i_Ad_countExtensions_35 rfl w3.1 (Nat.le_of_ble_eq_true rfl) ((w_agrees w3 y3).1 ha) ?_
            refine ev_if_neN i_Ad_countExtensions_38 (by omega) (fun hc_38 => ?_) (fun hc_38 => ?_)
            · skip
              refine ev_aload_n i_Ad_countExtensions_43 rfl ?_
              refine ev_get i_Ad_countExtensions_44 o3 rfl ?_
              refine ev_get i_Ad_countExtensions_47 y3.1 rfl ?_
              refine ev_iload_n i_Ad_countExtensions_50 rfl ?_
              refine ev_icmp_ltN i_Ad_countExtensions_51 (by omega) (by omega) (fun hc_51 => ?_) (fun hc_51 => ?_)
              · skip
                exfalso; omega
              · skip
                refine ev_aload_n i_Ad_countExtensions_54 rfl ?_
                refine ev_get i_Ad_countExtensions_55 o3 rfl ?_
                refine ev_get i_Ad_countExtensions_58 w3.1 rfl ?_
                refine ev_aload_n i_Ad_countExtensions_61 rfl ?_
                refine ev_get i_Ad_countExtensions_62 o3 rfl ?_
                refine ev_get i_Ad_countExtensions_65 y3.1 rfl ?_
                refine ev_icmp_neN i_Ad_countExtensions_68 (by omega) (by omega) (fun hc_68 => ?_) (fun hc_68 => ?_)
                · skip
                  exfalso; omega
                · skip
                  refine ev_iconstN (v := 1) i_Ad_countExtensions_71 (by decide) ?_
                  refine ev_goto i_Ad_countExtensions_72 ?_
                  exact ev_iret i_Ad_countExtensions_76 rfl (by first | rfl | decide)
            · skip
              exfalso; omega
      · have e : stepW T ws (nI 0) ≠ ws := fun q => hq (by rw [q])
        rw [decide_eq_false e, bI_f]
        refine MetA.of rfl (by decide +kernel) (Nat.le_of_ble_eq_true rfl) ?_
        refine ev_aload_n i_Ad_countExtensions_0 rfl ?_
        refine ev_aload_n i_Ad_countExtensions_1 rfl ?_
        refine ev_get i_Ad_countExtensions_2 o2 rfl ?_
        refine ev_callS2 i_Ad_countExtensions_5 rfl (Nat.le_of_ble_eq_true rfl) (a_oneI ht2 hx) ?_
        rw [h1, bI_t]
        refine ev_if_eqN i_Ad_countExtensions_8 (by omega) (fun hc_8 => ?_) (fun hc_8 => ?_)
        · skip
          exfalso; omega
        · skip
          refine ev_aload_n i_Ad_countExtensions_11 rfl ?_
          refine ev_aload_n i_Ad_countExtensions_12 rfl ?_
          refine ev_get i_Ad_countExtensions_13 o2 rfl ?_
          refine ev_iconstN (v := 0) i_Ad_countExtensions_16 (by decide) ?_
          refine ev_aload_n i_Ad_countExtensions_17 rfl ?_
          refine ev_get i_Ad_countExtensions_18 o2 rfl ?_
          refine ev_callV3 i_Ad_countExtensions_21 rfl htb (Nat.le_of_ble_eq_true rfl) (m3 _) ?_
          refine ev_if_eqN i_Ad_countExtensions_24 (by omega) (fun hc_24 => ?_) (fun hc_24 => ?_)
          · skip
            exfalso; omega
          · skip
            refine ev_aload_n i_Ad_countExtensions_27 rfl ?_
            refine ev_get i_Ad_countExtensions_28 o3 rfl ?_
            refine ev_aload_n i_Ad_countExtensions_31 rfl ?_
            refine ev_get i_Ad_countExtensions_32 o3 rfl ?_
            refine ev_callV1 i_Ad_countExtensions_35 rfl w3.1 (Nat.le_of_ble_eq_true rfl) ((w_agrees w3 y3).1 ha) ?_
            refine ev_if_neN i_Ad_countExtensions_38 (by omega) (fun hc_38 => ?_) (fun hc_38 => ?_)
            · skip
              refine ev_aload_n i_Ad_countExtensions_43 rfl ?_
              refine ev_get i_Ad_countExtensions_44 o3 rfl ?_
              refine ev_get i_Ad_countExtensions_47 y3.1 rfl ?_
              refine ev_iload_n i_Ad_countExtensions_50 rfl ?_
              refine ev_icmp_ltN i_Ad_countExtensions_51 (by omega) (by omega) (fun hc_51 => ?_) (fun hc_51 => ?_)
              · skip
                exfalso; omega
              · skip
                refine ev_aload_n i_Ad_countExtensions_54 rfl ?_
                refine ev_get i_Ad_countExtensions_55 o3 rfl ?_
                refine ev_get i_Ad_countExtensions_58 w3.1 rfl ?_
                refine ev_aload_n i_Ad_countExtensions_61 rfl ?_
                refine ev_get i_Ad_countExtensions_62 o3 rfl ?_
                refine ev_get i_Ad_countExtensions_65 y3.1 rfl ?_
                refine ev_icmp_neN i_Ad_countExtensions_68 (by omega) (by omega) (fun hc_68 => ?_) (fun hc_68 => ?_)
                · skip
                  refine ev_iconstN (v := 0) i_Ad_countExtensions_75 (by decide) ?_
                  exact ev_iret i_Ad_countExtensions_76 rfl (by first | rfl | decide)
                · skip
                  exfalso; omega
            · skip
              exfalso; omega
  | succ k ih =>
    intro ws S2 hk hx hz hF
    obtain ⟨zs, hz⟩ := hz
    have ht2 := ht.fr hF hd
    obtain ⟨rc, htb, -⟩ := tab_obj ht2
    have o2 := hF.at ho (by decide)
    by_cases hb : badW T ws
    · rw [cnt_bad (by omega) hb]
      cases h1 : oneI T ws with
      | false =>
        refine ⟨S2, fun d => ?_, hx, ⟨zs, hz⟩, hF⟩
        refine MetA.of rfl (by decide +kernel) (Nat.le_of_ble_eq_true rfl) ?_
        refine ev_aload_n i_Ad_countExtensions_0 rfl ?_
        refine ev_aload_n i_Ad_countExtensions_1 rfl ?_
        refine ev_get i_Ad_countExtensions_2 o2 rfl ?_
        refine ev_callS2 i_Ad_countExtensions_5 rfl (Nat.le_of_ble_eq_true rfl) (a_oneI ht2 hx) ?_
        rw [h1, bI_f]
        refine ev_if_eqN i_Ad_countExtensions_8 (by omega) (fun hc_8 => ?_) (fun hc_8 => ?_)
        · skip
          refine ev_iconstN (v := 0) i_Ad_countExtensions_41 (by decide) ?_
          exact ev_iret i_Ad_countExtensions_42 rfl (by first | rfl | decide)
        · skip
          exfalso; omega
      | true =>
        by_cases hl : 60 < (stepW T ws (nI 0)).length
        · obtain ⟨S3, m3, w3, f3⟩ := (t_rewrite (scr := scr) (l := l) (seed := nI 0) ht2 hx (hd.mono (by simp)) ⟨by decide, by decide⟩ hz).2 hl
          refine ⟨S3, fun d => ?_, hx.fr f3 ⟨by decide, by decide⟩, w3, hF.tr (f3.mono (by simp))⟩
          refine MetA.of rfl (by decide +kernel) (Nat.le_of_ble_eq_true rfl) ?_
          refine ev_aload_n i_Ad_countExtensions_0 rfl ?_
          refine ev_aload_n i_Ad_countExtensions_1 rfl ?_
          refine ev_get i_Ad_countExtensions_2 o2 rfl ?_
          refine ev_callS2 i_Ad_countExtensions_5 rfl (Nat.le_of_ble_eq_true rfl) (a_oneI ht2 hx) ?_
          rw [h1, bI_t]
          refine ev_if_eqN i_Ad_countExtensions_8 (by omega) (fun hc_8 => ?_) (fun hc_8 => ?_)
          · skip
            exfalso; omega
          · skip
            refine ev_aload_n i_Ad_countExtensions_11 rfl ?_
            refine ev_aload_n i_Ad_countExtensions_12 rfl ?_
            refine ev_get i_Ad_countExtensions_13 o2 rfl ?_
            refine ev_iconstN (v := 0) i_Ad_countExtensions_16 (by decide) ?_
            refine ev_aload_n i_Ad_countExtensions_17 rfl ?_
            refine ev_get i_Ad_countExtensions_18 o2 rfl ?_
            refine ev_callV3 i_Ad_countExtensions_21 rfl htb (Nat.le_of_ble_eq_true rfl) (m3 _) ?_
            refine ev_if_eqN i_Ad_countExtensions_24 (by omega) (fun hc_24 => ?_) (fun hc_24 => ?_)
            · skip
              refine ev_iconstN (v := 0) i_Ad_countExtensions_41 (by decide) ?_
              exact ev_iret i_Ad_countExtensions_42 rfl (by first | rfl | decide)
            · skip
              exfalso; omega
        · obtain ⟨S3, m3, w3, f3⟩ := (t_rewrite (scr := scr) (l := l) (seed := nI 0) ht2 hx (hd.mono (by simp)) ⟨by decide, by decide⟩ hz).1 (by omega)
          have y3 := hx.fr f3 ⟨by decide, by decide⟩
          have o3 := f3.at o2 (by decide)
          have ha : ¬ agrW (stepW T ws (nI 0)) ws := by
            rcases hb with q | q | q
            · rw [h1] at q; cases q
            · exact absurd q hl
            · exact q
          refine ⟨S3, fun d => ?_, y3, ⟨_, w3⟩, hF.tr (f3.mono (by simp))⟩
          refine MetA.of rfl (by decide +kernel) (Nat.le_of_ble_eq_true rfl) ?_
          refine ev_aload_n i_Ad_countExtensions_0 rfl ?_
          refine ev_aload_n i_Ad_countExtensions_1 rfl ?_
          refine ev_get i_Ad_countExtensions_2 o2 rfl ?_
          refine ev_callS2 i_Ad_countExtensions_5 rfl (Nat.le_of_ble_eq_true rfl) (a_oneI ht2 hx) ?_
          rw [h1, bI_t]
          refine ev_if_eqN i_Ad_countExtensions_8 (by omega) (fun hc_8 => ?_) (fun hc_8 => ?_)
          · skip
            exfalso; omega
          · skip
            refine ev_aload_n i_Ad_countExtensions_11 rfl ?_
            refine ev_aload_n i_Ad_countExtensions_12 rfl ?_
            refine ev_get i_Ad_countExtensions_13 o2 rfl ?_
            refine ev_iconstN (v := 0) i_Ad_countExtensions_16 (by decide) ?_
            refine ev_aload_n i_Ad_countExtensions_17 rfl ?_
            refine ev_get i_Ad_countExtensions_18 o2 rfl ?_
            refine ev_callV3 i_Ad_countExtensions_21 rfl htb (Nat.le_of_ble_eq_true rfl) (m3 _) ?_
            refine ev_if_eqN i_Ad_countExtensions_24 (by omega) (fun hc_24 => ?_) (fun hc_24 => ?_)
            · skip
              exfalso; omega
            · skip
              refine ev_aload_n i_Ad_countExtensions_27 rfl ?_
              refine ev_get i_Ad_countExtensions_28 o3 rfl ?_
              refine ev_aload_n i_Ad_countExtensions_31 rfl ?_
              refine ev_get i_Ad_countExtensions_32 o3 rfl ?_
              refine ev_callV1 i_Ad_countExtensions_35 rfl w3.1 (Nat.le_of_ble_eq_true rfl) ((w_agrees w3 y3).2 ha) ?_
              refine ev_if_neN i_Ad_countExtensions_38 (by omega) (fun hc_38 => ?_) (fun hc_38 => ?_)
              · skip
                exfalso; omega
              · skip
                refine ev_iconstN (v := 0) i_Ad_countExtensions_41 (by decide) ?_
                exact ev_iret i_Ad_countExtensions_42 rfl (by first | rfl | decide)
    · have h1 : oneI T ws = true := by
        cases q : oneI T ws with
        | true => rfl
        | false => exact absurd (Or.inl q) hb
      have hl : ¬ 60 < (stepW T ws (nI 0)).length := fun q => hb (Or.inr (Or.inl q))
      have ha : agrW (stepW T ws (nI 0)) ws := Classical.byContradiction (fun q => hb (Or.inr (Or.inr q)))
      obtain ⟨S3, m3, w3, f3⟩ := (t_rewrite (scr := scr) (l := l) (seed := nI 0) ht2 hx (hd.mono (by simp)) ⟨by decide, by decide⟩ hz).1 (by omega)
      have y3 := hx.fr f3 ⟨by decide, by decide⟩
      have o3 := f3.at o2 (by decide)
      have hF3 := hF.tr (f3.mono (K' := adK) (by simp))
      have key : ∀ (j a : Nat), a + j = 6 → ∀ S4, WordAt S4 74 75 ws → (∃ zs, WordAt S4 76 77 zs) → Fr adK S S4 → ∃ S5, (∀ d, Ev scr l (d + (k + 1) + 4) M_Ad_countExtensions 91 [some (.ref 73), some (.ref t), some (.int (nI len)), some (.int (nI (sumN (fun a => cntA T k (ws ++ [a])) a))), some (.int (nI ws.length)), some (.int (nI a))] [] S4 (.inl (some (.int (nI (cntA T (k + 1) ws)))), S5)) ∧ WordAt S5 74 75 ws ∧ (∃ zs, WordAt S5 76 77 zs) ∧ Fr adK S S5 := by
        intro j
        induction j with
        | zero =>
          intro a ha6 S4 x4 z4 F4
          have z : a = 6 := by omega
          subst z
          refine ⟨S4, fun d => ?_, x4, z4, F4⟩
          show Ev _ _ _ _ _ _ _ _ (.inl (some (.int (nI (sumN (fun a => cntA T k (ws ++ [a])) 6)))), S4)
          refine ev_iload i_Ad_countExtensions_91 rfl ?_
          refine ev_bipushN (v := 6) i_Ad_countExtensions_93 (by decide) ?_
          refine ev_icmp_geN i_Ad_countExtensions_95 (by omega) (by omega) (fun hc_95 => ?_) (fun hc_95 => ?_)
          · skip
            refine ev_iload_n i_Ad_countExtensions_132 rfl ?_
            exact ev_iret i_Ad_countExtensions_133 rfl (by first | rfl | decide)
          · skip
            exfalso; omega
        | succ j ih2 =>
          intro a ha6 S4 x4 z4 F4
          have o4 := F4.at ho (by decide)
          obtain ⟨S5, m5, x5, f5⟩ := w_append (scr := scr) (l := l) x4 (show a < 6 by omega) (by omega)
          have F5 := F4.tr (f5.mono (K' := adK) (by simp))
          have o5 := F5.at ho (by decide)
          obtain ⟨S6, m6, x6, z6, F6⟩ := ih (ws ++ [a]) S5 (by rw [List.length_append]; show ws.length + 1 + k = len; omega) x5 (wfr z4 f5 ⟨by decide, by decide⟩) F5
          have o6 := F6.at ho (by decide)
          have x7 := x6.cut
          have f7 : Fr adK S6 (S6.put 74 (oB 12 [.ref 75, .int (nI ws.length)])) := Fr.put _ _ (by simp)
          obtain ⟨S7, m7, r7⟩ := ih2 (a + 1) (by omega) _ x7 (wfr z6 (Fr.put (K := [74]) S6 _ (by simp)) ⟨by decide, by decide⟩) (F6.tr f7)
          refine ⟨S7, fun d => ?_, r7⟩
          refine ev_iload i_Ad_countExtensions_91 rfl ?_
          refine ev_bipushN (v := 6) i_Ad_countExtensions_93 (by decide) ?_
          refine ev_icmp_geN i_Ad_countExtensions_95 (by omega) (by omega) (fun hc_95 => ?_) (fun hc_95 => ?_)
          · skip
            exfalso; omega
          · skip
            refine ev_aload_n i_Ad_countExtensions_98 rfl ?_
            refine ev_get i_Ad_countExtensions_99 o4 rfl ?_
            refine ev_iload i_Ad_countExtensions_102 rfl ?_
            refine ev_callV1 i_Ad_countExtensions_104 rfl x4.1 (Nat.le_of_ble_eq_true rfl) (m5 _) ?_
            refine ev_pop i_Ad_countExtensions_107 rfl ?_
            refine ev_iload_n i_Ad_countExtensions_108 rfl ?_
            refine ev_aload_n i_Ad_countExtensions_109 rfl ?_
            refine ev_aload_n i_Ad_countExtensions_110 rfl ?_
            refine ev_iload_n i_Ad_countExtensions_111 rfl ?_
            refine ev_callV2 i_Ad_countExtensions_112 rfl o5 (Nat.le_of_ble_eq_true rfl) (m6 d) ?_
            first | refine ev_iaddN i_Ad_countExtensions_115 ?_ | refine ev_iadd i_Ad_countExtensions_115 ?_
            refine ev_ist_n_3 i_Ad_countExtensions_116 rfl ?_
            refine ev_aload_n i_Ad_countExtensions_117 rfl ?_
            refine ev_get i_Ad_countExtensions_118 o6 rfl ?_
            refine ev_iload i_Ad_countExtensions_121 rfl ?_
            refine ev_put i_Ad_countExtensions_123 x6.1 (Nat.le_of_ble_eq_true rfl) rfl rfl ?_
            refine ev_iincN_5 (c := 1) i_Ad_countExtensions_126 (by decide) rfl ?_
            refine ev_goto i_Ad_countExtensions_129 ?_
            exact m7 d
      obtain ⟨S4, m4, r4⟩ := key 6 0 (by omega) S3 y3 ⟨_, w3⟩ hF3
      refine ⟨S4, fun d => ?_, r4⟩
      refine MetA.of rfl (by decide +kernel) (Nat.le_of_ble_eq_true rfl) ?_
      refine ev_aload_n i_Ad_countExtensions_0 rfl ?_
      refine ev_aload_n i_Ad_countExtensions_1 rfl ?_
      refine ev_get i_Ad_countExtensions_2 o2 rfl ?_
      refine ev_callS2 i_Ad_countExtensions_5 rfl (Nat.le_of_ble_eq_true rfl) (a_oneI ht2 hx) ?_
      rw [h1, bI_t]
      refine ev_if_eqN i_Ad_countExtensions_8 (by omega) (fun hc_8 => ?_) (fun hc_8 => ?_)
      · skip
        exfalso; omega
      · skip
        refine ev_aload_n i_Ad_countExtensions_11 rfl ?_
        refine ev_aload_n i_Ad_countExtensions_12 rfl ?_
        refine ev_get i_Ad_countExtensions_13 o2 rfl ?_
        refine ev_iconstN (v := 0) i_Ad_countExtensions_16 (by decide) ?_
        refine ev_aload_n i_Ad_countExtensions_17 rfl ?_
        refine ev_get i_Ad_countExtensions_18 o2 rfl ?_
        refine ev_callV3 i_Ad_countExtensions_21 rfl htb (Nat.le_of_ble_eq_true rfl) (m3 _) ?_
        refine ev_if_eqN i_Ad_countExtensions_24 (by omega) (fun hc_24 => ?_) (fun hc_24 => ?_)
        · skip
          exfalso; omega
        · skip
          refine ev_aload_n i_Ad_countExtensions_27 rfl ?_
          refine ev_get i_Ad_countExtensions_28 o3 rfl ?_
          refine ev_aload_n i_Ad_countExtensions_31 rfl ?_
          refine ev_get i_Ad_countExtensions_32 o3 rfl ?_
          refine ev_callV1 i_Ad_countExtensions_35 rfl w3.1 (Nat.le_of_ble_eq_true rfl) ((w_agrees w3 y3).1 ha) ?_
          refine ev_if_neN i_Ad_countExtensions_38 (by omega) (fun hc_38 => ?_) (fun hc_38 => ?_)
          · skip
            refine ev_aload_n i_Ad_countExtensions_43 rfl ?_
            refine ev_get i_Ad_countExtensions_44 o3 rfl ?_
            refine ev_get i_Ad_countExtensions_47 y3.1 rfl ?_
            refine ev_iload_n i_Ad_countExtensions_50 rfl ?_
            refine ev_icmp_ltN i_Ad_countExtensions_51 (by omega) (by omega) (fun hc_51 => ?_) (fun hc_51 => ?_)
            · skip
              refine ev_iconstN (v := 0) i_Ad_countExtensions_77 (by decide) ?_
              refine ev_ist_n_3 i_Ad_countExtensions_78 rfl ?_
              refine ev_aload_n i_Ad_countExtensions_79 rfl ?_
              refine ev_get i_Ad_countExtensions_80 o3 rfl ?_
              refine ev_get i_Ad_countExtensions_83 y3.1 rfl ?_
              refine ev_ist_4 i_Ad_countExtensions_86 rfl ?_
              refine ev_iconstN (v := 0) i_Ad_countExtensions_88 (by decide) ?_
              refine ev_ist_5 i_Ad_countExtensions_89 rfl ?_
              exact m4 d
            · skip
              exfalso; omega
          · skip
            exfalso; omega
theorem a_count {scr : Scr} {l : Launch} {S : Sto} {t len : Nat} {T : TabV} (h : AdOK S) (ht : TabAt S t T) (hd : tabOff t adK) (hlen : len ≤ 4) : ∃ S1, (∀ d, MetA scr l (d + len + 5) M_Ad_countKept [.ref 73, .ref t, .int (nI len)] S (.inl (some (.int (nI (cntA T len [])))), S1)) ∧ AdOK S1 ∧ Fr adK S S1 := by
  obtain ⟨zs, hw⟩ := h.2.1
  have f1 : Fr [74] S (S.put 74 (oB 12 [.ref 75, .int (nI 0)])) := Fr.put _ _ (by simp)
  have o1 := f1.at h.1 (by decide)
  obtain ⟨S2, m2, r1, r2, f2⟩ := a_cnt (scr := scr) (l := l) h.1 ht hd hlen len [] _ (by show 0 + len = len; omega) hw.nil (wfr h.2.2 f1 ⟨by decide, by decide⟩) (f1.mono (by simp))
  refine ⟨S2, fun d => ?_, ⟨f2.at h.1 (by decide), ⟨_, r1⟩, r2⟩, f2⟩
  refine MetA.of rfl (by decide +kernel) (Nat.le_of_ble_eq_true rfl) ?_
  refine ev_aload_n i_Ad_countKept_0 rfl ?_
  refine ev_get i_Ad_countKept_1 h.1 rfl ?_
  refine ev_iconstN (v := 0) i_Ad_countKept_4 (by decide) ?_
  refine ev_put i_Ad_countKept_5 hw.1 (Nat.le_of_ble_eq_true rfl) rfl rfl ?_
  refine ev_aload_n i_Ad_countKept_8 rfl ?_
  refine ev_aload_n i_Ad_countKept_9 rfl ?_
  refine ev_iload_n i_Ad_countKept_10 rfl ?_
  refine ev_callV2 i_Ad_countKept_11 rfl o1 (Nat.le_of_ble_eq_true rfl) (m2 d) ?_
  exact ev_iret i_Ad_countKept_14 rfl (by first | rfl | decide)

/-! numbers of derivations: what they are, the class WayCounter -/
/-- whether a production stands at a place of a word -/
def stB (ys p : List Nat) (j : Nat) : Bool := decide (j + p.length ≤ ys.length) && allB (fun u => decide (p.getD u 0 = ys.getD (j + u) 0)) p.length
/-- the productions that may replace a letter -/
def prodsOf (T : TabV) (xs : List Nat) (i : Nat) : List (List Nat) := match ruleAt T xs i with
  | some p => [p]
  | none => T.1 (xs.getD i 0)
/-- what one production adds -/
def addT (ys p : List Nat) (W : Nat → Nat) (x : Nat) : Nat := if p.length ≤ x ∧ stB ys p (x - p.length) = true then W (x - p.length) else 0
/-- how often the first i letters become the first j letters of the target -/
def Fw (T : TabV) (xs ys : List Nat) : Nat → Nat → Nat
  | 0, j => if j = 0 then 1 else 0
  | i + 1, j => sumN (fun u => addT ys ((prodsOf T xs i).getD u []) (Fw T xs ys i) j) (prodsOf T xs i).length
def encF (W : Nat → Nat) (g : Nat → Int64) : Nat → Int64 := fun j => if j < 61 then enc (W j) else g j
theorem encF_at {W : Nat → Nat} {g : Nat → Int64} {j : Nat} (h : j < 61) : encF W g j = enc (W j) := if_pos h
theorem encF_upd {W : Nat → Nat} {g : Nat → Int64} {k v : Nat} (h : k < 61) : vp_updL (encF W g) k (enc v) = encF (fun j => if j = k then v else W j) g := by
  funext j
  unfold vp_updL encF
  by_cases z : j = k
  · rw [if_pos z, if_pos (by omega)]
    show enc v = enc (if j = k then v else W j)
    rw [if_pos z]
  · rw [if_neg z]
    by_cases q : j < 61
    · rw [if_pos q, if_pos q]
      show enc (W j) = enc (if j = k then v else W j)
      rw [if_neg z]
    · rw [if_neg q, if_neg q]
theorem encF_fill (g : Nat → Int64) : fillF g 0 (fun _ => (0 : Int64)) 61 = encF (fun _ => 0) g := by
  funext j
  unfold fillF encF
  by_cases q : j < 61
  · rw [if_pos (by omega), if_pos q]; rfl
  · rw [if_neg (by omega), if_neg q]
theorem encF_congr {W W' : Nat → Nat} {g : Nat → Int64} (h : ∀ j, j < 61 → W j = W' j) : encF W g = encF W' g := by
  funext j
  unfold encF
  by_cases q : j < 61
  · rw [if_pos q, if_pos q, h j q]
  · rw [if_neg q, if_neg q]
/-- the places below j0 are done -/
def addF (ys p : List Nat) (Q W : Nat → Nat) (j0 x : Nat) : Nat := Q x + (if p.length ≤ x ∧ x - p.length < j0 ∧ stB ys p (x - p.length) = true then W (x - p.length) else 0)
theorem addF_0 (ys p : List Nat) (Q W : Nat → Nat) (x : Nat) : addF ys p Q W 0 x = Q x := by
  unfold addF
  rw [if_neg (by omega), Nat.add_zero]
theorem addF_skip {ys p : List Nat} {Q W : Nat → Nat} {j0 : Nat} (h : ¬ (W j0 ≠ 0 ∧ stB ys p j0 = true)) (x : Nat) : addF ys p Q W (j0 + 1) x = addF ys p Q W j0 x := by
  unfold addF
  by_cases z : p.length ≤ x ∧ x - p.length = j0
  · rw [z.2]
    by_cases q : stB ys p j0 = true
    · have hw : W j0 = 0 := Classical.byContradiction (fun w => h ⟨w, q⟩)
      rw [hw]
      split <;> split <;> rfl
    · rw [if_neg (fun w => q w.2.2), if_neg (fun w => q w.2.2)]
  · by_cases q : p.length ≤ x ∧ x - p.length < j0 ∧ stB ys p (x - p.length) = true
    · rw [if_pos q, if_pos ⟨q.1, by omega, q.2.2⟩]
    · rw [if_neg q, if_neg (fun w => q ⟨w.1, by omega, w.2.2⟩)]
theorem addF_step {ys p : List Nat} {Q W : Nat → Nat} {j0 : Nat} (h : stB ys p j0 = true) (x : Nat) : addF ys p Q W (j0 + 1) x = if x = j0 + p.length then addF ys p Q W j0 (j0 + p.length) + W j0 else addF ys p Q W j0 x := by
  unfold addF
  by_cases z : x = j0 + p.length
  · rw [if_pos z, z, Nat.add_sub_cancel, if_pos ⟨by omega, by omega, h⟩, if_neg (by omega), Nat.add_zero]
  · rw [if_neg z]
    by_cases q : p.length ≤ x ∧ x - p.length < j0 ∧ stB ys p (x - p.length) = true
    · rw [if_pos q, if_pos ⟨q.1, by omega, q.2.2⟩]
    · rw [if_neg q, if_neg (fun w => q ⟨w.1, by omega, w.2.2⟩)]
theorem addF_end {ys p : List Nat} {Q W : Nat → Nat} (x : Nat) : addF ys p Q W (ys.length + 1 - p.length) x = Q x + addT ys p W x := by
  unfold addF addT
  congr 1
  by_cases q : p.length ≤ x ∧ stB ys p (x - p.length) = true
  · have : x - p.length + p.length ≤ ys.length := by
      have := q.2
      unfold stB at this
      rw [Bool.and_eq_true] at this
      exact of_decide_eq_true this.1
    rw [if_pos q, if_pos ⟨q.1, by omega, q.2⟩]
  · rw [if_neg q, if_neg (fun w => q ⟨w.1, w.2.2⟩)]
theorem max_sub {b : Nat} (h : b < 2 ^ 63) : (9223372036854775807 : Int64) - nL b = nL (2 ^ 63 - 1 - b) := by
  have e : nL (2 ^ 63 - 1 - b) + nL b = 9223372036854775807 := by
    rw [nL_add, Nat.sub_add_cancel (by omega)]; rfl
  rw [← e, Int64.add_sub_cancel]
theorem w_sum {scr : Scr} {l : Launch} {S : Sto} {d a b : Nat} : MetA scr l d M_Wy_sum [.long (enc a), .long (enc b)] S (.inl (some (.long (enc (a + b)))), S) := by
  refine MetA.of rfl (by decide +kernel) (Nat.le_of_ble_eq_true rfl) ?_
  refine ev_lload_n i_Wy_sum_0 rfl ?_
  refine ev_LdcL i_Wy_sum_1 ?_
  refine ev_lif_eq i_Wy_sum_4 i_Wy_sum_5 (fun hc_5 => ?_) (fun hc_5 => ?_)
  · skip
    refine ev_LdcL i_Wy_sum_26 ?_
    rw [enc_ge (n := a + b) (by rw [enc_m1] at hc_5; omega)]
    exact ev_lret i_Wy_sum_29 rfl
  · skip
    refine ev_lload_n i_Wy_sum_8 rfl ?_
    refine ev_LdcL i_Wy_sum_9 ?_
    refine ev_lif_eq i_Wy_sum_12 i_Wy_sum_13 (fun hc_13 => ?_) (fun hc_13 => ?_)
    · skip
      refine ev_LdcL i_Wy_sum_26 ?_
      rw [enc_ge (n := a + b) (by rw [enc_m1] at hc_13; omega)]
      exact ev_lret i_Wy_sum_29 rfl
    · skip
      have ha : a < 2 ^ 63 := Classical.byContradiction (fun q => hc_5 (enc_ge q))
      have hb : b < 2 ^ 63 := Classical.byContradiction (fun q => hc_13 (enc_ge q))
      rw [enc_lt ha, enc_lt hb]
      refine ev_lload_n i_Wy_sum_16 rfl ?_
      refine ev_LdcL i_Wy_sum_17 ?_
      refine ev_lload_n i_Wy_sum_20 rfl ?_
      refine ev_lsub i_Wy_sum_21 ?_
      rw [max_sub hb]
      refine ev_lif_le i_Wy_sum_22 i_Wy_sum_23 (fun hc_23 => ?_) (fun hc_23 => ?_)
      · skip
        rw [nL_lt_iff (by omega) ha] at hc_23
        rw [enc_lt (n := a + b) (by omega)]
        refine ev_lload_n i_Wy_sum_30 rfl ?_
        refine ev_lload_n i_Wy_sum_31 rfl ?_
        refine ev_ladd i_Wy_sum_32 ?_
        rw [nL_add]
        exact ev_lret i_Wy_sum_33 rfl
      · skip
        rw [nL_lt_iff (by omega) ha] at hc_23
        refine ev_LdcL i_Wy_sum_26 ?_
        rw [enc_ge (n := a + b) (by omega)]
        exact ev_lret i_Wy_sum_29 rfl
theorem w_stands {scr : Scr} {l : Launch} {S : Sto} {t s w a rc j d : Nat} {fs fl fe : Nat → Int32} {p ys : List Nat} (hT : TabIs S t (t + 1) (t + 2) (t + 3) rc fs fl fe) (hs : s < 54) (hp : SlotR fl fe s p) (hp4 : PrOK p) (hy : WordAt S w a ys) (hj : j + p.length ≤ ys.length) : MetA scr l (d + 1) M_Wy_standsAt [.ref t, .int (nI s), .ref w, .int (nI j)] S (.inl (some (.int (nI (bI (stB ys p j))))), S) := by
  obtain ⟨h1, h60, h3, f, h4, h5⟩ := id hy
  have hl4 := hp4.1
  unfold stB
  rw [decide_eq_true hj, Bool.true_and]
  rcases first_or (fun u => decide (¬ p.getD u 0 = ys.getD (j + u) 0)) p.length with hf | ⟨m, hm, hne, hf⟩
  · have e : allB (fun u => decide (p.getD u 0 = ys.getD (j + u) 0)) p.length = true := allB_iff.mpr (fun i hi => by simpa using hf i hi)
    rw [e, bI_t]
    refine MetA.of rfl (by decide +kernel) (Nat.le_of_ble_eq_true rfl) ?_
    refine ev_iconstN (v := 0) i_Wy_standsAt_0 (by decide) ?_
    refine ev_ist_4 i_Wy_standsAt_1 rfl ?_
    refine ev_loop (n := p.length) (fun i => [some (.ref t), some (.int (nI s)), some (.ref w), some (.int (nI j)), some (.int (nI i))]) (fun i => S) (fun i hi ki => ?_) ?_
    · try dsimp only at ki ⊢
      have h6a := hp4.2 i (by omega)
      have h6b := h3 (j + i) (by omega)
      have he : p.getD i 0 = ys.getD (j + i) 0 := by simpa using hf i (by omega)
      refine ev_iload i_Wy_standsAt_3 rfl ?_
      refine ev_aload_n i_Wy_standsAt_5 rfl ?_
      refine ev_get i_Wy_standsAt_6 hT.1 rfl ?_
      refine ev_iload_n i_Wy_standsAt_9 rfl ?_
      refine ev_ialdN i_Wy_standsAt_10 hT.2.2.1 hs (by decide) ?_
      rw [hp.1]
      refine ev_icmp_geN i_Wy_standsAt_11 (by omega) (by omega) (fun hc_11 => ?_) (fun hc_11 => ?_)
      · skip
        exfalso; omega
      · skip
        refine ev_aload_n i_Wy_standsAt_14 rfl ?_
        refine ev_iload_n i_Wy_standsAt_15 rfl ?_
        refine ev_iload i_Wy_standsAt_16 rfl ?_
        refine ev_callV2 i_Wy_standsAt_18 rfl hT.1 (Nat.le_of_ble_eq_true rfl) (c_Tb_letterOf hT hs (by omega)) ?_
        rw [hp.2 i (by omega)]
        refine ev_aload_n i_Wy_standsAt_21 rfl ?_
        refine ev_get i_Wy_standsAt_22 h1 rfl ?_
        refine ev_iload_n i_Wy_standsAt_25 rfl ?_
        refine ev_iload i_Wy_standsAt_26 rfl ?_
        first | refine ev_iaddN i_Wy_standsAt_28 ?_ | refine ev_iadd i_Wy_standsAt_28 ?_
        refine ev_ialdN i_Wy_standsAt_29 h4 (by omega) (by decide) ?_
        rw [h5 (j + i) (by omega)]
        refine ev_icmp_eqN i_Wy_standsAt_30 (by omega) (by omega) (fun hc_30 => ?_) (fun hc_30 => ?_)
        · skip
          refine ev_iincN_4 (c := 1) i_Wy_standsAt_35 (by decide) rfl ?_
          refine ev_goto i_Wy_standsAt_38 ?_
          exact ki
        · skip
          exfalso; omega
    · try dsimp only
      refine ev_iload i_Wy_standsAt_3 rfl ?_
      refine ev_aload_n i_Wy_standsAt_5 rfl ?_
      refine ev_get i_Wy_standsAt_6 hT.1 rfl ?_
      refine ev_iload_n i_Wy_standsAt_9 rfl ?_
      refine ev_ialdN i_Wy_standsAt_10 hT.2.2.1 hs (by decide) ?_
      rw [hp.1]
      refine ev_icmp_geN i_Wy_standsAt_11 (by omega) (by omega) (fun hc_11 => ?_) (fun hc_11 => ?_)
      · skip
        refine ev_iconstN (v := 1) i_Wy_standsAt_41 (by decide) ?_
        exact ev_iret i_Wy_standsAt_42 rfl (by first | rfl | decide)
      · skip
        exfalso; omega
  · have hne : ¬ p.getD m 0 = ys.getD (j + m) 0 := by simpa using hne
    have e : allB (fun u => decide (p.getD u 0 = ys.getD (j + u) 0)) p.length = false := by
      cases hz : allB (fun u => decide (p.getD u 0 = ys.getD (j + u) 0)) p.length with
      | false => rfl
      | true => exact absurd (of_decide_eq_true (allB_iff.mp hz m hm)) hne
    rw [e, bI_f]
    refine MetA.of rfl (by decide +kernel) (Nat.le_of_ble_eq_true rfl) ?_
    refine ev_iconstN (v := 0) i_Wy_standsAt_0 (by decide) ?_
    refine ev_ist_4 i_Wy_standsAt_1 rfl ?_
    refine ev_loop (n := m) (fun i => [some (.ref t), some (.int (nI s)), some (.ref w), some (.int (nI j)), some (.int (nI i))]) (fun i => S) (fun i hi ki => ?_) ?_
    · try dsimp only at ki ⊢
      have h6a := hp4.2 i (by omega)
      have h6b := h3 (j + i) (by omega)
      have he : p.getD i 0 = ys.getD (j + i) 0 := by simpa using hf i (by omega)
      refine ev_iload i_Wy_standsAt_3 rfl ?_
      refine ev_aload_n i_Wy_standsAt_5 rfl ?_
      refine ev_get i_Wy_standsAt_6 hT.1 rfl ?_
      refine ev_iload_n i_Wy_standsAt_9 rfl ?_
      refine ev_ialdN i_Wy_standsAt_10 hT.2.2.1 hs (by decide) ?_
      rw [hp.1]
      refine ev_icmp_geN i_Wy_standsAt_11 (by omega) (by omega) (fun hc_11 => ?_) (fun hc_11 => ?_)
      · skip
        exfalso; omega
      · skip
        refine ev_aload_n i_Wy_standsAt_14 rfl ?_
        refine ev_iload_n i_Wy_standsAt_15 rfl ?_
        refine ev_iload i_Wy_standsAt_16 rfl ?_
        refine ev_callV2 i_Wy_standsAt_18 rfl hT.1 (Nat.le_of_ble_eq_true rfl) (c_Tb_letterOf hT hs (by omega)) ?_
        rw [hp.2 i (by omega)]
        refine ev_aload_n i_Wy_standsAt_21 rfl ?_
        refine ev_get i_Wy_standsAt_22 h1 rfl ?_
        refine ev_iload_n i_Wy_standsAt_25 rfl ?_
        refine ev_iload i_Wy_standsAt_26 rfl ?_
        first | refine ev_iaddN i_Wy_standsAt_28 ?_ | refine ev_iadd i_Wy_standsAt_28 ?_
        refine ev_ialdN i_Wy_standsAt_29 h4 (by omega) (by decide) ?_
        rw [h5 (j + i) (by omega)]
        refine ev_icmp_eqN i_Wy_standsAt_30 (by omega) (by omega) (fun hc_30 => ?_) (fun hc_30 => ?_)
        · skip
          refine ev_iincN_4 (c := 1) i_Wy_standsAt_35 (by decide) rfl ?_
          refine ev_goto i_Wy_standsAt_38 ?_
          exact ki
        · skip
          exfalso; omega
    · try dsimp only
      have h6a := hp4.2 m (by omega)
      have h6b := h3 (j + m) (by omega)
      refine ev_iload i_Wy_standsAt_3 rfl ?_
      refine ev_aload_n i_Wy_standsAt_5 rfl ?_
      refine ev_get i_Wy_standsAt_6 hT.1 rfl ?_
      refine ev_iload_n i_Wy_standsAt_9 rfl ?_
      refine ev_ialdN i_Wy_standsAt_10 hT.2.2.1 hs (by decide) ?_
      rw [hp.1]
      refine ev_icmp_geN i_Wy_standsAt_11 (by omega) (by omega) (fun hc_11 => ?_) (fun hc_11 => ?_)
      · skip
        exfalso; omega
      · skip
        refine ev_aload_n i_Wy_standsAt_14 rfl ?_
        refine ev_iload_n i_Wy_standsAt_15 rfl ?_
        refine ev_iload i_Wy_standsAt_16 rfl ?_
        refine ev_callV2 i_Wy_standsAt_18 rfl hT.1 (Nat.le_of_ble_eq_true rfl) (c_Tb_letterOf hT hs (by omega)) ?_
        rw [hp.2 m (by omega)]
        refine ev_aload_n i_Wy_standsAt_21 rfl ?_
        refine ev_get i_Wy_standsAt_22 h1 rfl ?_
        refine ev_iload_n i_Wy_standsAt_25 rfl ?_
        refine ev_iload i_Wy_standsAt_26 rfl ?_
        first | refine ev_iaddN i_Wy_standsAt_28 ?_ | refine ev_iadd i_Wy_standsAt_28 ?_
        refine ev_ialdN i_Wy_standsAt_29 h4 (by omega) (by decide) ?_
        rw [h5 (j + m) (by omega)]
        refine ev_icmp_eqN i_Wy_standsAt_30 (by omega) (by omega) (fun hc_30 => ?_) (fun hc_30 => ?_)
        · skip
          exfalso; omega
        · skip
          refine ev_iconstN (v := 0) i_Wy_standsAt_33 (by decide) ?_
          exact ev_iret i_Wy_standsAt_34 rfl (by first | rfl | decide)
theorem w_addProd {scr : Scr} {l : Launch} {S : Sto} {d : Nat} {t s w a rc c1 c2 : Nat} {fs fl fe : Nat → Int32} {p ys : List Nat} {Q W : Nat → Nat} {g1 g2 : Nat → Int64} (hT : TabIs S t (t + 1) (t + 2) (t + 3) rc fs fl fe) (hs : s < 54) (hp : SlotR fl fe s p) (hp4 : PrOK p) (hy : WordAt S w a ys) (hc : (c1 = 79 ∧ c2 = 80) ∨ (c1 = 80 ∧ c2 = 79)) (ho : S.1[78]? = some (oB 11 [.ref c1, .ref c2])) (h1 : S.1[c1]? = some (aJ 61 (encF W g1))) (h2 : S.1[c2]? = some (aJ 61 (encF Q g2))) (hoff : tabOff t [79, 80]) (hw : w ∉ [79, 80] ∧ a ∉ [79, 80]) : MetA scr l (d + 2) M_Wy_addProductionOf [.ref 78, .ref t, .int (nI s), .ref w] S (.inl none, S.put c2 (aJ 61 (encF (fun x => Q x + addT ys p W x) g2))) := by
  have hl4 := hp4.1
  have h60 := hy.2.1
  rw [← encF_congr (fun x _ => addF_end (ys := ys) (p := p) (Q := Q) (W := W) x)]
  refine MetA.of rfl (by decide +kernel) (Nat.le_of_ble_eq_true rfl) ?_
  refine ev_aload_n i_Wy_addProductionOf_0 rfl ?_
  refine ev_get i_Wy_addProductionOf_1 hT.1 rfl ?_
  refine ev_iload_n i_Wy_addProductionOf_4 rfl ?_
  refine ev_ialdN i_Wy_addProductionOf_5 hT.2.2.1 hs (by decide) ?_
  rw [hp.1]
  refine ev_ist_4 i_Wy_addProductionOf_6 rfl ?_
  refine ev_iconstN (v := 0) i_Wy_addProductionOf_8 (by decide) ?_
  refine ev_ist_5 i_Wy_addProductionOf_9 rfl ?_
  refine ev_eqS (S1 := (S.put c2 (aJ 61 (encF (addF ys p Q W 0) g2)))) (by rw [encF_congr (fun x _ => addF_0 ys p Q W x)]; exact put_same h2) ?_
  refine ev_loop (n := ys.length + 1 - p.length) (fun j => [some (.ref 78), some (.ref t), some (.int (nI s)), some (.ref w), some (.int (nI p.length)), some (.int (nI j))]) (fun j => (S.put c2 (aJ 61 (encF (addF ys p Q W j) g2)))) (fun j hj kj => ?_) ?_
  · try dsimp only at kj ⊢
    have hcn : c2 ∈ [79, 80] := by rcases hc with q | q <;> (rw [q.2]; simp)
    have hFj : Fr [79, 80] S (S.put c2 (aJ 61 (encF (addF ys p Q W j) g2))) := Fr.put _ _ hcn
    have oj : (S.put c2 (aJ 61 (encF (addF ys p Q W j) g2))).1[78]? = _ := put_at ho (by rcases hc with q | q <;> omega)
    have w1 : (S.put c2 (aJ 61 (encF (addF ys p Q W j) g2))).1[c1]? = _ := put_at h1 (by rcases hc with q | q <;> omega)
    have n1 : (S.put c2 (aJ 61 (encF (addF ys p Q W j) g2))).1[c2]? = _ := put_self h2
    have yj := hy.fr hFj hw
    have tj := hT.fr hFj hoff
    by_cases hw0 : W j = 0
    · skip
      refine ev_iload i_Wy_addProductionOf_11 rfl ?_
      refine ev_iload i_Wy_addProductionOf_13 rfl ?_
      first | refine ev_iaddN i_Wy_addProductionOf_15 ?_ | refine ev_iadd i_Wy_addProductionOf_15 ?_
      refine ev_aload_n i_Wy_addProductionOf_16 rfl ?_
      refine ev_get i_Wy_addProductionOf_17 yj.1 rfl ?_
      refine ev_icmp_gtN i_Wy_addProductionOf_20 (by omega) (by omega) (fun hc_20 => ?_) (fun hc_20 => ?_)
      · skip
        exfalso; omega
      · skip
        refine ev_aload_n i_Wy_addProductionOf_23 rfl ?_
        refine ev_get i_Wy_addProductionOf_24 oj rfl ?_
        refine ev_iload i_Wy_addProductionOf_27 rfl ?_
        refine ev_laldN i_Wy_addProductionOf_29 w1 (by omega) (by decide) ?_
        rw [encF_at (by omega)]
        refine ev_lconst (v := 0) i_Wy_addProductionOf_30 (by decide) ?_
        refine ev_lif_eq i_Wy_addProductionOf_31 i_Wy_addProductionOf_32 (fun hc_32 => ?_) (fun hc_32 => ?_)
        · skip
          refine ev_iincN_5 (c := 1) i_Wy_addProductionOf_76 (by decide) rfl ?_
          refine ev_goto i_Wy_addProductionOf_79 ?_
          rw [encF_congr (fun x _ => addF_skip (fun q => q.1 hw0) x)] at kj
          exact kj
        · skip
          exact absurd (enc_z.mpr hw0) hc_32
    · cases hst : stB ys p j with
      | false =>
        refine ev_iload i_Wy_addProductionOf_11 rfl ?_
        refine ev_iload i_Wy_addProductionOf_13 rfl ?_
        first | refine ev_iaddN i_Wy_addProductionOf_15 ?_ | refine ev_iadd i_Wy_addProductionOf_15 ?_
        refine ev_aload_n i_Wy_addProductionOf_16 rfl ?_
        refine ev_get i_Wy_addProductionOf_17 yj.1 rfl ?_
        refine ev_icmp_gtN i_Wy_addProductionOf_20 (by omega) (by omega) (fun hc_20 => ?_) (fun hc_20 => ?_)
        · skip
          exfalso; omega
        · skip
          refine ev_aload_n i_Wy_addProductionOf_23 rfl ?_
          refine ev_get i_Wy_addProductionOf_24 oj rfl ?_
          refine ev_iload i_Wy_addProductionOf_27 rfl ?_
          refine ev_laldN i_Wy_addProductionOf_29 w1 (by omega) (by decide) ?_
          rw [encF_at (by omega)]
          refine ev_lconst (v := 0) i_Wy_addProductionOf_30 (by decide) ?_
          refine ev_lif_eq i_Wy_addProductionOf_31 i_Wy_addProductionOf_32 (fun hc_32 => ?_) (fun hc_32 => ?_)
          · skip
            exact absurd (enc_z.mp hc_32) hw0
          · skip
            refine ev_aload_n i_Wy_addProductionOf_35 rfl ?_
            refine ev_iload_n i_Wy_addProductionOf_36 rfl ?_
            refine ev_aload_n i_Wy_addProductionOf_37 rfl ?_
            refine ev_iload i_Wy_addProductionOf_38 rfl ?_
            refine ev_callS4 i_Wy_addProductionOf_40 rfl (Nat.le_of_ble_eq_true rfl) (w_stands tj hs hp hp4 yj (by omega)) ?_
            rw [hst, bI_f]
            refine ev_if_eqN i_Wy_addProductionOf_43 (by omega) (fun hc_43 => ?_) (fun hc_43 => ?_)
            · skip
              refine ev_iincN_5 (c := 1) i_Wy_addProductionOf_76 (by decide) rfl ?_
              refine ev_goto i_Wy_addProductionOf_79 ?_
              rw [encF_congr (fun x _ => addF_skip (fun q => by rw [hst] at q; exact absurd q.2 (by decide)) x)] at kj
              exact kj
            · skip
              exfalso; omega
      | true =>
        refine ev_iload i_Wy_addProductionOf_11 rfl ?_
        refine ev_iload i_Wy_addProductionOf_13 rfl ?_
        first | refine ev_iaddN i_Wy_addProductionOf_15 ?_ | refine ev_iadd i_Wy_addProductionOf_15 ?_
        refine ev_aload_n i_Wy_addProductionOf_16 rfl ?_
        refine ev_get i_Wy_addProductionOf_17 yj.1 rfl ?_
        refine ev_icmp_gtN i_Wy_addProductionOf_20 (by omega) (by omega) (fun hc_20 => ?_) (fun hc_20 => ?_)
        · skip
          exfalso; omega
        · skip
          refine ev_aload_n i_Wy_addProductionOf_23 rfl ?_
          refine ev_get i_Wy_addProductionOf_24 oj rfl ?_
          refine ev_iload i_Wy_addProductionOf_27 rfl ?_
          refine ev_laldN i_Wy_addProductionOf_29 w1 (by omega) (by decide) ?_
          rw [encF_at (by omega)]
          refine ev_lconst (v := 0) i_Wy_addProductionOf_30 (by decide) ?_
          refine ev_lif_eq i_Wy_addProductionOf_31 i_Wy_addProductionOf_32 (fun hc_32 => ?_) (fun hc_32 => ?_)
          · skip
            exact absurd (enc_z.mp hc_32) hw0
          · skip
            refine ev_aload_n i_Wy_addProductionOf_35 rfl ?_
            refine ev_iload_n i_Wy_addProductionOf_36 rfl ?_
            refine ev_aload_n i_Wy_addProductionOf_37 rfl ?_
            refine ev_iload i_Wy_addProductionOf_38 rfl ?_
            refine ev_callS4 i_Wy_addProductionOf_40 rfl (Nat.le_of_ble_eq_true rfl) (w_stands tj hs hp hp4 yj (by omega)) ?_
            rw [hst, bI_t]
            refine ev_if_eqN i_Wy_addProductionOf_43 (by omega) (fun hc_43 => ?_) (fun hc_43 => ?_)
            · skip
              exfalso; omega
            · skip
              refine ev_aload_n i_Wy_addProductionOf_46 rfl ?_
              refine ev_get i_Wy_addProductionOf_47 oj rfl ?_
              refine ev_iload i_Wy_addProductionOf_50 rfl ?_
              refine ev_iload i_Wy_addProductionOf_52 rfl ?_
              first | refine ev_iaddN i_Wy_addProductionOf_54 ?_ | refine ev_iadd i_Wy_addProductionOf_54 ?_
              refine ev_aload_n i_Wy_addProductionOf_55 rfl ?_
              refine ev_get i_Wy_addProductionOf_56 oj rfl ?_
              refine ev_iload i_Wy_addProductionOf_59 rfl ?_
              refine ev_iload i_Wy_addProductionOf_61 rfl ?_
              first | refine ev_iaddN i_Wy_addProductionOf_63 ?_ | refine ev_iadd i_Wy_addProductionOf_63 ?_
              refine ev_laldN i_Wy_addProductionOf_64 n1 (by omega) (by decide) ?_
              rw [encF_at (by omega)]
              refine ev_aload_n i_Wy_addProductionOf_65 rfl ?_
              refine ev_get i_Wy_addProductionOf_66 oj rfl ?_
              refine ev_iload i_Wy_addProductionOf_69 rfl ?_
              refine ev_laldN i_Wy_addProductionOf_71 w1 (by omega) (by decide) ?_
              rw [encF_at (by omega)]
              refine ev_callS2 i_Wy_addProductionOf_72 rfl (Nat.le_of_ble_eq_true rfl) w_sum ?_
              refine ev_lastN i_Wy_addProductionOf_75 n1 (by omega) (by decide) ?_
              rw [put_put, encF_upd (by omega)]
              refine ev_iincN_5 (c := 1) i_Wy_addProductionOf_76 (by decide) rfl ?_
              refine ev_goto i_Wy_addProductionOf_79 ?_
              rw [encF_congr (fun x _ => addF_step hst x)] at kj
              exact kj
  · try dsimp only
    have hcn : c2 ∈ [79, 80] := by rcases hc with q | q <;> (rw [q.2]; simp)
    have hFj : Fr [79, 80] S (S.put c2 (aJ 61 (encF (addF ys p Q W (ys.length + 1 - p.length)) g2))) := Fr.put _ _ hcn
    have oj : (S.put c2 (aJ 61 (encF (addF ys p Q W (ys.length + 1 - p.length)) g2))).1[78]? = _ := put_at ho (by rcases hc with q | q <;> omega)
    have w1 : (S.put c2 (aJ 61 (encF (addF ys p Q W (ys.length + 1 - p.length)) g2))).1[c1]? = _ := put_at h1 (by rcases hc with q | q <;> omega)
    have n1 : (S.put c2 (aJ 61 (encF (addF ys p Q W (ys.length + 1 - p.length)) g2))).1[c2]? = _ := put_self h2
    have yj := hy.fr hFj hw
    have tj := hT.fr hFj hoff
    refine ev_iload i_Wy_addProductionOf_11 rfl ?_
    refine ev_iload i_Wy_addProductionOf_13 rfl ?_
    first | refine ev_iaddN i_Wy_addProductionOf_15 ?_ | refine ev_iadd i_Wy_addProductionOf_15 ?_
    refine ev_aload_n i_Wy_addProductionOf_16 rfl ?_
    refine ev_get i_Wy_addProductionOf_17 yj.1 rfl ?_
    refine ev_icmp_gtN i_Wy_addProductionOf_20 (by omega) (by omega) (fun hc_20 => ?_) (fun hc_20 => ?_)
    · skip
      exact ev_vret i_Wy_addProductionOf_82 rfl
    · skip
      exfalso; omega

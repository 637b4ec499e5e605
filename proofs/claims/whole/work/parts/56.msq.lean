/-! the model m: sequences -/
/-- whether the last k digits of a sequence lead from w to the target -/
def rch (Ts : Nat → TabV) (tgt : List Nat) : Nat → List Nat → Nat → Bool
  | 0, w, _ => decide (w = tgt)
  | k + 1, w, s => if (stepW (Ts (s / 3 ^ k % 3)) w (nI 0)).length ≤ 60 then rch Ts tgt k (stepW (Ts (s / 3 ^ k % 3)) w (nI 0)) s else false
theorem rch_mod {Ts : Nat → TabV} {tgt : List Nat} : ∀ (k : Nat) (w : List Nat) (m s : Nat), rch Ts tgt k w (m * 3 ^ k + s) = rch Ts tgt k w s := by
  intro k
  induction k with
  | zero => intro w m s; rfl
  | succ k ih =>
    intro w m s
    have hp : 0 < 3 ^ k := Nat.pow_pos (by decide)
    have e1 : m * 3 ^ (k + 1) = 3 ^ k * (3 * m) := by rw [Nat.pow_succ, Nat.mul_comm m, Nat.mul_assoc]
    have e2 : (m * 3 ^ (k + 1) + s) / 3 ^ k % 3 = s / 3 ^ k % 3 := by rw [e1, Nat.mul_add_div hp, Nat.mul_add_mod]
    unfold rch
    rw [e2]
    split
    · rw [e1, Nat.mul_comm (3 ^ k), ih]
    · rfl
theorem filter_congr' {p q : Nat → Bool} {n : Nat} (h : ∀ i, i < n → p i = q i) : (List.range n).filter p = (List.range n).filter q := List.filter_congr (fun x hx => h x (List.mem_range.mp hx))
theorem sq_blk {Ts : Nat → TabV} {tgt : List Nat} {k t s0 : Nat} {w : List Nat} (ht : t < 3) (ih : ∀ w s0, sqL Ts tgt k w s0 = ((List.range (3 ^ k)).filter (rch Ts tgt k w)).map (fun x => 3 ^ k * s0 + x)) : (((List.range (3 ^ k)).map (fun x => t * 3 ^ k + x)).filter (rch Ts tgt (k + 1) w)).map (fun x => 3 ^ (k + 1) * s0 + x) = if (stepW (Ts t) w (nI 0)).length ≤ 60 then sqL Ts tgt k (stepW (Ts t) w (nI 0)) (s0 * 3 + t) else [] := by
  have hp : 0 < 3 ^ k := Nat.pow_pos (by decide)
  have hd : ∀ x, x < 3 ^ k → (t * 3 ^ k + x) / 3 ^ k % 3 = t := fun x hx => by
    rw [Nat.mul_comm, Nat.mul_add_div hp, Nat.div_eq_of_lt hx, Nat.add_zero, Nat.mod_eq_of_lt ht]
  rw [List.filter_map]
  by_cases hl : (stepW (Ts t) w (nI 0)).length ≤ 60
  · rw [if_pos hl, ih, List.map_map]
    have e : (List.range (3 ^ k)).filter (rch Ts tgt (k + 1) w ∘ fun x => t * 3 ^ k + x) = (List.range (3 ^ k)).filter (rch Ts tgt k (stepW (Ts t) w (nI 0))) := filter_congr' (fun x hx => by
      show rch Ts tgt (k + 1) w (t * 3 ^ k + x) = _
      rw [show rch Ts tgt (k + 1) w (t * 3 ^ k + x) = if (stepW (Ts ((t * 3 ^ k + x) / 3 ^ k % 3)) w (nI 0)).length ≤ 60 then rch Ts tgt k (stepW (Ts ((t * 3 ^ k + x) / 3 ^ k % 3)) w (nI 0)) (t * 3 ^ k + x) else false from rfl, hd x hx, if_pos hl, rch_mod])
    rw [e]
    congr 1
    funext x
    show 3 ^ (k + 1) * s0 + (t * 3 ^ k + x) = 3 ^ k * (s0 * 3 + t) + x
    rw [Nat.pow_succ, Nat.mul_add, ← Nat.add_assoc, Nat.mul_comm t, Nat.mul_assoc, Nat.mul_comm 3 s0]
  · rw [if_neg hl]
    have e : (List.range (3 ^ k)).filter (rch Ts tgt (k + 1) w ∘ fun x => t * 3 ^ k + x) = [] := List.filter_eq_nil_iff.mpr (fun x hx => by
      have hx := List.mem_range.mp hx
      show ¬ rch Ts tgt (k + 1) w (t * 3 ^ k + x) = true
      rw [show rch Ts tgt (k + 1) w (t * 3 ^ k + x) = if (stepW (Ts ((t * 3 ^ k + x) / 3 ^ k % 3)) w (nI 0)).length ≤ 60 then rch Ts tgt k (stepW (Ts ((t * 3 ^ k + x) / 3 ^ k % 3)) w (nI 0)) (t * 3 ^ k + x) else false from rfl, hd x hx, if_neg hl]
      decide)
    rw [e]
    rfl
theorem sq_rch {Ts : Nat → TabV} {tgt : List Nat} : ∀ (k : Nat) (w : List Nat) (s0 : Nat), sqL Ts tgt k w s0 = ((List.range (3 ^ k)).filter (rch Ts tgt k w)).map (fun x => 3 ^ k * s0 + x) := by
  intro k
  induction k with
  | zero =>
    intro w s0
    show (if w = tgt then [s0] else []) = (List.filter (rch Ts tgt 0 w) [0]).map (fun x => 3 ^ 0 * s0 + x)
    by_cases h : w = tgt
    · rw [if_pos h]
      have e : rch Ts tgt 0 w 0 = true := decide_eq_true h
      rw [List.filter_cons, if_pos e]
      show [s0] = [3 ^ 0 * s0 + 0]
      rw [Nat.pow_zero, Nat.one_mul, Nat.add_zero]
    · rw [if_neg h]
      have e : ¬ rch Ts tgt 0 w 0 = true := fun q => h (of_decide_eq_true q)
      rw [List.filter_cons, if_neg e]
      rfl
  | succ k ih =>
    intro w s0
    have e3 : 3 ^ (k + 1) = 3 ^ k + 3 ^ k + 3 ^ k := by rw [Nat.pow_succ]; omega
    have b0 := sq_blk (t := 0) (s0 := s0) (w := w) (by decide) ih
    have b1 := sq_blk (t := 1) (s0 := s0) (w := w) (by decide) ih
    have b2 := sq_blk (t := 2) (s0 := s0) (w := w) (by decide) ih
    have er : List.range (3 ^ (k + 1)) = (List.range (3 ^ k)).map (fun x => 0 * 3 ^ k + x) ++ (List.range (3 ^ k)).map (fun x => 1 * 3 ^ k + x) ++ (List.range (3 ^ k)).map (fun x => 2 * 3 ^ k + x) := by
      rw [e3, List.range_add, List.range_add]
      have e0 : (List.range (3 ^ k)).map (fun x => 0 * 3 ^ k + x) = List.range (3 ^ k) := by
        rw [show (fun x => 0 * 3 ^ k + x) = (fun x : Nat => x) from by funext x; omega]
        exact List.map_id' _
      rw [e0, show (fun x => 1 * 3 ^ k + x) = (fun x : Nat => 3 ^ k + x) from by funext x; omega, show (fun x => 2 * 3 ^ k + x) = (fun x : Nat => 3 ^ k + 3 ^ k + x) from by funext x; omega]
    rw [er, List.filter_append, List.filter_append, List.map_append, List.map_append, b0, b1, b2]
    rfl
theorem filter_len {p : Nat → Bool} : ∀ n, ((List.range n).filter p).length = sumN (fun i => bI (p i)) n := by
  intro n
  induction n with
  | zero => rfl
  | succ n ih =>
    rw [List.range_succ, List.filter_append, List.length_append, ih]
    show _ = sumN (fun i => bI (p i)) n + bI (p n)
    congr 1
    cases h : p n with
    | false => rw [List.filter_cons, if_neg (by rw [h]; decide)]; rfl
    | true => rw [List.filter_cons, if_pos h]; rfl
theorem sq_count {Ts : Nat → TabV} {tgt w : List Nat} {n : Nat} : (sqL Ts tgt n w 0).length = sumN (fun s => bI (rch Ts tgt n w s)) (3 ^ n) := by
  rw [sq_rch, List.length_map, filter_len]
theorem sq_nil {Ts : Nat → TabV} {tgt w : List Nat} {n : Nat} (h : ∀ i, i < 3 ^ n → rch Ts tgt n w i = false) : sqL Ts tgt n w 0 = [] := by
  rw [sq_rch, List.filter_eq_nil_iff.mpr (fun x hx => by rw [h x (List.mem_range.mp hx)]; decide)]
  rfl
theorem sq_first {Ts : Nat → TabV} {tgt w : List Nat} {n m : Nat} (hm : m < 3 ^ n) (h1 : rch Ts tgt n w m = true) (h : ∀ i, i < m → rch Ts tgt n w i = false) : ∃ L, sqL Ts tgt n w 0 = m :: L := by
  rw [sq_rch]
  obtain ⟨j, hj⟩ := Nat.exists_eq_add_of_le (show m + 1 ≤ 3 ^ n from hm)
  rw [hj, List.range_add, List.range_succ, List.filter_append, List.filter_append, List.filter_eq_nil_iff.mpr (fun x hx => by rw [h x (List.mem_range.mp hx)]; decide), List.filter_cons, if_pos h1]
  rw [List.nil_append, List.cons_append, List.map_cons]
  have e : (m + 1 + j) * 0 + m = m := by rw [Nat.mul_zero, Nat.zero_add]
  exact ⟨_, congr (congrArg List.cons e) rfl⟩
theorem m_power {scr : Scr} {l : Launch} {S : Sto} {n d : Nat} (hn : n ≤ 5) : MetA scr l d M_Md_power [.int (nI n)] S (.inl (some (.int (nI (3 ^ n)))), S) := by
  refine MetA.of rfl (by decide +kernel) (Nat.le_of_ble_eq_true rfl) ?_
  refine ev_iconstN (v := 1) i_Md_power_0 (by decide) ?_
  refine ev_ist_n_1 i_Md_power_1 rfl ?_
  refine ev_iconstN (v := 0) i_Md_power_2 (by decide) ?_
  refine ev_ist_n_2 i_Md_power_3 rfl ?_
  refine ev_loop (n := n) (fun i => [some (.int (nI n)), some (.int (nI (3 ^ i))), some (.int (nI i))]) (fun i => S) (fun i hi ki => ?_) ?_
  · try dsimp only at ki ⊢
    refine ev_iload_n i_Md_power_4 rfl ?_
    refine ev_iload_n i_Md_power_5 rfl ?_
    refine ev_icmp_geN i_Md_power_6 (by omega) (by omega) (fun hc_6 => ?_) (fun hc_6 => ?_)
    · skip
      exfalso; omega
    · skip
      refine ev_iload_n i_Md_power_9 rfl ?_
      refine ev_iconstN (v := 3) i_Md_power_10 (by decide) ?_
      refine ev_imulN i_Md_power_11 ?_
      rw [← Nat.pow_succ]
      refine ev_ist_n_1 i_Md_power_12 rfl ?_
      refine ev_iincN_2 (c := 1) i_Md_power_13 (by decide) rfl ?_
      refine ev_goto i_Md_power_16 ?_
      exact ki
  · try dsimp only
    refine ev_iload_n i_Md_power_4 rfl ?_
    refine ev_iload_n i_Md_power_5 rfl ?_
    refine ev_icmp_geN i_Md_power_6 (by omega) (by omega) (fun hc_6 => ?_) (fun hc_6 => ?_)
    · skip
      refine ev_iload_n i_Md_power_19 rfl ?_
      exact ev_iret i_Md_power_20 rfl (by first | rfl | decide)
    · skip
      exfalso; omega
theorem pow3 {n : Nat} (h : n ≤ 5) : 3 ^ n ≤ 243 := Nat.le_trans (Nat.pow_le_pow_right (by decide) h) (by decide)
theorem nI_m1 (a : Nat) : nI a + Int32.ofInt (-1) = nI a - nI 1 := by
  have e : Int32.ofInt (-1) = - nI 1 := by decide
  rw [e, ← Int32.sub_eq_add_neg]
theorem allDet_iff {C : Core} : allB (fun t => detB (C.1 t)) 3 = true ↔ allDet C := by
  rw [allB_iff]
  exact ⟨fun h t ht => detB_iff.mp (h t ht), fun h t ht => detB_iff.mpr (h t ht)⟩
theorem m_allDet {scr : Scr} {l : Launch} {S : Sto} {σ : Sg} {th : Nat} {d : Nat} (h : MInv th σ S) : MetA scr l (d + 2) M_Md_allDeterministic [.ref 105] S (.inl (some (.int (nI (bI (allB (fun t => detB (σ.2.1.1 t)) 3))))), S) := by
  obtain ⟨dr, mo, sc, h0⟩ := h.get
  refine MetA.of rfl (by decide +kernel) (Nat.le_of_ble_eq_true rfl) ?_
  refine ev_iconstN (v := 1) i_Md_allDeterministic_0 (by decide) ?_
  refine ev_ist_n_1 i_Md_allDeterministic_1 rfl ?_
  refine ev_iconstN (v := 0) i_Md_allDeterministic_2 (by decide) ?_
  refine ev_ist_n_2 i_Md_allDeterministic_3 rfl ?_
  refine ev_loop (n := 3) (fun i => [some (.ref 105), some (.int (nI (bI (allB (fun t => detB (σ.2.1.1 t)) i)))), some (.int (nI i))]) (fun i => S) (fun i hi ki => ?_) ?_
  · try dsimp only at ki ⊢
    have eb : allB (fun t => detB (σ.2.1.1 t)) (i + 1) = (allB (fun t => detB (σ.2.1.1 t)) i && detB (σ.2.1.1 i)) := rfl
    cases hb : allB (fun t => detB (σ.2.1.1 t)) i with
    | false =>
      rw [bI_f]
      refine ev_iload_n i_Md_allDeterministic_4 rfl ?_
      refine ev_iconstN (v := 3) i_Md_allDeterministic_5 (by decide) ?_
      refine ev_icmp_geN i_Md_allDeterministic_6 (by omega) (by omega) (fun hc_6 => ?_) (fun hc_6 => ?_)
      · skip
        exfalso; omega
      · skip
        refine ev_iload_n i_Md_allDeterministic_9 rfl ?_
        refine ev_if_eqN i_Md_allDeterministic_10 (by omega) (fun hc_10 => ?_) (fun hc_10 => ?_)
        · skip
          refine ev_iconstN (v := 0) i_Md_allDeterministic_25 (by decide) ?_
          refine ev_ist_n_1 i_Md_allDeterministic_26 rfl ?_
          refine ev_iincN_2 (c := 1) i_Md_allDeterministic_27 (by decide) rfl ?_
          refine ev_goto i_Md_allDeterministic_30 ?_
          rw [eb, hb] at ki
          exact ki
        · skip
          exfalso; omega
    | true =>
      rw [bI_t]
      cases hd : detB (σ.2.1.1 i) with
      | true =>
        refine ev_iload_n i_Md_allDeterministic_4 rfl ?_
        refine ev_iconstN (v := 3) i_Md_allDeterministic_5 (by decide) ?_
        refine ev_icmp_geN i_Md_allDeterministic_6 (by omega) (by omega) (fun hc_6 => ?_) (fun hc_6 => ?_)
        · skip
          exfalso; omega
        · skip
          refine ev_iload_n i_Md_allDeterministic_9 rfl ?_
          refine ev_if_eqN i_Md_allDeterministic_10 (by omega) (fun hc_10 => ?_) (fun hc_10 => ?_)
          · skip
            exfalso; omega
          · skip
            refine ev_aload_n i_Md_allDeterministic_13 rfl ?_
            refine ev_iload_n i_Md_allDeterministic_14 rfl ?_
            refine ev_callV1 i_Md_allDeterministic_15 rfl h0 (Nat.le_of_ble_eq_true rfl) ((m_det h (by omega)).1 (detB_iff.mp hd)) ?_
            refine ev_if_eqN i_Md_allDeterministic_18 (by omega) (fun hc_18 => ?_) (fun hc_18 => ?_)
            · skip
              exfalso; omega
            · skip
              refine ev_iconstN (v := 1) i_Md_allDeterministic_21 (by decide) ?_
              refine ev_goto i_Md_allDeterministic_22 ?_
              refine ev_ist_n_1 i_Md_allDeterministic_26 rfl ?_
              refine ev_iincN_2 (c := 1) i_Md_allDeterministic_27 (by decide) rfl ?_
              refine ev_goto i_Md_allDeterministic_30 ?_
              rw [eb, hb, hd] at ki
              exact ki
      | false =>
        refine ev_iload_n i_Md_allDeterministic_4 rfl ?_
        refine ev_iconstN (v := 3) i_Md_allDeterministic_5 (by decide) ?_
        refine ev_icmp_geN i_Md_allDeterministic_6 (by omega) (by omega) (fun hc_6 => ?_) (fun hc_6 => ?_)
        · skip
          exfalso; omega
        · skip
          refine ev_iload_n i_Md_allDeterministic_9 rfl ?_
          refine ev_if_eqN i_Md_allDeterministic_10 (by omega) (fun hc_10 => ?_) (fun hc_10 => ?_)
          · skip
            exfalso; omega
          · skip
            refine ev_aload_n i_Md_allDeterministic_13 rfl ?_
            refine ev_iload_n i_Md_allDeterministic_14 rfl ?_
            refine ev_callV1 i_Md_allDeterministic_15 rfl h0 (Nat.le_of_ble_eq_true rfl) ((m_det h (by omega)).2 (fun q => by rw [detB_iff.mpr q] at hd; cases hd)) ?_
            refine ev_if_eqN i_Md_allDeterministic_18 (by omega) (fun hc_18 => ?_) (fun hc_18 => ?_)
            · skip
              refine ev_iconstN (v := 0) i_Md_allDeterministic_25 (by decide) ?_
              refine ev_ist_n_1 i_Md_allDeterministic_26 rfl ?_
              refine ev_iincN_2 (c := 1) i_Md_allDeterministic_27 (by decide) rfl ?_
              refine ev_goto i_Md_allDeterministic_30 ?_
              rw [eb, hb, hd] at ki
              exact ki
            · skip
              exfalso; omega
  · try dsimp only
    refine ev_iload_n i_Md_allDeterministic_4 rfl ?_
    refine ev_iconstN (v := 3) i_Md_allDeterministic_5 (by decide) ?_
    refine ev_icmp_geN i_Md_allDeterministic_6 (by omega) (by omega) (fun hc_6 => ?_) (fun hc_6 => ?_)
    · skip
      refine ev_iload_n i_Md_allDeterministic_33 rfl ?_
      exact ev_iretB i_Md_allDeterministic_34 rfl
    · skip
      exfalso; omega
theorem lp_reach {scr : Scr} {l : Launch} {S : Sto} {σ : Sg} {s n : Nat} (hs : s < 1000) (hd : allDet σ.2.1) : ∀ (k : Nat), k ≤ 5 → ∀ (w : List Nat) (S2 : Sto), MInv 0 σ S2 → TrW S2 w → Fr trK S S2 → ∃ S3, (∀ d, Ev scr l (d + 5) M_Md_reaches 19 [some (.ref 105), some (.int (nI s)), some (.int (nI n)), some (.int (nI k - nI 1))] [] S2 (.inl (some (.int (nI (bI (rch σ.2.1.1 σ.2.1.2.2.1 k w s))))), S3)) ∧ MInv 0 σ S3 ∧ Fr trK S S3 := by
  intro k
  induction k with
  | zero =>
    intro hk w S2 h2 hx hF
    obtain ⟨dr, mo, sc, o2⟩ := h2.get
    obtain ⟨f, x1, x2⟩ := hx
    obtain ⟨l1, lw, ⟨gt, t1, t2⟩, l4⟩ := h2.2.2.1
    refine ⟨S2, fun d => ?_, h2, hF⟩
    have e : bI (rch σ.2.1.1 σ.2.1.2.2.1 0 w s) = if w = σ.2.1.2.2.1 then 1 else 0 := by
      show bI (decide (w = σ.2.1.2.2.1)) = _
      by_cases q : w = σ.2.1.2.2.1
      · rw [if_pos q, decide_eq_true q]; rfl
      · rw [if_neg q, decide_eq_false q]; rfl
    rw [e]
    refine ev_iload_n i_Md_reaches_19 rfl ?_
    refine ev_if_lt i_Md_reaches_20 (fun hc_20 => ?_) (fun hc_20 => ?_)
    · skip
      refine ev_aload_n i_Md_reaches_69 rfl ?_
      refine ev_get i_Md_reaches_70 o2 rfl ?_
      refine ev_aload_n i_Md_reaches_73 rfl ?_
      refine ev_get i_Md_reaches_74 o2 rfl ?_
      refine ev_callS2 i_Md_reaches_77 rfl (Nat.le_of_ble_eq_true rfl) (m_same x1 t1 x2 t2) ?_
      exact ev_iret i_Md_reaches_80 rfl (by split <;> decide)
    · skip
      exact absurd (show nI 0 - nI 1 < 0 by decide) hc_20
  | succ k ih =>
    intro hk w S2 h2 hx hF
    obtain ⟨dr, mo, sc, o2⟩ := h2.get
    obtain ⟨f, x1, x2⟩ := id hx
    have h3 := pow3 (show k ≤ 5 by omega)
    have hp : 0 < 3 ^ k := Nat.pow_pos (by decide)
    have hq : s / 3 ^ k ≤ s := Nat.div_le_self _ _
    have ht : (s / 3 ^ k % 3) < 3 := Nat.mod_lt _ (by decide)
    have hsd : ∀ x y, stepW (σ.2.1.1 (s / 3 ^ k % 3)) w x = stepW (σ.2.1.1 (s / 3 ^ k % 3)) w y := fun x y => stepW_seed (oneI_det (hd _ ht) (fun i hi => (x2.2.2 i hi).2)) (fun i hi => by rw [hd _ ht _ (x2.2.2 i hi).2]; exact Nat.le_refl _)
    rw [nI_sub (show 1 ≤ k + 1 by omega), Nat.add_sub_cancel]
    unfold rch
    by_cases hl : (stepW (σ.2.1.1 (s / 3 ^ k % 3)) w (nI 0)).length ≤ 60
    · rw [if_pos hl]
      obtain ⟨S4, m4, ⟨x4, s4⟩, ⟨G, b4, c4⟩, F4⟩ := (m_step3 (scr := scr) (l := l) ht (by decide) (by decide) (h2.st3t o2 ht hx)).1 (by rw [hsd dr (nI 0)]; exact hl)
      have h4 : MInv 0 σ S4 := h2.ofst F4 s4
      have o4 := s4.obj
      have t4 := F4.at x1 (by decide)
      rw [hsd dr (nI 0)] at c4
      have f5 : Fr trK S4 (S4.put 125 (aI 61 (va_cpy G f 0 0 61))) := Fr.put _ _ (by simp)
      obtain ⟨S5, m5, r5⟩ := ih (by omega) _ (S4.put 125 (aI 61 (va_cpy G f 0 0 61))) (h4.putTrial t4) ⟨_, put_self t4, c4.mv (fun j hj => by rw [cpy_at (by omega) (by omega)]; congr 1; omega)⟩ ((hF.tr (F4.mono (by simp))).tr f5)
      refine ⟨S5, fun d => ?_, r5⟩
      refine ev_iload_n i_Md_reaches_19 rfl ?_
      refine ev_if_lt_N i_Md_reaches_20 (by omega) (fun hc_20 => ?_) (fun hc_20 => ?_)
      · skip
        exfalso; omega
      · skip
        refine ev_aload_n i_Md_reaches_23 rfl ?_
        refine ev_iload_n i_Md_reaches_24 rfl ?_
        refine ev_iload_n i_Md_reaches_25 rfl ?_
        refine ev_callS1 i_Md_reaches_26 rfl (Nat.le_of_ble_eq_true rfl) (m_power (by omega)) ?_
        refine ev_idivN i_Md_reaches_29 (by omega) (by omega) (by omega) ?_
        refine ev_iconstN (v := 3) i_Md_reaches_30 (by decide) ?_
        refine ev_iremN i_Md_reaches_31 (by decide) (by omega) (by decide) ?_
        refine ev_aload_n i_Md_reaches_32 rfl ?_
        refine ev_get i_Md_reaches_33 o2 rfl ?_
        refine ev_aload_n i_Md_reaches_36 rfl ?_
        refine ev_get i_Md_reaches_37 o2 rfl ?_
        refine ev_callV3 i_Md_reaches_40 rfl o2 (Nat.le_of_ble_eq_true rfl) (m4 _) ?_
        refine ev_if_neN i_Md_reaches_43 (by omega) (fun hc_43 => ?_) (fun hc_43 => ?_)
        · skip
          refine ev_aload_n i_Md_reaches_48 rfl ?_
          refine ev_get i_Md_reaches_49 o4 rfl ?_
          refine ev_iconstN (v := 0) i_Md_reaches_52 (by decide) ?_
          refine ev_aload_n i_Md_reaches_53 rfl ?_
          refine ev_get i_Md_reaches_54 o4 rfl ?_
          refine ev_iconstN (v := 0) i_Md_reaches_57 (by decide) ?_
          refine ev_bipushN (v := 61) i_Md_reaches_58 (by decide) ?_
          refine ev_cpyIN i_Md_reaches_60 rfl (Nat.le_of_ble_eq_true rfl) b4 t4 (by omega) (by omega) (by decide) (by decide) ?_
          refine ev_iinc_3 i_Md_reaches_63 rfl ?_
          rw [nI_m1]
          refine ev_goto i_Md_reaches_66 ?_
          exact m5 d
        · skip
          exfalso; omega
    · rw [if_neg hl]
      obtain ⟨S4, m4, ⟨x4, s4⟩, F4⟩ := (m_step3 (scr := scr) (l := l) ht (by decide) (by decide) (h2.st3t o2 ht hx)).2 (by rw [hsd dr (nI 0)]; omega)
      refine ⟨S4, fun d => ?_, h2.ofst F4 s4, hF.tr (F4.mono (by simp))⟩
      show Ev _ _ _ _ _ _ _ _ (.inl (some (.int (nI 0))), S4)
      refine ev_iload_n i_Md_reaches_19 rfl ?_
      refine ev_if_lt_N i_Md_reaches_20 (by omega) (fun hc_20 => ?_) (fun hc_20 => ?_)
      · skip
        exfalso; omega
      · skip
        refine ev_aload_n i_Md_reaches_23 rfl ?_
        refine ev_iload_n i_Md_reaches_24 rfl ?_
        refine ev_iload_n i_Md_reaches_25 rfl ?_
        refine ev_callS1 i_Md_reaches_26 rfl (Nat.le_of_ble_eq_true rfl) (m_power (by omega)) ?_
        refine ev_idivN i_Md_reaches_29 (by omega) (by omega) (by omega) ?_
        refine ev_iconstN (v := 3) i_Md_reaches_30 (by decide) ?_
        refine ev_iremN i_Md_reaches_31 (by decide) (by omega) (by decide) ?_
        refine ev_aload_n i_Md_reaches_32 rfl ?_
        refine ev_get i_Md_reaches_33 o2 rfl ?_
        refine ev_aload_n i_Md_reaches_36 rfl ?_
        refine ev_get i_Md_reaches_37 o2 rfl ?_
        refine ev_callV3 i_Md_reaches_40 rfl o2 (Nat.le_of_ble_eq_true rfl) (m4 _) ?_
        refine ev_if_neN i_Md_reaches_43 (by omega) (fun hc_43 => ?_) (fun hc_43 => ?_)
        · skip
          exfalso; omega
        · skip
          refine ev_iconstN (v := 0) i_Md_reaches_46 (by decide) ?_
          exact ev_iret i_Md_reaches_47 rfl (by first | rfl | decide)
theorem m_reaches {scr : Scr} {l : Launch} {S : Sto} {σ : Sg} {s n : Nat} (h : MInv 0 σ S) (hs : s < 1000) (hn : n ≤ 5) (hd : allDet σ.2.1) : ∃ S3, (∀ d, MetA scr l (d + 5) M_Md_reaches [.ref 105, .int (nI s), .int (nI n)] S (.inl (some (.int (nI (bI (rch σ.2.1.1 σ.2.1.2.2.1 n σ.2.1.2.1 s))))), S3)) ∧ MInv 0 σ S3 ∧ Fr trK S S3 := by
  obtain ⟨dr, mo, sc, h0⟩ := h.get
  obtain ⟨l1, ⟨gw, w1, w2⟩, l3⟩ := h.2.2.1
  obtain ⟨ft, t1⟩ := h.trial
  obtain ⟨S3, m3, r3⟩ := lp_reach (scr := scr) (l := l) (S := S) (n := n) hs hd n hn σ.2.1.2.1 (S.put 125 (aI 61 (va_cpy gw ft 0 0 61))) (h.putTrial t1) ⟨_, put_self t1, w2.mv (fun j hj => by rw [cpy_at (by omega) (by omega)]; congr 1; omega)⟩ (Fr.put _ _ (by simp))
  refine ⟨S3, fun d => ?_, r3⟩
  refine MetA.of rfl (by decide +kernel) (Nat.le_of_ble_eq_true rfl) ?_
  refine ev_aload_n i_Md_reaches_0 rfl ?_
  refine ev_get i_Md_reaches_1 h0 rfl ?_
  refine ev_iconstN (v := 0) i_Md_reaches_4 (by decide) ?_
  refine ev_aload_n i_Md_reaches_5 rfl ?_
  refine ev_get i_Md_reaches_6 h0 rfl ?_
  refine ev_iconstN (v := 0) i_Md_reaches_9 (by decide) ?_
  refine ev_bipushN (v := 61) i_Md_reaches_10 (by decide) ?_
  refine ev_cpyIN i_Md_reaches_12 rfl (Nat.le_of_ble_eq_true rfl) w1 t1 (by omega) (by omega) (by decide) (by decide) ?_
  refine ev_iload_n i_Md_reaches_15 rfl ?_
  refine ev_iconstN (v := 1) i_Md_reaches_16 (by decide) ?_
  refine ev_isub i_Md_reaches_17 ?_
  refine ev_ist_n_3 i_Md_reaches_18 rfl ?_
  exact m3 d
theorem m_seqCount_1 {scr : Scr} {l : Launch} {S : Sto} {σ : Sg} {th : Nat} {q : Int32} (h : MInv th σ S) (hq : ¬ inR 6 q) : MRun scr l 6 M_Md_sequenceCount [.ref 105, .int q] S (some (.int (nI 0))) 1 σ := by
  refine MRun.th h (fun dr mo sc h0 d => ?_)
  have o1 : (S.put 105 (mO 1 σ dr mo sc)).1[105]? = _ := put_self h0
  refine MetA.of rfl (by decide +kernel) (Nat.le_of_ble_eq_true rfl) ?_
  refine ev_aload_n i_Md_sequenceCount_0 rfl ?_
  refine ev_iload_n i_Md_sequenceCount_1 rfl ?_
  refine ev_iconstN (v := 0) i_Md_sequenceCount_2 (by decide) ?_
  refine ev_iconstN (v := 5) i_Md_sequenceCount_3 (by decide) ?_
  refine ev_callS3 i_Md_sequenceCount_4 rfl (Nat.le_of_ble_eq_true rfl) (m_in.2 (fun z => hq ((inR_inB (n := 6) (by decide) (by decide)).mpr z))) ?_
  refine ev_if_neN i_Md_sequenceCount_7 (by omega) (fun hc_7 => ?_) (fun hc_7 => ?_)
  · skip
    exfalso; omega
  · skip
    refine ev_iconstN (v := 1) i_Md_sequenceCount_10 (by decide) ?_
    refine ev_goto i_Md_sequenceCount_11 ?_
    refine ev_mput_thrown i_Md_sequenceCount_26 h0 ?_
    refine ev_iconstN (v := 0) i_Md_sequenceCount_29 (by decide) ?_
    refine ev_ist_n_2 i_Md_sequenceCount_30 rfl ?_
    refine ev_iconstN (v := 0) i_Md_sequenceCount_31 (by decide) ?_
    refine ev_ist_n_3 i_Md_sequenceCount_32 rfl ?_
    refine ev_aload_n i_Md_sequenceCount_33 rfl ?_
    refine ev_get i_Md_sequenceCount_34 o1 rfl ?_
    refine ev_if_neN i_Md_sequenceCount_37 (by omega) (fun hc_37 => ?_) (fun hc_37 => ?_)
    · skip
      refine ev_iload_n i_Md_sequenceCount_71 rfl ?_
      exact ev_iret i_Md_sequenceCount_72 rfl (by first | rfl | decide)
    · skip
      exfalso; omega
theorem m_seqCount_2 {scr : Scr} {l : Launch} {S : Sto} {σ : Sg} {th : Nat} {n : Nat} (h : MInv th σ S) (hn : n < 6) (hd : ¬ allDet σ.2.1) : MRun scr l 6 M_Md_sequenceCount [.ref 105, .int (nI n)] S (some (.int (nI 0))) 2 σ := by
  have hb : allB (fun t => detB (σ.2.1.1 t)) 3 = false := by
    cases hb : allB (fun t => detB (σ.2.1.1 t)) 3 with
    | false => rfl
    | true => exact absurd (allDet_iff.mp hb) hd
  refine MRun.th h (fun dr mo sc h0 d => ?_)
  have o1 : (S.put 105 (mO 2 σ dr mo sc)).1[105]? = _ := put_self h0
  refine MetA.of rfl (by decide +kernel) (Nat.le_of_ble_eq_true rfl) ?_
  refine ev_aload_n i_Md_sequenceCount_0 rfl ?_
  refine ev_iload_n i_Md_sequenceCount_1 rfl ?_
  refine ev_iconstN (v := 0) i_Md_sequenceCount_2 (by decide) ?_
  refine ev_iconstN (v := 5) i_Md_sequenceCount_3 (by decide) ?_
  refine ev_callS3 i_Md_sequenceCount_4 rfl (Nat.le_of_ble_eq_true rfl) (m_in.1 ((inR_inB (n := 6) (by decide) (by decide)).mp (inR.of (by decide) hn))) ?_
  refine ev_if_neN i_Md_sequenceCount_7 (by omega) (fun hc_7 => ?_) (fun hc_7 => ?_)
  · skip
    refine ev_aload_n i_Md_sequenceCount_14 rfl ?_
    refine ev_callV0 i_Md_sequenceCount_15 rfl h0 (Nat.le_of_ble_eq_true rfl) (m_allDet h) ?_
    rw [hb, bI_f]
    refine ev_if_neN i_Md_sequenceCount_18 (by omega) (fun hc_18 => ?_) (fun hc_18 => ?_)
    · skip
      exfalso; omega
    · skip
      refine ev_iconstN (v := 2) i_Md_sequenceCount_21 (by decide) ?_
      refine ev_goto i_Md_sequenceCount_22 ?_
      refine ev_mput_thrown i_Md_sequenceCount_26 h0 ?_
      refine ev_iconstN (v := 0) i_Md_sequenceCount_29 (by decide) ?_
      refine ev_ist_n_2 i_Md_sequenceCount_30 rfl ?_
      refine ev_iconstN (v := 0) i_Md_sequenceCount_31 (by decide) ?_
      refine ev_ist_n_3 i_Md_sequenceCount_32 rfl ?_
      refine ev_aload_n i_Md_sequenceCount_33 rfl ?_
      refine ev_get i_Md_sequenceCount_34 o1 rfl ?_
      refine ev_if_neN i_Md_sequenceCount_37 (by omega) (fun hc_37 => ?_) (fun hc_37 => ?_)
      · skip
        refine ev_iload_n i_Md_sequenceCount_71 rfl ?_
        exact ev_iret i_Md_sequenceCount_72 rfl (by first | rfl | decide)
      · skip
        exfalso; omega
  · skip
    exfalso; omega
theorem m_seqFirst_1 {scr : Scr} {l : Launch} {S : Sto} {σ : Sg} {th : Nat} {q : Int32} (h : MInv th σ S) (hq : ¬ inR 6 q) : MRun scr l 6 M_Md_firstSequence [.ref 105, .int q] S (some (.int (nI 0))) 1 σ := by
  refine MRun.th h (fun dr mo sc h0 d => ?_)
  have o1 : (S.put 105 (mO 1 σ dr mo sc)).1[105]? = _ := put_self h0
  refine MetA.of rfl (by decide +kernel) (Nat.le_of_ble_eq_true rfl) ?_
  refine ev_aload_n i_Md_firstSequence_0 rfl ?_
  refine ev_iload_n i_Md_firstSequence_1 rfl ?_
  refine ev_iconstN (v := 0) i_Md_firstSequence_2 (by decide) ?_
  refine ev_iconstN (v := 5) i_Md_firstSequence_3 (by decide) ?_
  refine ev_callS3 i_Md_firstSequence_4 rfl (Nat.le_of_ble_eq_true rfl) (m_in.2 (fun z => hq ((inR_inB (n := 6) (by decide) (by decide)).mpr z))) ?_
  refine ev_if_neN i_Md_firstSequence_7 (by omega) (fun hc_7 => ?_) (fun hc_7 => ?_)
  · skip
    exfalso; omega
  · skip
    refine ev_iconstN (v := 1) i_Md_firstSequence_10 (by decide) ?_
    refine ev_goto i_Md_firstSequence_11 ?_
    refine ev_mput_thrown i_Md_firstSequence_26 h0 ?_
    refine ev_iconstN (v := 0) i_Md_firstSequence_29 (by decide) ?_
    refine ev_ist_n_2 i_Md_firstSequence_30 rfl ?_
    refine ev_aload_n i_Md_firstSequence_31 rfl ?_
    refine ev_get i_Md_firstSequence_32 o1 rfl ?_
    refine ev_if_neN i_Md_firstSequence_35 (by omega) (fun hc_35 => ?_) (fun hc_35 => ?_)
    · skip
      refine ev_aload_n i_Md_firstSequence_63 rfl ?_
      refine ev_get i_Md_firstSequence_64 o1 rfl ?_
      refine ev_if_leN i_Md_firstSequence_67 (by omega) (fun hc_67 => ?_) (fun hc_67 => ?_)
      · skip
        exfalso; omega
      · skip
        refine ev_iconstN (v := 0) i_Md_firstSequence_70 (by decide) ?_
        refine ev_goto i_Md_firstSequence_71 ?_
        exact ev_iret i_Md_firstSequence_79 rfl (by first | rfl | decide)
    · skip
      exfalso; omega
theorem m_seqFirst_2 {scr : Scr} {l : Launch} {S : Sto} {σ : Sg} {th : Nat} {n : Nat} (h : MInv th σ S) (hn : n < 6) (hd : ¬ allDet σ.2.1) : MRun scr l 6 M_Md_firstSequence [.ref 105, .int (nI n)] S (some (.int (nI 0))) 2 σ := by
  have hb : allB (fun t => detB (σ.2.1.1 t)) 3 = false := by
    cases hb : allB (fun t => detB (σ.2.1.1 t)) 3 with
    | false => rfl
    | true => exact absurd (allDet_iff.mp hb) hd
  refine MRun.th h (fun dr mo sc h0 d => ?_)
  have o1 : (S.put 105 (mO 2 σ dr mo sc)).1[105]? = _ := put_self h0
  refine MetA.of rfl (by decide +kernel) (Nat.le_of_ble_eq_true rfl) ?_
  refine ev_aload_n i_Md_firstSequence_0 rfl ?_
  refine ev_iload_n i_Md_firstSequence_1 rfl ?_
  refine ev_iconstN (v := 0) i_Md_firstSequence_2 (by decide) ?_
  refine ev_iconstN (v := 5) i_Md_firstSequence_3 (by decide) ?_
  refine ev_callS3 i_Md_firstSequence_4 rfl (Nat.le_of_ble_eq_true rfl) (m_in.1 ((inR_inB (n := 6) (by decide) (by decide)).mp (inR.of (by decide) hn))) ?_
  refine ev_if_neN i_Md_firstSequence_7 (by omega) (fun hc_7 => ?_) (fun hc_7 => ?_)
  · skip
    refine ev_aload_n i_Md_firstSequence_14 rfl ?_
    refine ev_callV0 i_Md_firstSequence_15 rfl h0 (Nat.le_of_ble_eq_true rfl) (m_allDet h) ?_
    rw [hb, bI_f]
    refine ev_if_neN i_Md_firstSequence_18 (by omega) (fun hc_18 => ?_) (fun hc_18 => ?_)
    · skip
      exfalso; omega
    · skip
      refine ev_iconstN (v := 2) i_Md_firstSequence_21 (by decide) ?_
      refine ev_goto i_Md_firstSequence_22 ?_
      refine ev_mput_thrown i_Md_firstSequence_26 h0 ?_
      refine ev_iconstN (v := 0) i_Md_firstSequence_29 (by decide) ?_
      refine ev_ist_n_2 i_Md_firstSequence_30 rfl ?_
      refine ev_aload_n i_Md_firstSequence_31 rfl ?_
      refine ev_get i_Md_firstSequence_32 o1 rfl ?_
      refine ev_if_neN i_Md_firstSequence_35 (by omega) (fun hc_35 => ?_) (fun hc_35 => ?_)
      · skip
        refine ev_aload_n i_Md_firstSequence_63 rfl ?_
        refine ev_get i_Md_firstSequence_64 o1 rfl ?_
        refine ev_if_leN i_Md_firstSequence_67 (by omega) (fun hc_67 => ?_) (fun hc_67 => ?_)
        · skip
          exfalso; omega
        · skip
          refine ev_iconstN (v := 0) i_Md_firstSequence_70 (by decide) ?_
          refine ev_goto i_Md_firstSequence_71 ?_
          exact ev_iret i_Md_firstSequence_79 rfl (by first | rfl | decide)
      · skip
        exfalso; omega
  · skip
    exfalso; omega
theorem lp_seqCount {scr : Scr} {l : Launch} {S : Sto} {σ : Sg} {n : Nat} (hn : n ≤ 5) (hd : allDet σ.2.1) : ∀ (k c : Nat), c + k = 3 ^ n → ∀ (S2 : Sto), MInv 0 σ S2 → Fr trK S S2 → ∃ S3, (∀ d, Ev scr l (d + 6) M_Md_sequenceCount 33 [some (.ref 105), some (.int (nI n)), some (.int (nI (sumN (fun s => bI (rch σ.2.1.1 σ.2.1.2.2.1 n σ.2.1.2.1 s)) c))), some (.int (nI c))] [] S2 (.inl (some (.int (nI (sumN (fun s => bI (rch σ.2.1.1 σ.2.1.2.2.1 n σ.2.1.2.1 s)) (3 ^ n))))), S3)) ∧ MInv 0 σ S3 ∧ Fr trK S S3 := by
  have h6 := pow3 hn
  intro k
  induction k with
  | zero =>
    intro c hc S2 h2 hF
    obtain ⟨dr, mo, sc, o2⟩ := h2.get
    have z : c = 3 ^ n := by omega
    rw [z]
    refine ⟨S2, fun d => ?_, h2, hF⟩
    refine ev_aload_n i_Md_sequenceCount_33 rfl ?_
    refine ev_get i_Md_sequenceCount_34 o2 rfl ?_
    refine ev_if_neN i_Md_sequenceCount_37 (by omega) (fun hc_37 => ?_) (fun hc_37 => ?_)
    · skip
      exfalso; omega
    · skip
      refine ev_iload_n i_Md_sequenceCount_40 rfl ?_
      refine ev_iload_n i_Md_sequenceCount_41 rfl ?_
      refine ev_callS1 i_Md_sequenceCount_42 rfl (Nat.le_of_ble_eq_true rfl) (m_power (by omega)) ?_
      refine ev_icmp_geN i_Md_sequenceCount_45 (by omega) (by omega) (fun hc_45 => ?_) (fun hc_45 => ?_)
      · skip
        refine ev_iload_n i_Md_sequenceCount_71 rfl ?_
        exact ev_iret i_Md_sequenceCount_72 rfl (by first | rfl | decide)
      · skip
        exfalso; omega
  | succ k ih =>
    intro c hc S2 h2 hF
    obtain ⟨dr, mo, sc, o2⟩ := h2.get
    obtain ⟨S3, m3, h3, F3⟩ := m_reaches (scr := scr) (l := l) (s := c) h2 (by omega) hn hd
    obtain ⟨S5, m5, r5⟩ := ih (c + 1) (by omega) S3 h3 (hF.tr F3)
    refine ⟨S5, fun d => ?_, r5⟩
    cases hb : (rch σ.2.1.1 σ.2.1.2.2.1 n σ.2.1.2.1 c) with
    | false =>
      have eb : (sumN (fun s => bI (rch σ.2.1.1 σ.2.1.2.2.1 n σ.2.1.2.1 s)) (c + 1)) = (sumN (fun s => bI (rch σ.2.1.1 σ.2.1.2.2.1 n σ.2.1.2.1 s)) c) + 0 := by show (sumN (fun s => bI (rch σ.2.1.1 σ.2.1.2.2.1 n σ.2.1.2.1 s)) c) + bI (rch σ.2.1.1 σ.2.1.2.2.1 n σ.2.1.2.1 c) = _; rw [hb]; rfl
      refine ev_aload_n i_Md_sequenceCount_33 rfl ?_
      refine ev_get i_Md_sequenceCount_34 o2 rfl ?_
      refine ev_if_neN i_Md_sequenceCount_37 (by omega) (fun hc_37 => ?_) (fun hc_37 => ?_)
      · skip
        exfalso; omega
      · skip
        refine ev_iload_n i_Md_sequenceCount_40 rfl ?_
        refine ev_iload_n i_Md_sequenceCount_41 rfl ?_
        refine ev_callS1 i_Md_sequenceCount_42 rfl (Nat.le_of_ble_eq_true rfl) (m_power (by omega)) ?_
        refine ev_icmp_geN i_Md_sequenceCount_45 (by omega) (by omega) (fun hc_45 => ?_) (fun hc_45 => ?_)
        · skip
          exfalso; omega
        · skip
          refine ev_iload_n i_Md_sequenceCount_48 rfl ?_
          refine ev_aload_n i_Md_sequenceCount_49 rfl ?_
          refine ev_iload_n i_Md_sequenceCount_50 rfl ?_
          refine ev_iload_n i_Md_sequenceCount_51 rfl ?_
          refine ev_callV2 i_Md_sequenceCount_52 rfl o2 (Nat.le_of_ble_eq_true rfl) (m3 _) ?_
          rw [hb, bI_f]
          refine ev_if_eqN i_Md_sequenceCount_55 (by omega) (fun hc_55 => ?_) (fun hc_55 => ?_)
          · skip
            refine ev_iconstN (v := 0) i_Md_sequenceCount_62 (by decide) ?_
            first | refine ev_iaddN i_Md_sequenceCount_63 ?_ | refine ev_iadd i_Md_sequenceCount_63 ?_
            refine ev_ist_n_2 i_Md_sequenceCount_64 rfl ?_
            refine ev_iincN_3 (c := 1) i_Md_sequenceCount_65 (by decide) rfl ?_
            refine ev_goto i_Md_sequenceCount_68 ?_
            have m5 := m5 d
            rw [eb] at m5
            exact m5
          · skip
            exfalso; omega
    | true =>
      have eb : (sumN (fun s => bI (rch σ.2.1.1 σ.2.1.2.2.1 n σ.2.1.2.1 s)) (c + 1)) = (sumN (fun s => bI (rch σ.2.1.1 σ.2.1.2.2.1 n σ.2.1.2.1 s)) c) + 1 := by show (sumN (fun s => bI (rch σ.2.1.1 σ.2.1.2.2.1 n σ.2.1.2.1 s)) c) + bI (rch σ.2.1.1 σ.2.1.2.2.1 n σ.2.1.2.1 c) = _; rw [hb]; rfl
      refine ev_aload_n i_Md_sequenceCount_33 rfl ?_
      refine ev_get i_Md_sequenceCount_34 o2 rfl ?_
      refine ev_if_neN i_Md_sequenceCount_37 (by omega) (fun hc_37 => ?_) (fun hc_37 => ?_)
      · skip
        exfalso; omega
      · skip
        refine ev_iload_n i_Md_sequenceCount_40 rfl ?_
        refine ev_iload_n i_Md_sequenceCount_41 rfl ?_
        refine ev_callS1 i_Md_sequenceCount_42 rfl (Nat.le_of_ble_eq_true rfl) (m_power (by omega)) ?_
        refine ev_icmp_geN i_Md_sequenceCount_45 (by omega) (by omega) (fun hc_45 => ?_) (fun hc_45 => ?_)
        · skip
          exfalso; omega
        · skip
          refine ev_iload_n i_Md_sequenceCount_48 rfl ?_
          refine ev_aload_n i_Md_sequenceCount_49 rfl ?_
          refine ev_iload_n i_Md_sequenceCount_50 rfl ?_
          refine ev_iload_n i_Md_sequenceCount_51 rfl ?_
          refine ev_callV2 i_Md_sequenceCount_52 rfl o2 (Nat.le_of_ble_eq_true rfl) (m3 _) ?_
          rw [hb, bI_t]
          refine ev_if_eqN i_Md_sequenceCount_55 (by omega) (fun hc_55 => ?_) (fun hc_55 => ?_)
          · skip
            exfalso; omega
          · skip
            refine ev_iconstN (v := 1) i_Md_sequenceCount_58 (by decide) ?_
            refine ev_goto i_Md_sequenceCount_59 ?_
            first | refine ev_iaddN i_Md_sequenceCount_63 ?_ | refine ev_iadd i_Md_sequenceCount_63 ?_
            refine ev_ist_n_2 i_Md_sequenceCount_64 rfl ?_
            refine ev_iincN_3 (c := 1) i_Md_sequenceCount_65 (by decide) rfl ?_
            refine ev_goto i_Md_sequenceCount_68 ?_
            have m5 := m5 d
            rw [eb] at m5
            exact m5
theorem m_seqCount {scr : Scr} {l : Launch} {S : Sto} {σ : Sg} {th : Nat} {n : Nat} (h : MInv th σ S) (hn : n < 6) (hd : allDet σ.2.1) : MRun scr l 6 M_Md_sequenceCount [.ref 105, .int (nI n)] S (some (.int (nI (sqL σ.2.1.1 σ.2.1.2.2.1 n σ.2.1.2.1 0).length))) 0 σ := by
  rw [sq_count]
  obtain ⟨dr, mo, sc, h0⟩ := h.get
  have hb : allB (fun t => detB (σ.2.1.1 t)) 3 = true := allDet_iff.mpr hd
  have o1 : (S.put 105 (mO 0 σ dr mo sc)).1[105]? = _ := put_self h0
  have h1 : MInv 0 σ (S.put 105 (mO 0 σ dr mo sc)) := h.th h0
  obtain ⟨S3, m3, i3, f3⟩ := lp_seqCount (scr := scr) (l := l) (S := S) (show n ≤ 5 by omega) hd (3 ^ n) 0 (by omega) _ h1 (Fr.put _ _ (by simp))
  refine ⟨S3, fun d => ?_, i3, f3.m (by decide)⟩
  refine MetA.of rfl (by decide +kernel) (Nat.le_of_ble_eq_true rfl) ?_
  refine ev_aload_n i_Md_sequenceCount_0 rfl ?_
  refine ev_iload_n i_Md_sequenceCount_1 rfl ?_
  refine ev_iconstN (v := 0) i_Md_sequenceCount_2 (by decide) ?_
  refine ev_iconstN (v := 5) i_Md_sequenceCount_3 (by decide) ?_
  refine ev_callS3 i_Md_sequenceCount_4 rfl (Nat.le_of_ble_eq_true rfl) (m_in.1 ((inR_inB (n := 6) (by decide) (by decide)).mp (inR.of (by decide) hn))) ?_
  refine ev_if_neN i_Md_sequenceCount_7 (by omega) (fun hc_7 => ?_) (fun hc_7 => ?_)
  · skip
    refine ev_aload_n i_Md_sequenceCount_14 rfl ?_
    refine ev_callV0 i_Md_sequenceCount_15 rfl h0 (Nat.le_of_ble_eq_true rfl) (m_allDet h) ?_
    rw [hb, bI_t]
    refine ev_if_neN i_Md_sequenceCount_18 (by omega) (fun hc_18 => ?_) (fun hc_18 => ?_)
    · skip
      refine ev_iconstN (v := 0) i_Md_sequenceCount_25 (by decide) ?_
      refine ev_mput_thrown i_Md_sequenceCount_26 h0 ?_
      refine ev_iconstN (v := 0) i_Md_sequenceCount_29 (by decide) ?_
      refine ev_ist_n_2 i_Md_sequenceCount_30 rfl ?_
      refine ev_iconstN (v := 0) i_Md_sequenceCount_31 (by decide) ?_
      refine ev_ist_n_3 i_Md_sequenceCount_32 rfl ?_
      exact m3 d
    · skip
      exfalso; omega
  · skip
    exfalso; omega
theorem lp_seqFirst_no {scr : Scr} {l : Launch} {S : Sto} {σ : Sg} {n : Nat} (hn : n ≤ 5) (hd : allDet σ.2.1) (hf : ∀ i, i < 3 ^ n → (rch σ.2.1.1 σ.2.1.2.2.1 n σ.2.1.2.1 i) = false) : ∀ (k c : Nat), c + k = 3 ^ n → ∀ (S2 : Sto), MInv 0 σ S2 → Fr trK S S2 → ∃ S3, (∀ d, Ev scr l (d + 6) M_Md_firstSequence 31 [some (.ref 105), some (.int (nI n)), some (.int (nI c))] [] S2 (.inl (some (.int (nI 0))), S3)) ∧ MInv 3 σ S3 ∧ Fr trK S S3 := by
  have h6 := pow3 hn
  intro k
  induction k with
  | zero =>
    intro c hc S2 h2 hF
    obtain ⟨dr, mo, sc, o2⟩ := h2.get
    obtain ⟨S3, mf, i3, f3⟩ := m_fails (scr := scr) (l := l) (k := 3) h2
    refine ⟨S3, fun d => ?_, i3, hF.tr (f3.mono (by simp))⟩
    refine ev_aload_n i_Md_firstSequence_31 rfl ?_
    refine ev_get i_Md_firstSequence_32 o2 rfl ?_
    refine ev_if_neN i_Md_firstSequence_35 (by omega) (fun hc_35 => ?_) (fun hc_35 => ?_)
    · skip
      exfalso; omega
    · skip
      refine ev_iload_n i_Md_firstSequence_38 rfl ?_
      refine ev_iload_n i_Md_firstSequence_39 rfl ?_
      refine ev_callS1 i_Md_firstSequence_40 rfl (Nat.le_of_ble_eq_true rfl) (m_power (by omega)) ?_
      refine ev_icmp_geN i_Md_firstSequence_43 (by omega) (by omega) (fun hc_43 => ?_) (fun hc_43 => ?_)
      · skip
        refine ev_aload_n i_Md_firstSequence_63 rfl ?_
        refine ev_get i_Md_firstSequence_64 o2 rfl ?_
        refine ev_if_leN i_Md_firstSequence_67 (by omega) (fun hc_67 => ?_) (fun hc_67 => ?_)
        · skip
          refine ev_aload_n i_Md_firstSequence_74 rfl ?_
          refine ev_iconstN (v := 3) i_Md_firstSequence_75 (by decide) ?_
          refine ev_callV1 i_Md_firstSequence_76 rfl o2 (Nat.le_of_ble_eq_true rfl) (mf _) ?_
          exact ev_iret i_Md_firstSequence_79 rfl (by first | rfl | decide)
        · skip
          exfalso; omega
      · skip
        exfalso; omega
  | succ k ih =>
    intro c hc S2 h2 hF
    obtain ⟨dr, mo, sc, o2⟩ := h2.get
    have hb : (rch σ.2.1.1 σ.2.1.2.2.1 n σ.2.1.2.1 c) = false := hf c (by omega)
    obtain ⟨S3, m3, h3, F3⟩ := m_reaches (scr := scr) (l := l) (s := c) h2 (by omega) hn hd
    obtain ⟨S5, m5, r5⟩ := ih (c + 1) (by omega) S3 h3 (hF.tr F3)
    refine ⟨S5, fun d => ?_, r5⟩
    refine ev_aload_n i_Md_firstSequence_31 rfl ?_
    refine ev_get i_Md_firstSequence_32 o2 rfl ?_
    refine ev_if_neN i_Md_firstSequence_35 (by omega) (fun hc_35 => ?_) (fun hc_35 => ?_)
    · skip
      exfalso; omega
    · skip
      refine ev_iload_n i_Md_firstSequence_38 rfl ?_
      refine ev_iload_n i_Md_firstSequence_39 rfl ?_
      refine ev_callS1 i_Md_firstSequence_40 rfl (Nat.le_of_ble_eq_true rfl) (m_power (by omega)) ?_
      refine ev_icmp_geN i_Md_firstSequence_43 (by omega) (by omega) (fun hc_43 => ?_) (fun hc_43 => ?_)
      · skip
        exfalso; omega
      · skip
        refine ev_aload_n i_Md_firstSequence_46 rfl ?_
        refine ev_iload_n i_Md_firstSequence_47 rfl ?_
        refine ev_iload_n i_Md_firstSequence_48 rfl ?_
        refine ev_callV2 i_Md_firstSequence_49 rfl o2 (Nat.le_of_ble_eq_true rfl) (m3 _) ?_
        rw [hb, bI_f]
        refine ev_if_eqN i_Md_firstSequence_52 (by omega) (fun hc_52 => ?_) (fun hc_52 => ?_)
        · skip
          refine ev_iincN_2 (c := 1) i_Md_firstSequence_57 (by decide) rfl ?_
          refine ev_goto i_Md_firstSequence_60 ?_
          exact m5 d
        · skip
          exfalso; omega
theorem lp_seqFirst {scr : Scr} {l : Launch} {S : Sto} {σ : Sg} {n : Nat} (hn : n ≤ 5) (hd : allDet σ.2.1) {m : Nat} (hm : m < 3 ^ n) (ht : (rch σ.2.1.1 σ.2.1.2.2.1 n σ.2.1.2.1 m) = true) (hf : ∀ i, i < m → (rch σ.2.1.1 σ.2.1.2.2.1 n σ.2.1.2.1 i) = false) : ∀ (k c : Nat), c + k = m → ∀ (S2 : Sto), MInv 0 σ S2 → Fr trK S S2 → ∃ S3, (∀ d, Ev scr l (d + 6) M_Md_firstSequence 31 [some (.ref 105), some (.int (nI n)), some (.int (nI c))] [] S2 (.inl (some (.int (nI m))), S3)) ∧ MInv 0 σ S3 ∧ Fr trK S S3 := by
  have h6 := pow3 hn
  intro k
  induction k with
  | zero =>
    intro c hc S2 h2 hF
    obtain ⟨dr, mo, sc, o2⟩ := h2.get
    have z : c = m := by omega
    subst z
    have hb := ht
    obtain ⟨S3, m3, h3, F3⟩ := m_reaches (scr := scr) (l := l) (s := c) h2 (by omega) hn hd
    refine ⟨S3, fun d => ?_, h3, hF.tr F3⟩
    refine ev_aload_n i_Md_firstSequence_31 rfl ?_
    refine ev_get i_Md_firstSequence_32 o2 rfl ?_
    refine ev_if_neN i_Md_firstSequence_35 (by omega) (fun hc_35 => ?_) (fun hc_35 => ?_)
    · skip
      exfalso; omega
    · skip
      refine ev_iload_n i_Md_firstSequence_38 rfl ?_
      refine ev_iload_n i_Md_firstSequence_39 rfl ?_
      refine ev_callS1 i_Md_firstSequence_40 rfl (Nat.le_of_ble_eq_true rfl) (m_power (by omega)) ?_
      refine ev_icmp_geN i_Md_firstSequence_43 (by omega) (by omega) (fun hc_43 => ?_) (fun hc_43 => ?_)
      · skip
        exfalso; omega
      · skip
        refine ev_aload_n i_Md_firstSequence_46 rfl ?_
        refine ev_iload_n i_Md_firstSequence_47 rfl ?_
        refine ev_iload_n i_Md_firstSequence_48 rfl ?_
        refine ev_callV2 i_Md_firstSequence_49 rfl o2 (Nat.le_of_ble_eq_true rfl) (m3 _) ?_
        rw [hb, bI_t]
        refine ev_if_eqN i_Md_firstSequence_52 (by omega) (fun hc_52 => ?_) (fun hc_52 => ?_)
        · skip
          exfalso; omega
        · skip
          refine ev_iload_n i_Md_firstSequence_55 rfl ?_
          exact ev_iret i_Md_firstSequence_56 rfl (by first | rfl | decide)
  | succ k ih =>
    intro c hc S2 h2 hF
    obtain ⟨dr, mo, sc, o2⟩ := h2.get
    have hb : (rch σ.2.1.1 σ.2.1.2.2.1 n σ.2.1.2.1 c) = false := hf c (by omega)
    obtain ⟨S3, m3, h3, F3⟩ := m_reaches (scr := scr) (l := l) (s := c) h2 (by omega) hn hd
    obtain ⟨S5, m5, r5⟩ := ih (c + 1) (by omega) S3 h3 (hF.tr F3)
    refine ⟨S5, fun d => ?_, r5⟩
    refine ev_aload_n i_Md_firstSequence_31 rfl ?_
    refine ev_get i_Md_firstSequence_32 o2 rfl ?_
    refine ev_if_neN i_Md_firstSequence_35 (by omega) (fun hc_35 => ?_) (fun hc_35 => ?_)
    · skip
      exfalso; omega
    · skip
      refine ev_iload_n i_Md_firstSequence_38 rfl ?_
      refine ev_iload_n i_Md_firstSequence_39 rfl ?_
      refine ev_callS1 i_Md_firstSequence_40 rfl (Nat.le_of_ble_eq_true rfl) (m_power (by omega)) ?_
      refine ev_icmp_geN i_Md_firstSequence_43 (by omega) (by omega) (fun hc_43 => ?_) (fun hc_43 => ?_)
      · skip
        exfalso; omega
      · skip
        refine ev_aload_n i_Md_firstSequence_46 rfl ?_
        refine ev_iload_n i_Md_firstSequence_47 rfl ?_
        refine ev_iload_n i_Md_firstSequence_48 rfl ?_
        refine ev_callV2 i_Md_firstSequence_49 rfl o2 (Nat.le_of_ble_eq_true rfl) (m3 _) ?_
        rw [hb, bI_f]
        refine ev_if_eqN i_Md_firstSequence_52 (by omega) (fun hc_52 => ?_) (fun hc_52 => ?_)
        · skip
          refine ev_iincN_2 (c := 1) i_Md_firstSequence_57 (by decide) rfl ?_
          refine ev_goto i_Md_firstSequence_60 ?_
          exact m5 d
        · skip
          exfalso; omega
theorem m_seqFirst {scr : Scr} {l : Launch} {S : Sto} {σ : Sg} {th : Nat} {n : Nat} (h : MInv th σ S) (hn : n < 6) (hd : allDet σ.2.1) : (sqL σ.2.1.1 σ.2.1.2.2.1 n σ.2.1.2.1 0 = [] → MRun scr l 6 M_Md_firstSequence [.ref 105, .int (nI n)] S (some (.int (nI 0))) 3 σ) ∧ ∀ a L, sqL σ.2.1.1 σ.2.1.2.2.1 n σ.2.1.2.1 0 = a :: L → a < 2 ^ 31 ∧ MRun scr l 6 M_Md_firstSequence [.ref 105, .int (nI n)] S (some (.int (nI a))) 0 σ := by
  obtain ⟨dr, mo, sc, h0⟩ := h.get
  have hb : allB (fun t => detB (σ.2.1.1 t)) 3 = true := allDet_iff.mpr hd
  have o1 : (S.put 105 (mO 0 σ dr mo sc)).1[105]? = _ := put_self h0
  have h1 : MInv 0 σ (S.put 105 (mO 0 σ dr mo sc)) := h.th h0
  have h6 := pow3 (show n ≤ 5 by omega)
  rcases first_or (fun s => (rch σ.2.1.1 σ.2.1.2.2.1 n σ.2.1.2.1 s)) (3 ^ n) with hf | ⟨m, hm, hne, hf⟩
  · rw [sq_nil hf]
    refine ⟨fun _ => ?_, fun a L q => by cases q⟩
    obtain ⟨S3, m3, i3, f3⟩ := lp_seqFirst_no (scr := scr) (l := l) (S := S) (show n ≤ 5 by omega) hd hf (3 ^ n) 0 (by omega) _ h1 (Fr.put _ _ (by simp))
    refine ⟨S3, fun d => ?_, i3, f3.m (by decide)⟩
    refine MetA.of rfl (by decide +kernel) (Nat.le_of_ble_eq_true rfl) ?_
    refine ev_aload_n i_Md_firstSequence_0 rfl ?_
    refine ev_iload_n i_Md_firstSequence_1 rfl ?_
    refine ev_iconstN (v := 0) i_Md_firstSequence_2 (by decide) ?_
    refine ev_iconstN (v := 5) i_Md_firstSequence_3 (by decide) ?_
    refine ev_callS3 i_Md_firstSequence_4 rfl (Nat.le_of_ble_eq_true rfl) (m_in.1 ((inR_inB (n := 6) (by decide) (by decide)).mp (inR.of (by decide) hn))) ?_
    refine ev_if_neN i_Md_firstSequence_7 (by omega) (fun hc_7 => ?_) (fun hc_7 => ?_)
    · skip
      refine ev_aload_n i_Md_firstSequence_14 rfl ?_
      refine ev_callV0 i_Md_firstSequence_15 rfl h0 (Nat.le_of_ble_eq_true rfl) (m_allDet h) ?_
      rw [hb, bI_t]
      refine ev_if_neN i_Md_firstSequence_18 (by omega) (fun hc_18 => ?_) (fun hc_18 => ?_)
      · skip
        refine ev_iconstN (v := 0) i_Md_firstSequence_25 (by decide) ?_
        refine ev_mput_thrown i_Md_firstSequence_26 h0 ?_
        refine ev_iconstN (v := 0) i_Md_firstSequence_29 (by decide) ?_
        refine ev_ist_n_2 i_Md_firstSequence_30 rfl ?_
        exact m3 d
      · skip
        exfalso; omega
    · skip
      exfalso; omega
  · obtain ⟨L, hL⟩ := sq_first hm hne hf
    rw [hL]
    refine ⟨fun q => (by cases q), fun a L' q => ?_⟩
    obtain ⟨e, -⟩ := List.cons.inj q
    subst e
    refine ⟨by omega, ?_⟩
    obtain ⟨S3, m3, i3, f3⟩ := lp_seqFirst (scr := scr) (l := l) (S := S) (show n ≤ 5 by omega) hd hm hne hf m 0 (by omega) _ h1 (Fr.put _ _ (by simp))
    refine ⟨S3, fun d => ?_, i3, f3.m (by decide)⟩
    refine MetA.of rfl (by decide +kernel) (Nat.le_of_ble_eq_true rfl) ?_
    refine ev_aload_n i_Md_firstSequence_0 rfl ?_
    refine ev_iload_n i_Md_firstSequence_1 rfl ?_
    refine ev_iconstN (v := 0) i_Md_firstSequence_2 (by decide) ?_
    refine ev_iconstN (v := 5) i_Md_firstSequence_3 (by decide) ?_
    refine ev_callS3 i_Md_firstSequence_4 rfl (Nat.le_of_ble_eq_true rfl) (m_in.1 ((inR_inB (n := 6) (by decide) (by decide)).mp (inR.of (by decide) hn))) ?_
    refine ev_if_neN i_Md_firstSequence_7 (by omega) (fun hc_7 => ?_) (fun hc_7 => ?_)
    · skip
      refine ev_aload_n i_Md_firstSequence_14 rfl ?_
      refine ev_callV0 i_Md_firstSequence_15 rfl h0 (Nat.le_of_ble_eq_true rfl) (m_allDet h) ?_
      rw [hb, bI_t]
      refine ev_if_neN i_Md_firstSequence_18 (by omega) (fun hc_18 => ?_) (fun hc_18 => ?_)
      · skip
        refine ev_iconstN (v := 0) i_Md_firstSequence_25 (by decide) ?_
        refine ev_mput_thrown i_Md_firstSequence_26 h0 ?_
        refine ev_iconstN (v := 0) i_Md_firstSequence_29 (by decide) ?_
        refine ev_ist_n_2 i_Md_firstSequence_30 rfl ?_
        exact m3 d
      · skip
        exfalso; omega
    · skip
      exfalso; omega

/-! the class Growth: chains; x.growthKind, x.growthDegree -/
theorem lenM_s {R : Nat → Nat → Bool} {ch : Nat → Nat} {a i : Nat} : lenM R ch a (i + 1) = max (lenM R ch a i) (if (R a i && !R i a) = true then ch i + 1 else 0) := by
  unfold lenM
  exact (Nat.max_assoc _ _ _).symm
theorem lenM_le {R : Nat → Nat → Bool} {ch : Nat → Nat} {a : Nat} (ha : a < 6) (h : ∀ o, o < 6 → ch o ≤ 6) : ∀ i, i ≤ 6 → lenM R ch a i ≤ 7 := by
  intro i hi
  refine Nat.max_le.mpr ⟨by have := h a ha; omega, maxN_le.mpr (fun o ho => ?_)⟩
  show (if (R a o && !R o a) = true then ch o + 1 else 0) ≤ 7
  have := h o (by omega)
  split <;> omega
theorem g_lengthen {scr : Scr} {l : Launch} {S : Sto} {c1 c2 : Nat} {R : Nat → Nat → Bool} {g1 g2 : Nat → Int32} {x0 : Int64} (hgo : S.1[61]? = some (grO c1 c2 x0)) (h1 : S.1[64]? = some (aI 6 (rG R g1 6))) {d a : Nat} {ch : Nat → Nat} (h2 : S.1[65]? = some (aI 6 (kG ch g2 6))) (ha : a < 6) (hch : ∀ o, o < 6 → ch o ≤ 6) : MetA scr l (d + 1) M_Gr_lengthenChain [.ref 61, .int (nI a)] S (.inl none, (S.put 65 (aI 6 (kG (lenC R ch a) g2 6)))) := by
  have hca := hch a ha
  by_cases hz : ch a = 0
  · have e : kG (lenC R ch a) g2 6 = kG ch g2 6 := kG_congr (fun j _ => if_neg (fun q => q.2 hz))
    rw [e, put_same h2]
    refine MetA.of rfl (by decide +kernel) (Nat.le_of_ble_eq_true rfl) ?_
    refine ev_aload_n i_Gr_lengthenChain_0 rfl ?_
    refine ev_get i_Gr_lengthenChain_1 hgo rfl ?_
    refine ev_iload_n i_Gr_lengthenChain_4 rfl ?_
    refine ev_ialdN i_Gr_lengthenChain_5 h2 ha (by decide) ?_
    rw [kG_at ha]
    refine ev_if_neN i_Gr_lengthenChain_6 (by omega) (fun hc_6 => ?_) (fun hc_6 => ?_)
    · skip
      exfalso; omega
    · skip
      exact ev_vret i_Gr_lengthenChain_9 rfl
  · have e0 : ∀ j, j < 6 → (if j = a then lenM R ch a 0 else ch j) = ch j := fun j _ => by
      by_cases z : j = a
      · rw [if_pos z, z]; exact Nat.max_zero _
      · rw [if_neg z]
    have e6 : ∀ j, j < 6 → lenC R ch a j = (if j = a then lenM R ch a 6 else ch j) := fun j _ => by
      unfold lenC
      by_cases z : j = a
      · rw [if_pos z, if_pos ⟨z, hz⟩]
      · rw [if_neg z, if_neg (fun q => z q.1)]
    refine MetA.of rfl (by decide +kernel) (Nat.le_of_ble_eq_true rfl) ?_
    refine ev_aload_n i_Gr_lengthenChain_0 rfl ?_
    refine ev_get i_Gr_lengthenChain_1 hgo rfl ?_
    refine ev_iload_n i_Gr_lengthenChain_4 rfl ?_
    refine ev_ialdN i_Gr_lengthenChain_5 h2 ha (by decide) ?_
    rw [kG_at ha]
    refine ev_if_neN i_Gr_lengthenChain_6 (by omega) (fun hc_6 => ?_) (fun hc_6 => ?_)
    · skip
      refine ev_iconstN (v := 0) i_Gr_lengthenChain_10 (by decide) ?_
      refine ev_ist_n_2 i_Gr_lengthenChain_11 rfl ?_
      refine ev_eqS (S1 := (S.put 65 (aI 6 (kG (fun j => if j = a then lenM R ch a 0 else ch j) g2 6)))) (by rw [kG_congr e0]; exact put_same h2) ?_
      refine ev_loop (n := 6) (fun o => [some (.ref 61), some (.int (nI a)), some (.int (nI o))]) (fun o => (S.put 65 (aI 6 (kG (fun j => if j = a then lenM R ch a o else ch j) g2 6)))) (fun o ho ko => ?_) ?_
      · try dsimp only at ko ⊢
        have oj : (S.put 65 (aI 6 (kG (fun j => if j = a then lenM R ch a o else ch j) g2 6))).1[61]? = _ := put_at hgo (by decide)
        have rj : (S.put 65 (aI 6 (kG (fun j => if j = a then lenM R ch a o else ch j) g2 6))).1[64]? = _ := put_at h1 (by decide)
        have kj : (S.put 65 (aI 6 (kG (fun j => if j = a then lenM R ch a o else ch j) g2 6))).1[65]? = _ := put_self h2
        have hlm := lenM_le (R := R) ha hch o (by omega)
        cases c1y : R a o with
        | true =>
          cases c2y : R o a with
          | false =>
            have hne : o ≠ a := fun q => by rw [q] at c1y c2y; rw [c1y] at c2y; exact Bool.noConfusion c2y
            refine ev_iload_n i_Gr_lengthenChain_12 rfl ?_
            refine ev_bipushN (v := 6) i_Gr_lengthenChain_13 (by decide) ?_
            refine ev_icmp_geN i_Gr_lengthenChain_15 (by omega) (by omega) (fun hc_15 => ?_) (fun hc_15 => ?_)
            · skip
              exfalso; omega
            · skip
              refine ev_aload_n i_Gr_lengthenChain_18 rfl ?_
              refine ev_get i_Gr_lengthenChain_19 oj rfl ?_
              refine ev_iload_n i_Gr_lengthenChain_22 rfl ?_
              refine ev_ialdN i_Gr_lengthenChain_23 rj (by omega) (by decide) ?_
              rw [rG_at (by omega)]
              refine ev_iload_n i_Gr_lengthenChain_24 rfl ?_
              refine ev_callS2 i_Gr_lengthenChain_25 rfl (Nat.le_of_ble_eq_true rfl) (c_con_y (f := R a) (show o < 6 by omega) c1y) ?_
              refine ev_if_eqN i_Gr_lengthenChain_28 (by omega) (fun hc_28 => ?_) (fun hc_28 => ?_)
              · skip
                exfalso; omega
              · skip
                refine ev_aload_n i_Gr_lengthenChain_31 rfl ?_
                refine ev_get i_Gr_lengthenChain_32 oj rfl ?_
                refine ev_iload_n i_Gr_lengthenChain_35 rfl ?_
                refine ev_ialdN i_Gr_lengthenChain_36 rj (by omega) (by decide) ?_
                rw [rG_at (by omega)]
                refine ev_iload_n i_Gr_lengthenChain_37 rfl ?_
                refine ev_callS2 i_Gr_lengthenChain_38 rfl (Nat.le_of_ble_eq_true rfl) (c_con_n (f := R o) ha c2y) ?_
                refine ev_if_neN i_Gr_lengthenChain_41 (by omega) (fun hc_41 => ?_) (fun hc_41 => ?_)
                · skip
                  exfalso; omega
                · skip
                  refine ev_aload_n i_Gr_lengthenChain_44 rfl ?_
                  refine ev_get i_Gr_lengthenChain_45 oj rfl ?_
                  refine ev_iload_n i_Gr_lengthenChain_48 rfl ?_
                  refine ev_aload_n i_Gr_lengthenChain_49 rfl ?_
                  refine ev_get i_Gr_lengthenChain_50 oj rfl ?_
                  refine ev_iload_n i_Gr_lengthenChain_53 rfl ?_
                  refine ev_ialdN i_Gr_lengthenChain_54 kj (by omega) (by decide) ?_
                  rw [kG_at (by omega), if_pos rfl]
                  refine ev_aload_n i_Gr_lengthenChain_55 rfl ?_
                  refine ev_get i_Gr_lengthenChain_56 oj rfl ?_
                  refine ev_iload_n i_Gr_lengthenChain_59 rfl ?_
                  refine ev_ialdN i_Gr_lengthenChain_60 kj (by omega) (by decide) ?_
                  rw [kG_at (by omega), if_neg hne]
                  refine ev_iconstN (v := 1) i_Gr_lengthenChain_61 (by decide) ?_
                  first | refine ev_iaddN i_Gr_lengthenChain_62 ?_ | refine ev_iadd i_Gr_lengthenChain_62 ?_
                  refine ev_callS2 i_Gr_lengthenChain_63 rfl (Nat.le_of_ble_eq_true rfl) (c_Ma_maxI (Nat.lt_of_le_of_lt hlm (by decide)) (by have := hch o (by omega); omega)) ?_
                  refine ev_iastN i_Gr_lengthenChain_66 kj (by omega) (by decide) ?_
                  rw [put_put, kG_upd (by omega)]
                  refine ev_iincN_2 (c := 1) i_Gr_lengthenChain_67 (by decide) rfl ?_
                  refine ev_goto i_Gr_lengthenChain_70 ?_
                  have e : ∀ j, j < 6 → (if j = a then max (lenM R ch a o) (ch o + 1) else if j = a then lenM R ch a o else ch j) = (if j = a then lenM R ch a (o + 1) else ch j) := fun j _ => by
                    by_cases z : j = a
                    · rw [if_pos z, if_pos z, lenM_s, if_pos (by rw [c1y, c2y]; rfl)]
                    · rw [if_neg z, if_neg z, if_neg z]
                  rw [kG_congr e]
                  exact ko
          | true =>
            refine ev_iload_n i_Gr_lengthenChain_12 rfl ?_
            refine ev_bipushN (v := 6) i_Gr_lengthenChain_13 (by decide) ?_
            refine ev_icmp_geN i_Gr_lengthenChain_15 (by omega) (by omega) (fun hc_15 => ?_) (fun hc_15 => ?_)
            · skip
              exfalso; omega
            · skip
              refine ev_aload_n i_Gr_lengthenChain_18 rfl ?_
              refine ev_get i_Gr_lengthenChain_19 oj rfl ?_
              refine ev_iload_n i_Gr_lengthenChain_22 rfl ?_
              refine ev_ialdN i_Gr_lengthenChain_23 rj (by omega) (by decide) ?_
              rw [rG_at (by omega)]
              refine ev_iload_n i_Gr_lengthenChain_24 rfl ?_
              refine ev_callS2 i_Gr_lengthenChain_25 rfl (Nat.le_of_ble_eq_true rfl) (c_con_y (f := R a) (show o < 6 by omega) c1y) ?_
              refine ev_if_eqN i_Gr_lengthenChain_28 (by omega) (fun hc_28 => ?_) (fun hc_28 => ?_)
              · skip
                exfalso; omega
              · skip
                refine ev_aload_n i_Gr_lengthenChain_31 rfl ?_
                refine ev_get i_Gr_lengthenChain_32 oj rfl ?_
                refine ev_iload_n i_Gr_lengthenChain_35 rfl ?_
                refine ev_ialdN i_Gr_lengthenChain_36 rj (by omega) (by decide) ?_
                rw [rG_at (by omega)]
                refine ev_iload_n i_Gr_lengthenChain_37 rfl ?_
                refine ev_callS2 i_Gr_lengthenChain_38 rfl (Nat.le_of_ble_eq_true rfl) (c_con_y (f := R o) ha c2y) ?_
                refine ev_if_neN i_Gr_lengthenChain_41 (by omega) (fun hc_41 => ?_) (fun hc_41 => ?_)
                · skip
                  refine ev_iincN_2 (c := 1) i_Gr_lengthenChain_67 (by decide) rfl ?_
                  refine ev_goto i_Gr_lengthenChain_70 ?_
                  have e : ∀ j, j < 6 → (if j = a then lenM R ch a o else ch j) = (if j = a then lenM R ch a (o + 1) else ch j) := fun j _ => by
                    have hz : ¬ (R a o && !R o a) = true := by rw [c1y, c2y]; decide
                    rw [lenM_s, if_neg hz, Nat.max_zero]
                  rw [kG_congr e]
                  exact ko
                · skip
                  exfalso; omega
        | false =>
          refine ev_iload_n i_Gr_lengthenChain_12 rfl ?_
          refine ev_bipushN (v := 6) i_Gr_lengthenChain_13 (by decide) ?_
          refine ev_icmp_geN i_Gr_lengthenChain_15 (by omega) (by omega) (fun hc_15 => ?_) (fun hc_15 => ?_)
          · skip
            exfalso; omega
          · skip
            refine ev_aload_n i_Gr_lengthenChain_18 rfl ?_
            refine ev_get i_Gr_lengthenChain_19 oj rfl ?_
            refine ev_iload_n i_Gr_lengthenChain_22 rfl ?_
            refine ev_ialdN i_Gr_lengthenChain_23 rj (by omega) (by decide) ?_
            rw [rG_at (by omega)]
            refine ev_iload_n i_Gr_lengthenChain_24 rfl ?_
            refine ev_callS2 i_Gr_lengthenChain_25 rfl (Nat.le_of_ble_eq_true rfl) (c_con_n (f := R a) (show o < 6 by omega) c1y) ?_
            refine ev_if_eqN i_Gr_lengthenChain_28 (by omega) (fun hc_28 => ?_) (fun hc_28 => ?_)
            · skip
              refine ev_iincN_2 (c := 1) i_Gr_lengthenChain_67 (by decide) rfl ?_
              refine ev_goto i_Gr_lengthenChain_70 ?_
              have e : ∀ j, j < 6 → (if j = a then lenM R ch a o else ch j) = (if j = a then lenM R ch a (o + 1) else ch j) := fun j _ => by
                have hz : ¬ (R a o && !R o a) = true := by rw [c1y, Bool.false_and]; decide
                rw [lenM_s, if_neg hz, Nat.max_zero]
              rw [kG_congr e]
              exact ko
            · skip
              exfalso; omega
      · try dsimp only
        refine ev_iload_n i_Gr_lengthenChain_12 rfl ?_
        refine ev_bipushN (v := 6) i_Gr_lengthenChain_13 (by decide) ?_
        refine ev_icmp_geN i_Gr_lengthenChain_15 (by omega) (by omega) (fun hc_15 => ?_) (fun hc_15 => ?_)
        · skip
          refine ev_eqS (S1 := (S.put 65 (aI 6 (kG (lenC R ch a) g2 6)))) (by rw [kG_congr e6]) ?_
          exact ev_vret i_Gr_lengthenChain_73 rfl
        · skip
          exfalso; omega
    · skip
      exfalso; omega
theorem lp_chains {scr : Scr} {l : Launch} {S : Sto} {c1 c2 : Nat} {R : Nat → Nat → Bool} {g1 g2 : Nat → Int32} {x0 : Int64} (ho : S.1[61]? = some (grO c1 c2 x0)) (h1 : S.1[64]? = some (aI 6 (rG R g1 6))) {f0 : Nat → Int32} {d : Nat} (hR : isTr R) (h2 : S.1[65]? = some (aI 6 f0)) : ∀ (k n : Nat), n + k = 6 → ∀ u2, Ev scr l (d + 2) M_Gr_findChains 40 [some (.ref 61), some (.int (nI n)), u2] [] (S.put 65 (aI 6 (kG (chN R n) g2 6))) (.inl none, (S.put 65 (aI 6 (kG (chN R 6) g2 6)))) := by
  intro k
  induction k with
  | zero =>
    intro n hn u2
    have z : n = 6 := by omega
    subst z
    refine ev_iload_n i_Gr_findChains_40 rfl ?_
    refine ev_bipushN (v := 6) i_Gr_findChains_41 (by decide) ?_
    refine ev_icmp_geN i_Gr_findChains_43 (by omega) (by omega) (fun hc_43 => ?_) (fun hc_43 => ?_)
    · skip
      exact ev_vret i_Gr_findChains_71 rfl
    · skip
      exfalso; omega
  | succ k ih =>
    intro n hn u2
    refine ev_iload_n i_Gr_findChains_40 rfl ?_
    refine ev_bipushN (v := 6) i_Gr_findChains_41 (by decide) ?_
    refine ev_icmp_geN i_Gr_findChains_43 (by omega) (by omega) (fun hc_43 => ?_) (fun hc_43 => ?_)
    · skip
      exfalso; omega
    · skip
      refine ev_iconstN (v := 0) i_Gr_findChains_46 (by decide) ?_
      refine ev_ist_n_2 i_Gr_findChains_47 rfl ?_
      refine ev_loop (n := 6) (fun a => [some (.ref 61), some (.int (nI n)), some (.int (nI a))]) (fun a => (S.put 65 (aI 6 (kG (chA R (chN R n) a) g2 6)))) (fun a ha ka => ?_) ?_
      · try dsimp only at ka ⊢
        have oj : (S.put 65 (aI 6 (kG (chA R (chN R n) a) g2 6))).1[61]? = _ := put_at ho (by decide)
        have rj : (S.put 65 (aI 6 (kG (chA R (chN R n) a) g2 6))).1[64]? = _ := put_at h1 (by decide)
        have kj : (S.put 65 (aI 6 (kG (chA R (chN R n) a) g2 6))).1[65]? = _ := put_self h2
        refine ev_iload_n i_Gr_findChains_48 rfl ?_
        refine ev_bipushN (v := 6) i_Gr_findChains_49 (by decide) ?_
        refine ev_icmp_geN i_Gr_findChains_51 (by omega) (by omega) (fun hc_51 => ?_) (fun hc_51 => ?_)
        · skip
          exfalso; omega
        · skip
          refine ev_aload_n i_Gr_findChains_54 rfl ?_
          refine ev_iload_n i_Gr_findChains_55 rfl ?_
          refine ev_callV1 i_Gr_findChains_56 rfl oj (Nat.le_of_ble_eq_true rfl) (g_lengthen oj rj kj (by omega) (chA_le hR (by omega))) ?_
          rw [put_put]
          refine ev_iincN_2 (c := 1) i_Gr_findChains_59 (by decide) rfl ?_
          refine ev_goto i_Gr_findChains_62 ?_
          exact ka
      · try dsimp only
        refine ev_iload_n i_Gr_findChains_48 rfl ?_
        refine ev_bipushN (v := 6) i_Gr_findChains_49 (by decide) ?_
        refine ev_icmp_geN i_Gr_findChains_51 (by omega) (by omega) (fun hc_51 => ?_) (fun hc_51 => ?_)
        · skip
          refine ev_iincN_1 (c := 1) i_Gr_findChains_65 (by decide) rfl ?_
          refine ev_goto i_Gr_findChains_68 ?_
          exact ih (n + 1) (by omega) _
        · skip
          exfalso; omega
theorem g_chains {scr : Scr} {l : Launch} {S : Sto} {c1 c2 : Nat} {R : Nat → Nat → Bool} {g1 g2 : Nat → Int32} {x0 : Int64} (ho : S.1[61]? = some (grO c1 c2 x0)) (h1 : S.1[64]? = some (aI 6 (rG R g1 6))) {d : Nat} (hR : isTr R) (h2 : S.1[65]? = some (aI 6 g2)) : MetA scr l (d + 2) M_Gr_findChains [.ref 61] S (.inl none, (S.put 65 (aI 6 (kG (chN R 6) g2 6)))) := by
  refine MetA.of rfl (by decide +kernel) (Nat.le_of_ble_eq_true rfl) ?_
  refine ev_iconstN (v := 0) i_Gr_findChains_0 (by decide) ?_
  refine ev_ist_n_1 i_Gr_findChains_1 rfl ?_
  refine ev_eqS (S1 := (S.put 65 (aI 6 (kG (chN R 0) g2 0)))) (by rw [kG_0]; exact put_same h2) ?_
  refine ev_loop (n := 6) (fun a => [some (.ref 61), some (.int (nI a)), none]) (fun a => (S.put 65 (aI 6 (kG (chN R 0) g2 a)))) (fun a ha ka => ?_) ?_
  · try dsimp only at ka ⊢
    have oj : (S.put 65 (aI 6 (kG (chN R 0) g2 a))).1[61]? = _ := put_at ho (by decide)
    have rj : (S.put 65 (aI 6 (kG (chN R 0) g2 a))).1[64]? = _ := put_at h1 (by decide)
    have kj : (S.put 65 (aI 6 (kG (chN R 0) g2 a))).1[65]? = _ := put_self h2
    cases cy : R a a with
    | true =>
      refine ev_iload_n i_Gr_findChains_2 rfl ?_
      refine ev_bipushN (v := 6) i_Gr_findChains_3 (by decide) ?_
      refine ev_icmp_geN i_Gr_findChains_5 (by omega) (by omega) (fun hc_5 => ?_) (fun hc_5 => ?_)
      · skip
        exfalso; omega
      · skip
        refine ev_aload_n i_Gr_findChains_8 rfl ?_
        refine ev_get i_Gr_findChains_9 oj rfl ?_
        refine ev_iload_n i_Gr_findChains_12 rfl ?_
        refine ev_aload_n i_Gr_findChains_13 rfl ?_
        refine ev_get i_Gr_findChains_14 oj rfl ?_
        refine ev_iload_n i_Gr_findChains_17 rfl ?_
        refine ev_ialdN i_Gr_findChains_18 rj (by omega) (by decide) ?_
        rw [rG_at (by omega)]
        refine ev_iload_n i_Gr_findChains_19 rfl ?_
        refine ev_callS2 i_Gr_findChains_20 rfl (Nat.le_of_ble_eq_true rfl) (c_con_y (f := R a) (by omega) cy) ?_
        refine ev_if_eqN i_Gr_findChains_23 (by omega) (fun hc_23 => ?_) (fun hc_23 => ?_)
        · skip
          exfalso; omega
        · skip
          refine ev_iconstN (v := 1) i_Gr_findChains_26 (by decide) ?_
          refine ev_goto i_Gr_findChains_27 ?_
          refine ev_iastN i_Gr_findChains_31 kj (by omega) (by decide) ?_
          rw [put_put, show nI 1 = nI (chN R 0 a) from by rw [show chN R 0 a = 1 from if_pos cy], kG_s]
          refine ev_iincN_1 (c := 1) i_Gr_findChains_32 (by decide) rfl ?_
          refine ev_goto i_Gr_findChains_35 ?_
          exact ka
    | false =>
      refine ev_iload_n i_Gr_findChains_2 rfl ?_
      refine ev_bipushN (v := 6) i_Gr_findChains_3 (by decide) ?_
      refine ev_icmp_geN i_Gr_findChains_5 (by omega) (by omega) (fun hc_5 => ?_) (fun hc_5 => ?_)
      · skip
        exfalso; omega
      · skip
        refine ev_aload_n i_Gr_findChains_8 rfl ?_
        refine ev_get i_Gr_findChains_9 oj rfl ?_
        refine ev_iload_n i_Gr_findChains_12 rfl ?_
        refine ev_aload_n i_Gr_findChains_13 rfl ?_
        refine ev_get i_Gr_findChains_14 oj rfl ?_
        refine ev_iload_n i_Gr_findChains_17 rfl ?_
        refine ev_ialdN i_Gr_findChains_18 rj (by omega) (by decide) ?_
        rw [rG_at (by omega)]
        refine ev_iload_n i_Gr_findChains_19 rfl ?_
        refine ev_callS2 i_Gr_findChains_20 rfl (Nat.le_of_ble_eq_true rfl) (c_con_n (f := R a) (by omega) cy) ?_
        refine ev_if_eqN i_Gr_findChains_23 (by omega) (fun hc_23 => ?_) (fun hc_23 => ?_)
        · skip
          refine ev_iconstN (v := 0) i_Gr_findChains_30 (by decide) ?_
          refine ev_iastN i_Gr_findChains_31 kj (by omega) (by decide) ?_
          rw [put_put, show nI 0 = nI (chN R 0 a) from by rw [show chN R 0 a = 0 from if_neg (by rw [cy]; decide)], kG_s]
          refine ev_iincN_1 (c := 1) i_Gr_findChains_32 (by decide) rfl ?_
          refine ev_goto i_Gr_findChains_35 ?_
          exact ka
        · skip
          exfalso; omega
  · try dsimp only
    refine ev_iload_n i_Gr_findChains_2 rfl ?_
    refine ev_bipushN (v := 6) i_Gr_findChains_3 (by decide) ?_
    refine ev_icmp_geN i_Gr_findChains_5 (by omega) (by omega) (fun hc_5 => ?_) (fun hc_5 => ?_)
    · skip
      refine ev_iconstN (v := 0) i_Gr_findChains_38 (by decide) ?_
      refine ev_ist_n_1 i_Gr_findChains_39 rfl ?_
      exact lp_chains ho h1 hR h2 6 0 (by omega) _
    · skip
      exfalso; omega
theorem g_reached {scr : Scr} {l : Launch} {S : Sto} {c1 c2 : Nat} {T : TabV} {g1 : Nat → Int32} {x0 : Int64} (ho : S.1[61]? = some (grO c1 c2 x0)) (h1 : S.1[64]? = some (aI 6 (rG (RT T) g1 6))) {d w a : Nat} {xs : List Nat} (hx : WordAt S w a xs) : MetA scr l d M_Gr_lettersReached [.ref 61, .ref w] S (.inl (some (.int (nI (msk (rwd T xs xs.length))))), S) := by
  obtain ⟨-, h60, h3, f, h4, h5⟩ := id hx
  refine MetA.of rfl (by decide +kernel) (Nat.le_of_ble_eq_true rfl) ?_
  refine ev_iconstN (v := 0) i_Gr_lettersReached_0 (by decide) ?_
  refine ev_ist_n_2 i_Gr_lettersReached_1 rfl ?_
  refine ev_iconstN (v := 0) i_Gr_lettersReached_2 (by decide) ?_
  refine ev_ist_n_3 i_Gr_lettersReached_3 rfl ?_
  refine ev_loop (n := xs.length) (fun i => [some (.ref 61), some (.ref w), some (.int (nI (msk (rwd T xs i)))), some (.int (nI i))]) (fun i => S) (fun i hi ki => ?_) ?_
  · try dsimp only at ki ⊢
    refine ev_iload_n i_Gr_lettersReached_4 rfl ?_
    refine ev_aload_n i_Gr_lettersReached_5 rfl ?_
    refine ev_get i_Gr_lettersReached_6 hx.1 rfl ?_
    refine ev_icmp_geN i_Gr_lettersReached_9 (by omega) (by omega) (fun hc_9 => ?_) (fun hc_9 => ?_)
    · skip
      exfalso; omega
    · skip
      refine ev_iload_n i_Gr_lettersReached_12 rfl ?_
      refine ev_iconstN (v := 1) i_Gr_lettersReached_13 (by decide) ?_
      refine ev_aload_n i_Gr_lettersReached_14 rfl ?_
      refine ev_get i_Gr_lettersReached_15 hx.1 rfl ?_
      refine ev_iload_n i_Gr_lettersReached_18 rfl ?_
      refine ev_ialdN i_Gr_lettersReached_19 h4 (by omega) (by decide) ?_
      rw [h5 i (by omega)]
      refine ev_ishl i_Gr_lettersReached_20 ?_
      rw [msk_one _ (h3 i (by omega))]
      refine ev_aload_n i_Gr_lettersReached_21 rfl ?_
      refine ev_get i_Gr_lettersReached_22 ho rfl ?_
      refine ev_aload_n i_Gr_lettersReached_25 rfl ?_
      refine ev_get i_Gr_lettersReached_26 hx.1 rfl ?_
      refine ev_iload_n i_Gr_lettersReached_29 rfl ?_
      refine ev_ialdN i_Gr_lettersReached_30 h4 (by omega) (by decide) ?_
      rw [h5 i (by omega)]
      refine ev_ialdN i_Gr_lettersReached_31 h1 (h3 i (by omega)) (by decide) ?_
      rw [rG_at (h3 i (by omega))]
      refine ev_ior i_Gr_lettersReached_32 ?_
      rw [msk_or]
      refine ev_ior i_Gr_lettersReached_33 ?_
      rw [msk_or]
      refine ev_ist_n_2 i_Gr_lettersReached_34 rfl ?_
      refine ev_iincN_3 (c := 1) i_Gr_lettersReached_35 (by decide) rfl ?_
      refine ev_goto i_Gr_lettersReached_38 ?_
      exact ki
  · try dsimp only
    refine ev_iload_n i_Gr_lettersReached_4 rfl ?_
    refine ev_aload_n i_Gr_lettersReached_5 rfl ?_
    refine ev_get i_Gr_lettersReached_6 hx.1 rfl ?_
    refine ev_icmp_geN i_Gr_lettersReached_9 (by omega) (by omega) (fun hc_9 => ?_) (fun hc_9 => ?_)
    · skip
      refine ev_iload_n i_Gr_lettersReached_41 rfl ?_
      exact ev_iret i_Gr_lettersReached_42 rfl (by first | rfl | decide)
    · skip
      exfalso; omega
theorem bkN_s {T : TabV} {a i : Nat} : bkN T a (i + 1) = bkN T a i + (if RT T ((prd T a).getD i 0) a = true then 1 else 0) := rfl
theorem g_returns {scr : Scr} {l : Launch} {S : Sto} {c1 c2 : Nat} {T : TabV} {g1 : Nat → Int32} {x0 : Int64} (ho : S.1[61]? = some (grO c1 c2 x0)) (h1 : S.1[64]? = some (aI 6 (rG (RT T) g1 6))) {d t a : Nat} (ht : TabAt S t T) (hd : isDet T) (ha : a < 6) : MetA scr l (d + 1) M_Gr_returnsTo [.ref 61, .int (nI a), .ref t] S (.inl (some (.int (nI (bk T a)))), S) := by
  obtain ⟨rc, fs, fl, fe, hT, hR⟩ := ht
  have hsl := (hR.1 a ha).2.2.2 0 (by rw [hd _ ha]; omega)
  have hok : PrOK (prd T a) := hsl.2
  have hsl : SlotR fl fe (a * 3 + 0) (prd T a) := hsl.1
  have hl4 := hok.1
  rw [← bk_eq hok]
  refine MetA.of rfl (by decide +kernel) (Nat.le_of_ble_eq_true rfl) ?_
  refine ev_iload_n i_Gr_returnsTo_0 rfl ?_
  refine ev_iconstN (v := 0) i_Gr_returnsTo_1 (by decide) ?_
  refine ev_callS2 i_Gr_returnsTo_2 rfl (Nat.le_of_ble_eq_true rfl) c_Tb_listSlot ?_
  refine ev_ist_n_3 i_Gr_returnsTo_5 rfl ?_
  refine ev_iconstN (v := 0) i_Gr_returnsTo_6 (by decide) ?_
  refine ev_ist_4 i_Gr_returnsTo_7 rfl ?_
  refine ev_iconstN (v := 0) i_Gr_returnsTo_9 (by decide) ?_
  refine ev_ist_5 i_Gr_returnsTo_10 rfl ?_
  refine ev_loop (n := (prd T a).length) (fun i => [some (.ref 61), some (.int (nI a)), some (.ref t), some (.int (nI (a * 3 + 0))), some (.int (nI (bkN T a i))), some (.int (nI i))]) (fun i => S) (fun i hi ki => ?_) ?_
  · try dsimp only at ki ⊢
    cases cy : RT T ((prd T a).getD i 0) a with
    | true =>
      refine ev_iload i_Gr_returnsTo_12 rfl ?_
      refine ev_aload_n i_Gr_returnsTo_14 rfl ?_
      refine ev_get i_Gr_returnsTo_15 hT.1 rfl ?_
      refine ev_iload_n i_Gr_returnsTo_18 rfl ?_
      refine ev_ialdN i_Gr_returnsTo_19 hT.2.2.1 (by omega) (by decide) ?_
      rw [hsl.1]
      refine ev_icmp_geN i_Gr_returnsTo_20 (by omega) (by omega) (fun hc_20 => ?_) (fun hc_20 => ?_)
      · skip
        exfalso; omega
      · skip
        refine ev_aload_n i_Gr_returnsTo_23 rfl ?_
        refine ev_get i_Gr_returnsTo_24 ho rfl ?_
        refine ev_aload_n i_Gr_returnsTo_27 rfl ?_
        refine ev_iload_n i_Gr_returnsTo_28 rfl ?_
        refine ev_iload i_Gr_returnsTo_29 rfl ?_
        refine ev_callV2 i_Gr_returnsTo_31 rfl hT.1 (Nat.le_of_ble_eq_true rfl) (c_Tb_letterOf hT (by omega) (by omega)) ?_
        rw [hsl.2 i (by omega)]
        refine ev_ialdN i_Gr_returnsTo_34 h1 (hok.2 i (by omega)) (by decide) ?_
        rw [rG_at (hok.2 i (by omega))]
        refine ev_iload_n i_Gr_returnsTo_35 rfl ?_
        refine ev_callS2 i_Gr_returnsTo_36 rfl (Nat.le_of_ble_eq_true rfl) (c_con_y (f := RT T ((prd T a).getD i 0)) ha cy) ?_
        refine ev_if_eqN i_Gr_returnsTo_39 (by omega) (fun hc_39 => ?_) (fun hc_39 => ?_)
        · skip
          exfalso; omega
        · skip
          refine ev_iincN_4 (c := 1) i_Gr_returnsTo_42 (by decide) rfl ?_
          refine ev_iincN_5 (c := 1) i_Gr_returnsTo_45 (by decide) rfl ?_
          refine ev_goto i_Gr_returnsTo_48 ?_
          rw [bkN_s, if_pos cy] at ki
          exact ki
    | false =>
      refine ev_iload i_Gr_returnsTo_12 rfl ?_
      refine ev_aload_n i_Gr_returnsTo_14 rfl ?_
      refine ev_get i_Gr_returnsTo_15 hT.1 rfl ?_
      refine ev_iload_n i_Gr_returnsTo_18 rfl ?_
      refine ev_ialdN i_Gr_returnsTo_19 hT.2.2.1 (by omega) (by decide) ?_
      rw [hsl.1]
      refine ev_icmp_geN i_Gr_returnsTo_20 (by omega) (by omega) (fun hc_20 => ?_) (fun hc_20 => ?_)
      · skip
        exfalso; omega
      · skip
        refine ev_aload_n i_Gr_returnsTo_23 rfl ?_
        refine ev_get i_Gr_returnsTo_24 ho rfl ?_
        refine ev_aload_n i_Gr_returnsTo_27 rfl ?_
        refine ev_iload_n i_Gr_returnsTo_28 rfl ?_
        refine ev_iload i_Gr_returnsTo_29 rfl ?_
        refine ev_callV2 i_Gr_returnsTo_31 rfl hT.1 (Nat.le_of_ble_eq_true rfl) (c_Tb_letterOf hT (by omega) (by omega)) ?_
        rw [hsl.2 i (by omega)]
        refine ev_ialdN i_Gr_returnsTo_34 h1 (hok.2 i (by omega)) (by decide) ?_
        rw [rG_at (hok.2 i (by omega))]
        refine ev_iload_n i_Gr_returnsTo_35 rfl ?_
        refine ev_callS2 i_Gr_returnsTo_36 rfl (Nat.le_of_ble_eq_true rfl) (c_con_n (f := RT T ((prd T a).getD i 0)) ha cy) ?_
        refine ev_if_eqN i_Gr_returnsTo_39 (by omega) (fun hc_39 => ?_) (fun hc_39 => ?_)
        · skip
          refine ev_iincN_5 (c := 1) i_Gr_returnsTo_45 (by decide) rfl ?_
          refine ev_goto i_Gr_returnsTo_48 ?_
          rw [bkN_s, if_neg (by rw [cy]; decide)] at ki
          exact ki
        · skip
          exfalso; omega
  · try dsimp only
    refine ev_iload i_Gr_returnsTo_12 rfl ?_
    refine ev_aload_n i_Gr_returnsTo_14 rfl ?_
    refine ev_get i_Gr_returnsTo_15 hT.1 rfl ?_
    refine ev_iload_n i_Gr_returnsTo_18 rfl ?_
    refine ev_ialdN i_Gr_returnsTo_19 hT.2.2.1 (by omega) (by decide) ?_
    rw [hsl.1]
    refine ev_icmp_geN i_Gr_returnsTo_20 (by omega) (by omega) (fun hc_20 => ?_) (fun hc_20 => ?_)
    · skip
      refine ev_iload i_Gr_returnsTo_51 rfl ?_
      exact ev_iret i_Gr_returnsTo_53 rfl (by first | rfl | decide)
    · skip
      exfalso; omega
theorem chN_le {T : TabV} {a : Nat} (ha : a < 6) : chN (RT T) 6 a ≤ 6 := by
  rw [ch_dp (RT_tr T) ha]
  have := dp_le (R := RT T) a
  split <;> omega
theorem chM_le {T : TabV} {xs : List Nat} {i : Nat} (hi : i ≤ 6) : maxN (fun b => if rwd T xs xs.length b = true then chN (RT T) 6 b else 0) i ≤ 6 := maxN_le.mpr (fun b hb => by
  show (if rwd T xs xs.length b = true then chN (RT T) 6 b else 0) ≤ 6
  have := chN_le (T := T) (a := b) (by omega)
  split <;> omega)
theorem chM_s {T : TabV} {xs : List Nat} {i : Nat} : maxN (fun b => if rwd T xs xs.length b = true then chN (RT T) 6 b else 0) (i + 1) = max (maxN (fun b => if rwd T xs xs.length b = true then chN (RT T) 6 b else 0) i) (if rwd T xs xs.length i = true then chN (RT T) 6 i else 0) := rfl
theorem g_longest {scr : Scr} {l : Launch} {S : Sto} {t w a c1 c2 : Nat} {T : TabV} {xs : List Nat} {g1 g2 : Nat → Int32} {x0 : Int64} (ht : TabAt S t T) (hd : isDet T) (hx : WordAt S w a xs) (ho : S.1[61]? = some (grO c1 c2 x0)) (h1 : S.1[64]? = some (aI 6 g1)) (h2 : S.1[65]? = some (aI 6 g2)) (hoff : tabOff t [64, 65]) (hw : w ∉ [64, 65] ∧ a ∉ [64, 65]) {d : Nat} : (gM T xs ≠ 1001 → MetA scr l (d + 3) M_Gr_longestChain [.ref 61, .ref t, .ref w] S (.inl (some (.int (nI (gM T xs)))), ((S.put 64 (aI 6 (rG (RT T) g1 6))).put 65 (aI 6 (kG (chN (RT T) 6) g2 6))))) ∧ (gM T xs = 1001 → MetA scr l (d + 3) M_Gr_longestChain [.ref 61, .ref t, .ref w] S (.inl (some (.int (-1))), ((S.put 64 (aI 6 (rG (RT T) g1 6))).put 65 (aI 6 (kG (chN (RT T) 6) g2 6))))) := by
  have hoff1 : tabOff t [64] := ⟨fun q => hoff.1 (by simp at q; simp [q]), fun q => hoff.2.1 (by simp at q; simp [q]), fun q => hoff.2.2.1 (by simp at q; simp [q]), fun q => hoff.2.2.2 (by simp at q; simp [q])⟩
  have o1 : (S.put 64 (aI 6 (rG (RT T) g1 6))).1[61]? = _ := put_at ho (by decide)
  have r1 : (S.put 64 (aI 6 (rG (RT T) g1 6))).1[64]? = _ := put_self h1
  have k1 : (S.put 64 (aI 6 (rG (RT T) g1 6))).1[65]? = _ := put_at h2 (by decide)
  have oj : ((S.put 64 (aI 6 (rG (RT T) g1 6))).put 65 (aI 6 (kG (chN (RT T) 6) g2 6))).1[61]? = _ := put_at o1 (by decide)
  have rj : ((S.put 64 (aI 6 (rG (RT T) g1 6))).put 65 (aI 6 (kG (chN (RT T) 6) g2 6))).1[64]? = _ := put_at r1 (by decide)
  have kj : ((S.put 64 (aI 6 (rG (RT T) g1 6))).put 65 (aI 6 (kG (chN (RT T) 6) g2 6))).1[65]? = _ := put_self k1
  have hF : Fr [64, 65] S ((S.put 64 (aI 6 (rG (RT T) g1 6))).put 65 (aI 6 (kG (chN (RT T) 6) g2 6))) := (Fr.put _ _ (by simp)).tr (Fr.put _ _ (by simp))
  have tj := ht.fr hF hoff
  have xj := hx.fr hF hw
  have hpo := prd_ok ht hd
  rcases first_or (fun i => rwd T xs xs.length i && decide (1 < bk T i)) 6 with hno | ⟨a0, ha0, hov, hno⟩
  · have hne : gM T xs ≠ 1001 := fun q => by
      obtain ⟨b, hb, e1, e2, e3⟩ := gM_1001.mp q
      have := hno b hb
      rw [e1, decide_eq_true e3] at this
      exact Bool.noConfusion this
    refine ⟨fun _ => ?_, fun q => absurd q hne⟩
    have eg : gM T xs = maxN (fun b => if rwd T xs xs.length b = true then chN (RT T) 6 b else 0) 6 := by
      rw [(gM_small hne).2]
      refine maxN_congr (fun b hb => ?_)
      rw [ch_dp (RT_tr T) hb]
    rw [eg]
    refine MetA.of rfl (by decide +kernel) (Nat.le_of_ble_eq_true rfl) ?_
    refine ev_aload_n i_Gr_longestChain_0 rfl ?_
    refine ev_aload_n i_Gr_longestChain_1 rfl ?_
    refine ev_callV1 i_Gr_longestChain_2 rfl ho (Nat.le_of_ble_eq_true rfl) (g_reach ht hd ho h1 hoff1) ?_
    refine ev_aload_n i_Gr_longestChain_5 rfl ?_
    refine ev_callV0 i_Gr_longestChain_6 rfl o1 (Nat.le_of_ble_eq_true rfl) (g_chains o1 r1 (RT_tr T) k1) ?_
    refine ev_aload_n i_Gr_longestChain_9 rfl ?_
    refine ev_aload_n i_Gr_longestChain_10 rfl ?_
    refine ev_callV1 i_Gr_longestChain_11 rfl oj (Nat.le_of_ble_eq_true rfl) (g_reached oj rj xj) ?_
    refine ev_ist_n_3 i_Gr_longestChain_14 rfl ?_
    refine ev_iconstN (v := 0) i_Gr_longestChain_15 (by decide) ?_
    refine ev_ist_4 i_Gr_longestChain_16 rfl ?_
    refine ev_iconstN (v := 0) i_Gr_longestChain_18 (by decide) ?_
    refine ev_ist_5 i_Gr_longestChain_19 rfl ?_
    refine ev_loop (n := 6) (fun i => [some (.ref 61), some (.ref t), some (.ref w), some (.int (nI (msk (rwd T xs xs.length)))), some (.int (nI (maxN (fun b => if rwd T xs xs.length b = true then chN (RT T) 6 b else 0) i))), some (.int (nI i))]) (fun i => ((S.put 64 (aI 6 (rG (RT T) g1 6))).put 65 (aI 6 (kG (chN (RT T) 6) g2 6)))) (fun i hi ki => ?_) ?_
    · try dsimp only at ki ⊢
      have hci := chN_le (T := T) (a := i) (by omega)
      have hmi := chM_le (T := T) (xs := xs) (i := i) (by omega)
      have hbi := hno i (by omega)
      cases cy : rwd T xs xs.length i with
      | true =>
        have hb1 : bk T i ≤ 1 := by
          refine Nat.le_of_not_lt (fun q => ?_)
          rw [cy, decide_eq_true q] at hbi
          exact Bool.noConfusion hbi
        refine ev_iload i_Gr_longestChain_21 rfl ?_
        refine ev_bipushN (v := 6) i_Gr_longestChain_23 (by decide) ?_
        refine ev_icmp_geN i_Gr_longestChain_25 (by omega) (by omega) (fun hc_25 => ?_) (fun hc_25 => ?_)
        · skip
          exfalso; omega
        · skip
          refine ev_iload_n i_Gr_longestChain_28 rfl ?_
          refine ev_iload i_Gr_longestChain_29 rfl ?_
          refine ev_callS2 i_Gr_longestChain_31 rfl (Nat.le_of_ble_eq_true rfl) (c_con_y (f := rwd T xs xs.length) (show i < 6 by omega) cy) ?_
          refine ev_if_eqN i_Gr_longestChain_34 (by omega) (fun hc_34 => ?_) (fun hc_34 => ?_)
          · skip
            exfalso; omega
          · skip
            refine ev_aload_n i_Gr_longestChain_37 rfl ?_
            refine ev_iload i_Gr_longestChain_38 rfl ?_
            refine ev_aload_n i_Gr_longestChain_40 rfl ?_
            refine ev_callV2 i_Gr_longestChain_41 rfl oj (Nat.le_of_ble_eq_true rfl) (g_returns oj rj tj hd (by omega)) ?_
            refine ev_iconstN (v := 1) i_Gr_longestChain_44 (by decide) ?_
            refine ev_icmp_leN i_Gr_longestChain_45 (by omega) (by omega) (fun hc_45 => ?_) (fun hc_45 => ?_)
            · skip
              refine ev_iload i_Gr_longestChain_50 rfl ?_
              refine ev_aload_n i_Gr_longestChain_52 rfl ?_
              refine ev_get i_Gr_longestChain_53 oj rfl ?_
              refine ev_iload i_Gr_longestChain_56 rfl ?_
              refine ev_ialdN i_Gr_longestChain_58 kj (by omega) (by decide) ?_
              rw [kG_at (by omega)]
              refine ev_callS2 i_Gr_longestChain_59 rfl (Nat.le_of_ble_eq_true rfl) (c_Ma_maxI (by omega) (by omega)) ?_
              refine ev_ist_4 i_Gr_longestChain_62 rfl ?_
              refine ev_iincN_5 (c := 1) i_Gr_longestChain_64 (by decide) rfl ?_
              refine ev_goto i_Gr_longestChain_67 ?_
              rw [chM_s, if_pos cy] at ki
              exact ki
            · skip
              exfalso; omega
      | false =>
        refine ev_iload i_Gr_longestChain_21 rfl ?_
        refine ev_bipushN (v := 6) i_Gr_longestChain_23 (by decide) ?_
        refine ev_icmp_geN i_Gr_longestChain_25 (by omega) (by omega) (fun hc_25 => ?_) (fun hc_25 => ?_)
        · skip
          exfalso; omega
        · skip
          refine ev_iload_n i_Gr_longestChain_28 rfl ?_
          refine ev_iload i_Gr_longestChain_29 rfl ?_
          refine ev_callS2 i_Gr_longestChain_31 rfl (Nat.le_of_ble_eq_true rfl) (c_con_n (f := rwd T xs xs.length) (show i < 6 by omega) cy) ?_
          refine ev_if_eqN i_Gr_longestChain_34 (by omega) (fun hc_34 => ?_) (fun hc_34 => ?_)
          · skip
            refine ev_iincN_5 (c := 1) i_Gr_longestChain_64 (by decide) rfl ?_
            refine ev_goto i_Gr_longestChain_67 ?_
            rw [chM_s, if_neg (by rw [cy]; decide), Nat.max_zero] at ki
            exact ki
          · skip
            exfalso; omega
    · try dsimp only
      refine ev_iload i_Gr_longestChain_21 rfl ?_
      refine ev_bipushN (v := 6) i_Gr_longestChain_23 (by decide) ?_
      refine ev_icmp_geN i_Gr_longestChain_25 (by omega) (by omega) (fun hc_25 => ?_) (fun hc_25 => ?_)
      · skip
        refine ev_iload i_Gr_longestChain_70 rfl ?_
        exact ev_iret i_Gr_longestChain_72 rfl (by first | rfl | decide)
      · skip
        exfalso; omega
  · rw [Bool.and_eq_true] at hov
    have cy := hov.1
    have hb1 : 1 < bk T a0 := of_decide_eq_true hov.2
    refine ⟨fun q => absurd (gM_1001.mpr ⟨a0, ha0, cy, bk_cyc (hpo a0 ha0) ha0 (by omega), hb1⟩) q, fun _ => ?_⟩
    have hb24 : bk T a0 < 2 ^ 31 := by
      rw [← bk_eq (hpo a0 ha0)]
      have h4 := (hpo a0 ha0).1
      have := sumN_le (f := fun u => if RT T ((prd T a0).getD u 0) a0 = true then 1 else 0) (b := 1) (n := (prd T a0).length) (fun u _ => by split <;> omega)
      unfold bkN
      omega
    refine MetA.of rfl (by decide +kernel) (Nat.le_of_ble_eq_true rfl) ?_
    refine ev_aload_n i_Gr_longestChain_0 rfl ?_
    refine ev_aload_n i_Gr_longestChain_1 rfl ?_
    refine ev_callV1 i_Gr_longestChain_2 rfl ho (Nat.le_of_ble_eq_true rfl) (g_reach ht hd ho h1 hoff1) ?_
    refine ev_aload_n i_Gr_longestChain_5 rfl ?_
    refine ev_callV0 i_Gr_longestChain_6 rfl o1 (Nat.le_of_ble_eq_true rfl) (g_chains o1 r1 (RT_tr T) k1) ?_
    refine ev_aload_n i_Gr_longestChain_9 rfl ?_
    refine ev_aload_n i_Gr_longestChain_10 rfl ?_
    refine ev_callV1 i_Gr_longestChain_11 rfl oj (Nat.le_of_ble_eq_true rfl) (g_reached oj rj xj) ?_
    refine ev_ist_n_3 i_Gr_longestChain_14 rfl ?_
    refine ev_iconstN (v := 0) i_Gr_longestChain_15 (by decide) ?_
    refine ev_ist_4 i_Gr_longestChain_16 rfl ?_
    refine ev_iconstN (v := 0) i_Gr_longestChain_18 (by decide) ?_
    refine ev_ist_5 i_Gr_longestChain_19 rfl ?_
    refine ev_loop (n := a0) (fun i => [some (.ref 61), some (.ref t), some (.ref w), some (.int (nI (msk (rwd T xs xs.length)))), some (.int (nI (maxN (fun b => if rwd T xs xs.length b = true then chN (RT T) 6 b else 0) i))), some (.int (nI i))]) (fun i => ((S.put 64 (aI 6 (rG (RT T) g1 6))).put 65 (aI 6 (kG (chN (RT T) 6) g2 6)))) (fun i hi ki => ?_) ?_
    · try dsimp only at ki ⊢
      have hci := chN_le (T := T) (a := i) (by omega)
      have hmi := chM_le (T := T) (xs := xs) (i := i) (by omega)
      have hbi := hno i (by omega)
      cases cy : rwd T xs xs.length i with
      | true =>
        have hb1 : bk T i ≤ 1 := by
          refine Nat.le_of_not_lt (fun q => ?_)
          rw [cy, decide_eq_true q] at hbi
          exact Bool.noConfusion hbi
        refine ev_iload i_Gr_longestChain_21 rfl ?_
        refine ev_bipushN (v := 6) i_Gr_longestChain_23 (by decide) ?_
        refine ev_icmp_geN i_Gr_longestChain_25 (by omega) (by omega) (fun hc_25 => ?_) (fun hc_25 => ?_)
        · skip
          exfalso; omega
        · skip
          refine ev_iload_n i_Gr_longestChain_28 rfl ?_
          refine ev_iload i_Gr_longestChain_29 rfl ?_
          refine ev_callS2 i_Gr_longestChain_31 rfl (Nat.le_of_ble_eq_true rfl) (c_con_y (f := rwd T xs xs.length) (show i < 6 by omega) cy) ?_
          refine ev_if_eqN i_Gr_longestChain_34 (by omega) (fun hc_34 => ?_) (fun hc_34 => ?_)
          · skip
            exfalso; omega
          · skip
            refine ev_aload_n i_Gr_longestChain_37 rfl ?_
            refine ev_iload i_Gr_longestChain_38 rfl ?_
            refine ev_aload_n i_Gr_longestChain_40 rfl ?_
            refine ev_callV2 i_Gr_longestChain_41 rfl oj (Nat.le_of_ble_eq_true rfl) (g_returns oj rj tj hd (by omega)) ?_
            refine ev_iconstN (v := 1) i_Gr_longestChain_44 (by decide) ?_
            refine ev_icmp_leN i_Gr_longestChain_45 (by omega) (by omega) (fun hc_45 => ?_) (fun hc_45 => ?_)
            · skip
              refine ev_iload i_Gr_longestChain_50 rfl ?_
              refine ev_aload_n i_Gr_longestChain_52 rfl ?_
              refine ev_get i_Gr_longestChain_53 oj rfl ?_
              refine ev_iload i_Gr_longestChain_56 rfl ?_
              refine ev_ialdN i_Gr_longestChain_58 kj (by omega) (by decide) ?_
              rw [kG_at (by omega)]
              refine ev_callS2 i_Gr_longestChain_59 rfl (Nat.le_of_ble_eq_true rfl) (c_Ma_maxI (by omega) (by omega)) ?_
              refine ev_ist_4 i_Gr_longestChain_62 rfl ?_
              refine ev_iincN_5 (c := 1) i_Gr_longestChain_64 (by decide) rfl ?_
              refine ev_goto i_Gr_longestChain_67 ?_
              rw [chM_s, if_pos cy] at ki
              exact ki
            · skip
              exfalso; omega
      | false =>
        refine ev_iload i_Gr_longestChain_21 rfl ?_
        refine ev_bipushN (v := 6) i_Gr_longestChain_23 (by decide) ?_
        refine ev_icmp_geN i_Gr_longestChain_25 (by omega) (by omega) (fun hc_25 => ?_) (fun hc_25 => ?_)
        · skip
          exfalso; omega
        · skip
          refine ev_iload_n i_Gr_longestChain_28 rfl ?_
          refine ev_iload i_Gr_longestChain_29 rfl ?_
          refine ev_callS2 i_Gr_longestChain_31 rfl (Nat.le_of_ble_eq_true rfl) (c_con_n (f := rwd T xs xs.length) (show i < 6 by omega) cy) ?_
          refine ev_if_eqN i_Gr_longestChain_34 (by omega) (fun hc_34 => ?_) (fun hc_34 => ?_)
          · skip
            refine ev_iincN_5 (c := 1) i_Gr_longestChain_64 (by decide) rfl ?_
            refine ev_goto i_Gr_longestChain_67 ?_
            rw [chM_s, if_neg (by rw [cy]; decide), Nat.max_zero] at ki
            exact ki
          · skip
            exfalso; omega
    · try dsimp only
      refine ev_iload i_Gr_longestChain_21 rfl ?_
      refine ev_bipushN (v := 6) i_Gr_longestChain_23 (by decide) ?_
      refine ev_icmp_geN i_Gr_longestChain_25 (by omega) (by omega) (fun hc_25 => ?_) (fun hc_25 => ?_)
      · skip
        exfalso; omega
      · skip
        refine ev_iload_n i_Gr_longestChain_28 rfl ?_
        refine ev_iload i_Gr_longestChain_29 rfl ?_
        refine ev_callS2 i_Gr_longestChain_31 rfl (Nat.le_of_ble_eq_true rfl) (c_con_y (f := rwd T xs xs.length) ha0 cy) ?_
        refine ev_if_eqN i_Gr_longestChain_34 (by omega) (fun hc_34 => ?_) (fun hc_34 => ?_)
        · skip
          exfalso; omega
        · skip
          refine ev_aload_n i_Gr_longestChain_37 rfl ?_
          refine ev_iload i_Gr_longestChain_38 rfl ?_
          refine ev_aload_n i_Gr_longestChain_40 rfl ?_
          refine ev_callV2 i_Gr_longestChain_41 rfl oj (Nat.le_of_ble_eq_true rfl) (g_returns oj rj tj hd ha0) ?_
          refine ev_iconstN (v := 1) i_Gr_longestChain_44 (by decide) ?_
          refine ev_icmp_leN i_Gr_longestChain_45 (by omega) (by omega) (fun hc_45 => ?_) (fun hc_45 => ?_)
          · skip
            exfalso; omega
          · skip
            refine ev_iconst (v := -1) i_Gr_longestChain_48 (by decide) ?_
            exact ev_iret i_Gr_longestChain_49 rfl (by decide)
theorem XInv.grs2 {σ : Sg} {S S1 : Sto} (h : XInv σ S) (hF : Fr [64, 65] S S1) (h1 : ∃ f, S1.1[64]? = some (aI 6 f)) (h2 : ∃ f, S1.1[65]? = some (aI 6 f)) : XInv σ S1 := by
  obtain ⟨c1, c2, x0, ff1, ff2, r1, r2, hc, og, e2, e3, e4, e5⟩ := id h.grs
  obtain ⟨f1, h1⟩ := h1
  obtain ⟨f2, h2⟩ := h2
  exact h.grow hF (by decide) ⟨c1, c2, x0, ff1, ff2, f1, f2, hc, hF.at og (by decide), hF.at e2 (by decide), hF.at e3 (by decide), h1, h2⟩
theorem c_Ma_maxz {scr : Scr} {l : Launch} {d : Nat} {S : Sto} {n : Nat} (h : n < 2 ^ 31) : MetA scr l d M_Ma_maxI [.int (nI n - nI 1), .int (nI 0)] S (.inl (some (.int (nI (n - 1)))), S) := by
  by_cases z : n = 0
  · subst z
    refine MetA.ofF rfl (by decide +kernel) (Nat.le_of_ble_eq_true rfl) ?_
    refine ev_iload_n i_Ma_maxI_0 rfl ?_
    refine ev_iload_n i_Ma_maxI_1 rfl ?_
    refine ev_icmp_lt i_Ma_maxI_2 (fun hc => ?_) (fun hc => absurd (by decide) hc)
    refine ev_iload_n i_Ma_maxI_9 rfl ?_
    exact ev_iret i_Ma_maxI_10 rfl (by first | rfl | decide)
  · rw [nI_sub (by omega)]
    have := c_Ma_maxI (scr := scr) (l := l) (d := d) (S := S) (a := n - 1) (b := 0) (by omega) (by omega)
    rw [Nat.max_zero] at this
    exact this
theorem x_grKind {scr : Scr} {l : Launch} {S : Sto} {σ : Sg} {t : Nat} (h : XInv σ S) (ht : t < 3) (hf : fitT (σ.2.1.1 t)) : (gM (σ.2.1.1 t) σ.2.1.2.1 ≠ 1001 → XRun scr l 4 M_Pr_growthKind [.ref 0, .int (nI t)] S (some (.int (nI (min (gM (σ.2.1.1 t) σ.2.1.2.1) 2)))) σ) ∧ (gM (σ.2.1.1 t) σ.2.1.2.1 = 1001 → XRun scr l 4 M_Pr_growthKind [.ref 0, .int (nI t)] S (some (.int (nI 3))) σ) := by
  obtain ⟨c1, c2, x0, ff1, ff2, g1, g2, hc, og, e2, e3, e4, e5⟩ := id h.grs
  have hF : Fr [64, 65] S ((S.put 64 (aI 6 (rG (RT (σ.2.1.1 t)) g1 6))).put 65 (aI 6 (kG (chN (RT (σ.2.1.1 t)) 6) g2 6))) := (Fr.put _ _ (by simp)).tr (Fr.put _ _ (by simp))
  have hi := h.grs2 hF ⟨_, put_at (put_self e4) (by decide)⟩ ⟨_, put_self (put_at e5 (by decide))⟩
  refine ⟨fun hg => ?_, fun hg => ?_⟩
  · have hg6 := (gM_small hg).1
    refine ⟨((S.put 64 (aI 6 (rG (RT (σ.2.1.1 t)) g1 6))).put 65 (aI 6 (kG (chN (RT (σ.2.1.1 t)) 6) g2 6))), fun d => ?_, hi, hF.x (by decide)⟩
    refine MetA.of rfl (by decide +kernel) (Nat.le_of_ble_eq_true rfl) ?_
    refine ev_aload_n i_Pr_growthKind_0 rfl ?_
    refine ev_iload_n i_Pr_growthKind_1 rfl ?_
    refine ev_callV1 i_Pr_growthKind_2 rfl h.1 (Nat.le_of_ble_eq_true rfl) (x_tableAt h ht) ?_
    refine ev_ast_n_2 i_Pr_growthKind_5 rfl ?_
    refine ev_aload_n i_Pr_growthKind_6 rfl ?_
    refine ev_callS1 i_Pr_growthKind_7 rfl (Nat.le_of_ble_eq_true rfl) ((x_checkFit (live_tab h ht)).1 hf) ?_
    refine ev_aload_n i_Pr_growthKind_10 rfl ?_
    refine ev_get i_Pr_growthKind_11 h.1 rfl ?_
    refine ev_aload_n i_Pr_growthKind_14 rfl ?_
    refine ev_aload_n i_Pr_growthKind_15 rfl ?_
    refine ev_get i_Pr_growthKind_16 h.1 rfl ?_
    refine ev_get i_Pr_growthKind_19 h.2.2.1.1 rfl ?_
    refine ev_callV2 i_Pr_growthKind_22 rfl og (Nat.le_of_ble_eq_true rfl) ((g_longest (live_tab h ht) hf.1 (live_cur h) og e4 e5 (live_off ht (by decide)) ⟨by decide, by decide⟩).1 hg) ?_
    refine ev_ist_n_3 i_Pr_growthKind_25 rfl ?_
    refine ev_iload_n i_Pr_growthKind_26 rfl ?_
    refine ev_iconst (v := -1) i_Pr_growthKind_27 (by decide) ?_
    refine ev_icmp_ne i_Pr_growthKind_28 (fun hc_28 => ?_) (fun hc_28 => ?_)
    · skip
      refine ev_iload_n i_Pr_growthKind_33 rfl ?_
      refine ev_iconstN (v := 2) i_Pr_growthKind_34 (by decide) ?_
      refine ev_callS2 i_Pr_growthKind_35 rfl (Nat.le_of_ble_eq_true rfl) (c_Ma_minI (by omega) (by omega)) ?_
      exact ev_iret i_Pr_growthKind_38 rfl (by first | rfl | decide)
    · skip
      exact absurd hc_28 (nI_ne_m1 (by omega))
  · refine ⟨((S.put 64 (aI 6 (rG (RT (σ.2.1.1 t)) g1 6))).put 65 (aI 6 (kG (chN (RT (σ.2.1.1 t)) 6) g2 6))), fun d => ?_, hi, hF.x (by decide)⟩
    refine MetA.of rfl (by decide +kernel) (Nat.le_of_ble_eq_true rfl) ?_
    refine ev_aload_n i_Pr_growthKind_0 rfl ?_
    refine ev_iload_n i_Pr_growthKind_1 rfl ?_
    refine ev_callV1 i_Pr_growthKind_2 rfl h.1 (Nat.le_of_ble_eq_true rfl) (x_tableAt h ht) ?_
    refine ev_ast_n_2 i_Pr_growthKind_5 rfl ?_
    refine ev_aload_n i_Pr_growthKind_6 rfl ?_
    refine ev_callS1 i_Pr_growthKind_7 rfl (Nat.le_of_ble_eq_true rfl) ((x_checkFit (live_tab h ht)).1 hf) ?_
    refine ev_aload_n i_Pr_growthKind_10 rfl ?_
    refine ev_get i_Pr_growthKind_11 h.1 rfl ?_
    refine ev_aload_n i_Pr_growthKind_14 rfl ?_
    refine ev_aload_n i_Pr_growthKind_15 rfl ?_
    refine ev_get i_Pr_growthKind_16 h.1 rfl ?_
    refine ev_get i_Pr_growthKind_19 h.2.2.1.1 rfl ?_
    refine ev_callV2 i_Pr_growthKind_22 rfl og (Nat.le_of_ble_eq_true rfl) ((g_longest (live_tab h ht) hf.1 (live_cur h) og e4 e5 (live_off ht (by decide)) ⟨by decide, by decide⟩).2 hg) ?_
    refine ev_ist_n_3 i_Pr_growthKind_25 rfl ?_
    refine ev_iload_n i_Pr_growthKind_26 rfl ?_
    refine ev_iconst (v := -1) i_Pr_growthKind_27 (by decide) ?_
    refine ev_icmp_ne i_Pr_growthKind_28 (fun hc_28 => ?_) (fun hc_28 => ?_)
    · skip
      exact absurd rfl hc_28
    · skip
      refine ev_iconstN (v := 3) i_Pr_growthKind_31 (by decide) ?_
      exact ev_iret i_Pr_growthKind_32 rfl (by first | rfl | decide)
theorem x_grKind_2 {scr : Scr} {l : Launch} {S : Sto} {σ : Sg} {t : Nat} (h : XInv σ S) (ht : t < 3) (hf : ¬ fitT (σ.2.1.1 t)) : XThr scr l 4 M_Pr_growthKind [.ref 0, .int (nI t)] S xIse σ := by
  refine XThr.of h (fun d => ?_)
  refine MetA.of rfl (by decide +kernel) (Nat.le_of_ble_eq_true rfl) ?_
  refine ev_aload_n i_Pr_growthKind_0 rfl ?_
  refine ev_iload_n i_Pr_growthKind_1 rfl ?_
  refine ev_callV1 i_Pr_growthKind_2 rfl h.1 (Nat.le_of_ble_eq_true rfl) (x_tableAt h ht) ?_
  refine ev_ast_n_2 i_Pr_growthKind_5 rfl ?_
  refine ev_aload_n i_Pr_growthKind_6 rfl ?_
  exact ev_callS1x rfl i_Pr_growthKind_7 rfl (Nat.le_of_ble_eq_true rfl) ((x_checkFit (live_tab h ht)).2 hf)
theorem x_grKind_1 {scr : Scr} {l : Launch} {S : Sto} {σ : Sg} {p : Int32} (h : XInv σ S) (hp : ¬ inR 3 p) : XThr scr l 4 M_Pr_growthKind [.ref 0, .int p] S xIob σ := by
  refine XThr.of h (fun d => ?_)
  refine MetA.of rfl (by decide +kernel) (Nat.le_of_ble_eq_true rfl) ?_
  refine ev_aload_n i_Pr_growthKind_0 rfl ?_
  refine ev_iload_n i_Pr_growthKind_1 rfl ?_
  exact ev_callV1x rfl i_Pr_growthKind_2 rfl h.1 (Nat.le_of_ble_eq_true rfl) (x_tableAt_no hp)
theorem x_grDeg {scr : Scr} {l : Launch} {S : Sto} {σ : Sg} {t : Nat} (h : XInv σ S) (ht : t < 3) (hf : fitT (σ.2.1.1 t)) : (gM (σ.2.1.1 t) σ.2.1.2.1 ≠ 1001 → XRun scr l 4 M_Pr_growthDegree [.ref 0, .int (nI t)] S (some (.int (nI (gM (σ.2.1.1 t) σ.2.1.2.1 - 1)))) σ) ∧ (gM (σ.2.1.1 t) σ.2.1.2.1 = 1001 → XThr scr l 4 M_Pr_growthDegree [.ref 0, .int (nI t)] S xAri σ) := by
  obtain ⟨c1, c2, x0, ff1, ff2, g1, g2, hc, og, e2, e3, e4, e5⟩ := id h.grs
  have hF : Fr [64, 65] S ((S.put 64 (aI 6 (rG (RT (σ.2.1.1 t)) g1 6))).put 65 (aI 6 (kG (chN (RT (σ.2.1.1 t)) 6) g2 6))) := (Fr.put _ _ (by simp)).tr (Fr.put _ _ (by simp))
  have hi := h.grs2 hF ⟨_, put_at (put_self e4) (by decide)⟩ ⟨_, put_self (put_at e5 (by decide))⟩
  refine ⟨fun hg => ?_, fun hg => ?_⟩
  · have hg6 := (gM_small hg).1
    refine ⟨((S.put 64 (aI 6 (rG (RT (σ.2.1.1 t)) g1 6))).put 65 (aI 6 (kG (chN (RT (σ.2.1.1 t)) 6) g2 6))), fun d => ?_, hi, hF.x (by decide)⟩
    refine MetA.of rfl (by decide +kernel) (Nat.le_of_ble_eq_true rfl) ?_
    refine ev_aload_n i_Pr_growthDegree_0 rfl ?_
    refine ev_iload_n i_Pr_growthDegree_1 rfl ?_
    refine ev_callV1 i_Pr_growthDegree_2 rfl h.1 (Nat.le_of_ble_eq_true rfl) (x_tableAt h ht) ?_
    refine ev_ast_n_2 i_Pr_growthDegree_5 rfl ?_
    refine ev_aload_n i_Pr_growthDegree_6 rfl ?_
    refine ev_callS1 i_Pr_growthDegree_7 rfl (Nat.le_of_ble_eq_true rfl) ((x_checkFit (live_tab h ht)).1 hf) ?_
    refine ev_aload_n i_Pr_growthDegree_10 rfl ?_
    refine ev_get i_Pr_growthDegree_11 h.1 rfl ?_
    refine ev_aload_n i_Pr_growthDegree_14 rfl ?_
    refine ev_aload_n i_Pr_growthDegree_15 rfl ?_
    refine ev_get i_Pr_growthDegree_16 h.1 rfl ?_
    refine ev_get i_Pr_growthDegree_19 h.2.2.1.1 rfl ?_
    refine ev_callV2 i_Pr_growthDegree_22 rfl og (Nat.le_of_ble_eq_true rfl) ((g_longest (live_tab h ht) hf.1 (live_cur h) og e4 e5 (live_off ht (by decide)) ⟨by decide, by decide⟩).1 hg) ?_
    refine ev_ist_n_3 i_Pr_growthDegree_25 rfl ?_
    refine ev_iload_n i_Pr_growthDegree_26 rfl ?_
    refine ev_iconst (v := -1) i_Pr_growthDegree_27 (by decide) ?_
    refine ev_icmp_ne i_Pr_growthDegree_28 (fun hc_28 => ?_) (fun hc_28 => ?_)
    · skip
      refine ev_iload_n i_Pr_growthDegree_41 rfl ?_
      refine ev_iconstN (v := 1) i_Pr_growthDegree_42 (by decide) ?_
      refine ev_isub i_Pr_growthDegree_43 ?_
      refine ev_iconstN (v := 0) i_Pr_growthDegree_44 (by decide) ?_
      refine ev_callS2 i_Pr_growthDegree_45 rfl (Nat.le_of_ble_eq_true rfl) (c_Ma_maxz (by omega)) ?_
      exact ev_iret i_Pr_growthDegree_48 rfl (by first | rfl | decide)
    · skip
      exact absurd hc_28 (nI_ne_m1 (by omega))
  · refine ⟨((S.put 64 (aI 6 (rG (RT (σ.2.1.1 t)) g1 6))).put 65 (aI 6 (kG (chN (RT (σ.2.1.1 t)) 6) g2 6))), fun d => ?_, hi, hF.x (by decide)⟩
    refine MetA.of rfl (by decide +kernel) (Nat.le_of_ble_eq_true rfl) ?_
    refine ev_aload_n i_Pr_growthDegree_0 rfl ?_
    refine ev_iload_n i_Pr_growthDegree_1 rfl ?_
    refine ev_callV1 i_Pr_growthDegree_2 rfl h.1 (Nat.le_of_ble_eq_true rfl) (x_tableAt h ht) ?_
    refine ev_ast_n_2 i_Pr_growthDegree_5 rfl ?_
    refine ev_aload_n i_Pr_growthDegree_6 rfl ?_
    refine ev_callS1 i_Pr_growthDegree_7 rfl (Nat.le_of_ble_eq_true rfl) ((x_checkFit (live_tab h ht)).1 hf) ?_
    refine ev_aload_n i_Pr_growthDegree_10 rfl ?_
    refine ev_get i_Pr_growthDegree_11 h.1 rfl ?_
    refine ev_aload_n i_Pr_growthDegree_14 rfl ?_
    refine ev_aload_n i_Pr_growthDegree_15 rfl ?_
    refine ev_get i_Pr_growthDegree_16 h.1 rfl ?_
    refine ev_get i_Pr_growthDegree_19 h.2.2.1.1 rfl ?_
    refine ev_callV2 i_Pr_growthDegree_22 rfl og (Nat.le_of_ble_eq_true rfl) ((g_longest (live_tab h ht) hf.1 (live_cur h) og e4 e5 (live_off ht (by decide)) ⟨by decide, by decide⟩).2 hg) ?_
    refine ev_ist_n_3 i_Pr_growthDegree_25 rfl ?_
    refine ev_iload_n i_Pr_growthDegree_26 rfl ?_
    refine ev_iconst (v := -1) i_Pr_growthDegree_27 (by decide) ?_
    refine ev_icmp_ne i_Pr_growthDegree_28 (fun hc_28 => ?_) (fun hc_28 => ?_)
    · skip
      exact absurd rfl hc_28
    · skip
      exact ev_throw i_Pr_growthDegree_31 ex_Ari rfl rfl (Nat.le_of_ble_eq_true rfl)
theorem x_grDeg_2 {scr : Scr} {l : Launch} {S : Sto} {σ : Sg} {t : Nat} (h : XInv σ S) (ht : t < 3) (hf : ¬ fitT (σ.2.1.1 t)) : XThr scr l 4 M_Pr_growthDegree [.ref 0, .int (nI t)] S xIse σ := by
  refine XThr.of h (fun d => ?_)
  refine MetA.of rfl (by decide +kernel) (Nat.le_of_ble_eq_true rfl) ?_
  refine ev_aload_n i_Pr_growthDegree_0 rfl ?_
  refine ev_iload_n i_Pr_growthDegree_1 rfl ?_
  refine ev_callV1 i_Pr_growthDegree_2 rfl h.1 (Nat.le_of_ble_eq_true rfl) (x_tableAt h ht) ?_
  refine ev_ast_n_2 i_Pr_growthDegree_5 rfl ?_
  refine ev_aload_n i_Pr_growthDegree_6 rfl ?_
  exact ev_callS1x rfl i_Pr_growthDegree_7 rfl (Nat.le_of_ble_eq_true rfl) ((x_checkFit (live_tab h ht)).2 hf)
theorem x_grDeg_1 {scr : Scr} {l : Launch} {S : Sto} {σ : Sg} {p : Int32} (h : XInv σ S) (hp : ¬ inR 3 p) : XThr scr l 4 M_Pr_growthDegree [.ref 0, .int p] S xIob σ := by
  refine XThr.of h (fun d => ?_)
  refine MetA.of rfl (by decide +kernel) (Nat.le_of_ble_eq_true rfl) ?_
  refine ev_aload_n i_Pr_growthDegree_0 rfl ?_
  refine ev_iload_n i_Pr_growthDegree_1 rfl ?_
  exact ev_callV1x rfl i_Pr_growthDegree_2 rfl h.1 (Nat.le_of_ble_eq_true rfl) (x_tableAt_no hp)

/-! the model m: kinds of growth 2 -/
theorem m_leads {scr : Scr} {l : Launch} {S : Sto} {q1 q2 q3 q4 q5 q6 q7 : Int32} {R : Nat → Nat → Bool} {fe : Nat → Int32} (h0 : S.1[105]? = some (mObj q1 q2 q3 q4 q5 q6 q7)) (he : S.1[120]? = some (aZ 36 (zG (sq R) fe 36))) {d a b : Nat} (ha : a < 6) (hb : b < 6) : MetA scr l d M_Md_leads [.ref 105, .int (nI a), .int (nI b)] S (.inl (some (.int (nI (bI (R a b))))), S) := by
  refine MetA.of rfl (by decide +kernel) (Nat.le_of_ble_eq_true rfl) ?_
  refine ev_aload_n i_Md_leads_0 rfl ?_
  refine ev_get i_Md_leads_1 h0 rfl ?_
  refine ev_bipushN (v := 6) i_Md_leads_4 (by decide) ?_
  refine ev_iload_n i_Md_leads_6 rfl ?_
  first | refine ev_imulN i_Md_leads_7 ?_ | refine ev_imul i_Md_leads_7 ?_
  refine ev_iload_n i_Md_leads_8 rfl ?_
  first | refine ev_iaddN i_Md_leads_9 ?_ | refine ev_iadd i_Md_leads_9 ?_
  refine ev_zaldN i_Md_leads_10 he (by omega) (by decide) ?_
  rw [zG_at (by omega), sq_at hb]
  exact ev_iretB i_Md_leads_11 rfl
theorem m_leads_y {scr : Scr} {l : Launch} {S : Sto} {q1 q2 q3 q4 q5 q6 q7 : Int32} {R : Nat → Nat → Bool} {fe : Nat → Int32} (h0 : S.1[105]? = some (mObj q1 q2 q3 q4 q5 q6 q7)) (he : S.1[120]? = some (aZ 36 (zG (sq R) fe 36))) {d a b : Nat} (ha : a < 6) (hb : b < 6) (h : R a b = true) : MetA scr l d M_Md_leads [.ref 105, .int (nI a), .int (nI b)] S (.inl (some (.int (nI 1))), S) := by
  have := m_leads (scr := scr) (l := l) (d := d) h0 he ha hb
  rw [h, bI_t] at this
  exact this
theorem m_leads_n {scr : Scr} {l : Launch} {S : Sto} {q1 q2 q3 q4 q5 q6 q7 : Int32} {R : Nat → Nat → Bool} {fe : Nat → Int32} (h0 : S.1[105]? = some (mObj q1 q2 q3 q4 q5 q6 q7)) (he : S.1[120]? = some (aZ 36 (zG (sq R) fe 36))) {d a b : Nat} (ha : a < 6) (hb : b < 6) (h : R a b = false) : MetA scr l d M_Md_leads [.ref 105, .int (nI a), .int (nI b)] S (.inl (some (.int (nI 0))), S) := by
  have := m_leads (scr := scr) (l := l) (d := d) h0 he ha hb
  rw [h, bI_f] at this
  exact this
theorem dpM_s {R : Nat → Nat → Bool} {a i : Nat} : (maxN (fun b => if (R b b && R a b && !R b a) = true then dp R b else 0) (i + 1)) = max (maxN (fun b => if (R b b && R a b && !R b a) = true then dp R b else 0) i) (if (R i i && R a i && !R i a) = true then dp R i else 0) := rfl
theorem dpM_le {R : Nat → Nat → Bool} {a i : Nat} : (maxN (fun b => if (R b b && R a b && !R b a) = true then dp R b else 0) i) ≤ 6 := maxN_le.mpr (fun b _ => by
  show (if (R b b && R a b && !R b a) = true then dp R b else 0) ≤ 6
  have := dp_le (R := R) b
  split <;> omega)
theorem m_depth {scr : Scr} {l : Launch} {S : Sto} {q1 q2 q3 q4 q5 q6 q7 : Int32} {R : Nat → Nat → Bool} {fe : Nat → Int32} (h0 : S.1[105]? = some (mObj q1 q2 q3 q4 q5 q6 q7)) (he : S.1[120]? = some (aZ 36 (zG (sq R) fe 36))) (hR : isTr R) : ∀ (n a : Nat), a < 6 → R a a = true → rk R a ≤ n → ∀ d, MetA scr l (d + n + 1) M_Md_depth [.ref 105, .int (nI a)] S (.inl (some (.int (nI (dp R a)))), S) := by
  intro n
  induction n with
  | zero => intro a ha hc h d; have := rk_pos ha hc; omega
  | succ n ih =>
    intro a ha hc h d
    rw [dp_eq hR ha hc]
    refine MetA.of rfl (by decide +kernel) (Nat.le_of_ble_eq_true rfl) ?_
    refine ev_iconstN (v := 0) i_Md_depth_0 (by decide) ?_
    refine ev_ist_n_2 i_Md_depth_1 rfl ?_
    refine ev_iconstN (v := 0) i_Md_depth_2 (by decide) ?_
    refine ev_ist_n_3 i_Md_depth_3 rfl ?_
    refine ev_loop (n := 6) (fun b => [some (.ref 105), some (.int (nI a)), some (.int (nI (maxN (fun b => if (R b b && R a b && !R b a) = true then dp R b else 0) b))), some (.int (nI b))]) (fun b => S) (fun b hb kb => ?_) ?_
    · try dsimp only at kb ⊢
      have hmb := dpM_le (R := R) (a := a) (i := b)
      have hdb := dp_le (R := R) b
      cases xy : R b b with
      | true =>
        cases yy : R a b with
        | true =>
          cases zy : R b a with
          | true =>
            refine ev_iload_n i_Md_depth_4 rfl ?_
            refine ev_bipushN (v := 6) i_Md_depth_5 (by decide) ?_
            refine ev_icmp_geN i_Md_depth_7 (by omega) (by omega) (fun hc_7 => ?_) (fun hc_7 => ?_)
            · skip
              exfalso; omega
            · skip
              refine ev_aload_n i_Md_depth_10 rfl ?_
              refine ev_iload_n i_Md_depth_11 rfl ?_
              refine ev_iload_n i_Md_depth_12 rfl ?_
              refine ev_callV2 i_Md_depth_13 rfl h0 (Nat.le_of_ble_eq_true rfl) (m_leads_y h0 he (show b < 6 by omega) (show b < 6 by omega) xy) ?_
              refine ev_if_eqN i_Md_depth_16 (by omega) (fun hc_16 => ?_) (fun hc_16 => ?_)
              · skip
                exfalso; omega
              · skip
                refine ev_aload_n i_Md_depth_19 rfl ?_
                refine ev_iload_n i_Md_depth_20 rfl ?_
                refine ev_iload_n i_Md_depth_21 rfl ?_
                refine ev_callV2 i_Md_depth_22 rfl h0 (Nat.le_of_ble_eq_true rfl) (m_leads_y h0 he ha (show b < 6 by omega) yy) ?_
                refine ev_if_eqN i_Md_depth_25 (by omega) (fun hc_25 => ?_) (fun hc_25 => ?_)
                · skip
                  exfalso; omega
                · skip
                  refine ev_aload_n i_Md_depth_28 rfl ?_
                  refine ev_iload_n i_Md_depth_29 rfl ?_
                  refine ev_iload_n i_Md_depth_30 rfl ?_
                  refine ev_callV2 i_Md_depth_31 rfl h0 (Nat.le_of_ble_eq_true rfl) (m_leads_y h0 he (show b < 6 by omega) ha zy) ?_
                  refine ev_if_neN i_Md_depth_34 (by omega) (fun hc_34 => ?_) (fun hc_34 => ?_)
                  · skip
                    refine ev_iincN_3 (c := 1) i_Md_depth_47 (by decide) rfl ?_
                    refine ev_goto i_Md_depth_50 ?_
                    rw [dpM_s, if_neg (by rw [xy, yy, zy]; decide), Nat.max_zero] at kb
                    exact kb
                  · skip
                    exfalso; omega
          | false =>
            have hrk := rk_lt hR ha (show b < 6 by omega) hc yy (by rw [zy]; decide)
            refine ev_iload_n i_Md_depth_4 rfl ?_
            refine ev_bipushN (v := 6) i_Md_depth_5 (by decide) ?_
            refine ev_icmp_geN i_Md_depth_7 (by omega) (by omega) (fun hc_7 => ?_) (fun hc_7 => ?_)
            · skip
              exfalso; omega
            · skip
              refine ev_aload_n i_Md_depth_10 rfl ?_
              refine ev_iload_n i_Md_depth_11 rfl ?_
              refine ev_iload_n i_Md_depth_12 rfl ?_
              refine ev_callV2 i_Md_depth_13 rfl h0 (Nat.le_of_ble_eq_true rfl) (m_leads_y h0 he (show b < 6 by omega) (show b < 6 by omega) xy) ?_
              refine ev_if_eqN i_Md_depth_16 (by omega) (fun hc_16 => ?_) (fun hc_16 => ?_)
              · skip
                exfalso; omega
              · skip
                refine ev_aload_n i_Md_depth_19 rfl ?_
                refine ev_iload_n i_Md_depth_20 rfl ?_
                refine ev_iload_n i_Md_depth_21 rfl ?_
                refine ev_callV2 i_Md_depth_22 rfl h0 (Nat.le_of_ble_eq_true rfl) (m_leads_y h0 he ha (show b < 6 by omega) yy) ?_
                refine ev_if_eqN i_Md_depth_25 (by omega) (fun hc_25 => ?_) (fun hc_25 => ?_)
                · skip
                  exfalso; omega
                · skip
                  refine ev_aload_n i_Md_depth_28 rfl ?_
                  refine ev_iload_n i_Md_depth_29 rfl ?_
                  refine ev_iload_n i_Md_depth_30 rfl ?_
                  refine ev_callV2 i_Md_depth_31 rfl h0 (Nat.le_of_ble_eq_true rfl) (m_leads_n h0 he (show b < 6 by omega) ha zy) ?_
                  refine ev_if_neN i_Md_depth_34 (by omega) (fun hc_34 => ?_) (fun hc_34 => ?_)
                  · skip
                    exfalso; omega
                  · skip
                    refine ev_iload_n i_Md_depth_37 rfl ?_
                    refine ev_aload_n i_Md_depth_38 rfl ?_
                    refine ev_iload_n i_Md_depth_39 rfl ?_
                    refine ev_callV1 i_Md_depth_40 rfl h0 (Nat.le_of_ble_eq_true rfl) (ih b (show b < 6 by omega) xy (by omega) d) ?_
                    refine ev_callS2 i_Md_depth_43 rfl (Nat.le_of_ble_eq_true rfl) (c_Ma_maxI (by omega) (by omega)) ?_
                    refine ev_ist_n_2 i_Md_depth_46 rfl ?_
                    refine ev_iincN_3 (c := 1) i_Md_depth_47 (by decide) rfl ?_
                    refine ev_goto i_Md_depth_50 ?_
                    rw [dpM_s, if_pos (by rw [xy, yy, zy]; rfl)] at kb
                    exact kb
        | false =>
          refine ev_iload_n i_Md_depth_4 rfl ?_
          refine ev_bipushN (v := 6) i_Md_depth_5 (by decide) ?_
          refine ev_icmp_geN i_Md_depth_7 (by omega) (by omega) (fun hc_7 => ?_) (fun hc_7 => ?_)
          · skip
            exfalso; omega
          · skip
            refine ev_aload_n i_Md_depth_10 rfl ?_
            refine ev_iload_n i_Md_depth_11 rfl ?_
            refine ev_iload_n i_Md_depth_12 rfl ?_
            refine ev_callV2 i_Md_depth_13 rfl h0 (Nat.le_of_ble_eq_true rfl) (m_leads_y h0 he (show b < 6 by omega) (show b < 6 by omega) xy) ?_
            refine ev_if_eqN i_Md_depth_16 (by omega) (fun hc_16 => ?_) (fun hc_16 => ?_)
            · skip
              exfalso; omega
            · skip
              refine ev_aload_n i_Md_depth_19 rfl ?_
              refine ev_iload_n i_Md_depth_20 rfl ?_
              refine ev_iload_n i_Md_depth_21 rfl ?_
              refine ev_callV2 i_Md_depth_22 rfl h0 (Nat.le_of_ble_eq_true rfl) (m_leads_n h0 he ha (show b < 6 by omega) yy) ?_
              refine ev_if_eqN i_Md_depth_25 (by omega) (fun hc_25 => ?_) (fun hc_25 => ?_)
              · skip
                refine ev_iincN_3 (c := 1) i_Md_depth_47 (by decide) rfl ?_
                refine ev_goto i_Md_depth_50 ?_
                rw [dpM_s, if_neg (by rw [xy, yy, Bool.and_false, Bool.false_and]; decide), Nat.max_zero] at kb
                exact kb
              · skip
                exfalso; omega
      | false =>
        refine ev_iload_n i_Md_depth_4 rfl ?_
        refine ev_bipushN (v := 6) i_Md_depth_5 (by decide) ?_
        refine ev_icmp_geN i_Md_depth_7 (by omega) (by omega) (fun hc_7 => ?_) (fun hc_7 => ?_)
        · skip
          exfalso; omega
        · skip
          refine ev_aload_n i_Md_depth_10 rfl ?_
          refine ev_iload_n i_Md_depth_11 rfl ?_
          refine ev_iload_n i_Md_depth_12 rfl ?_
          refine ev_callV2 i_Md_depth_13 rfl h0 (Nat.le_of_ble_eq_true rfl) (m_leads_n h0 he (show b < 6 by omega) (show b < 6 by omega) xy) ?_
          refine ev_if_eqN i_Md_depth_16 (by omega) (fun hc_16 => ?_) (fun hc_16 => ?_)
          · skip
            refine ev_iincN_3 (c := 1) i_Md_depth_47 (by decide) rfl ?_
            refine ev_goto i_Md_depth_50 ?_
            rw [dpM_s, if_neg (by rw [xy, Bool.false_and, Bool.false_and]; decide), Nat.max_zero] at kb
            exact kb
          · skip
            exfalso; omega
    · try dsimp only
      refine ev_iload_n i_Md_depth_4 rfl ?_
      refine ev_bipushN (v := 6) i_Md_depth_5 (by decide) ?_
      refine ev_icmp_geN i_Md_depth_7 (by omega) (by omega) (fun hc_7 => ?_) (fun hc_7 => ?_)
      · skip
        refine ev_iconstN (v := 1) i_Md_depth_53 (by decide) ?_
        refine ev_iload_n i_Md_depth_54 rfl ?_
        first | refine ev_iaddN i_Md_depth_55 ?_ | refine ev_iadd i_Md_depth_55 ?_
        exact ev_iret i_Md_depth_56 rfl (by first | rfl | decide)
      · skip
        exfalso; omega
abbrev RLx (T : TabV) (a b : Nat) : Bool := rcx (edL (ed T)) a b
theorem RLx_tr (T : TabV) : isTr (RLx T) := fun _ _ _ hj h1 h2 => rcx_tr hj h1 h2
theorem dpt_RL {T : TabV} : ∀ (n a : Nat), a < 6 → RT T a a = true → dpt (RLx T) n a = dpt (RT T) n a := by
  intro n
  induction n with
  | zero => intro a _ _; rfl
  | succ n ih =>
    intro a ha hc
    show 1 + maxN _ 6 = 1 + maxN _ 6
    congr 1
    refine maxN_congr (fun b hb => ?_)
    rw [show RLx T b b = RT T b b from leads_self hb, show RLx T b a = RT T b a from leads_cyc hb ha hc]
    by_cases z : RT T b b = true
    · rw [show RLx T a b = RT T a b from leads_cyc ha hb z]
      split
      · exact ih b hb z
      · rfl
    · have z : RT T b b = false := by simpa using z
      rw [z, Bool.false_and, Bool.false_and, Bool.false_and, Bool.false_and]
      rfl
theorem sub1_toInt {A : Nat} (h : A < 2 ^ 31) : (nI A - nI 1).toInt = (A : Int) - 1 := by
  rw [Int32.toInt_sub, nI_toInt h, nI_toInt (by decide)]
  exact Int.bmod_eq_of_le (by omega) (by omega)
theorem c_Ma_max1 {scr : Scr} {l : Launch} {d : Nat} {S : Sto} {A B : Nat} (ha : A < 2 ^ 31) (hb : B < 2 ^ 31) : MetA scr l d M_Ma_maxI [.int (nI A - nI 1), .int (nI B - nI 1)] S (.inl (some (.int (nI (max A B) - nI 1))), S) := by
  refine MetA.ofF rfl (by decide +kernel) (Nat.le_of_ble_eq_true rfl) ?_
  refine ev_iload_n i_Ma_maxI_0 rfl ?_
  refine ev_iload_n i_Ma_maxI_1 rfl ?_
  refine ev_icmp_lt i_Ma_maxI_2 (fun hc => ?_) (fun hc => ?_)
  · rw [Int32.lt_iff_toInt_lt, sub1_toInt ha, sub1_toInt hb] at hc
    rw [show max A B = B by omega]
    refine ev_iload_n i_Ma_maxI_9 rfl ?_
    exact ev_iret i_Ma_maxI_10 rfl (by first | rfl | decide)
  · rw [Int32.lt_iff_toInt_lt, sub1_toInt ha, sub1_toInt hb] at hc
    rw [show max A B = A by omega]
    refine ev_iload_n i_Ma_maxI_5 rfl ?_
    refine ev_goto i_Ma_maxI_6 ?_
    exact ev_iret i_Ma_maxI_10 rfl (by first | rfl | decide)
/-- a letter's share of what comes back -/
theorem back_eq {T : TabV} {a b : Nat} (ha : a < 6) (hb : b < 6) (hc : RT T a a = true) : (if (liv (ed T) b && (decide (b = a) || RLx T b a) && RLx T a b) = true then occ (prd T a) b else 0) = if RT T b a = true then occ (prd T a) b else 0 := by
  by_cases hz : occ (prd T a) b = 0
  · rw [hz]; split <;> split <;> rfl
  have he : ed T a b = true := decide_eq_true (by omega)
  rw [show RLx T b a = RT T b a from leads_cyc hb ha hc]
  by_cases hr : RT T b a = true
  · have hl : liv (ed T) b = true := (livN_I (E := ed T) 6).2 b hb ⟨a, ha, hc, Or.inr hr⟩
    have h2 : RLx T a b = true := (leads_iff ha hb).mpr ⟨rcx_E he, hl⟩
    rw [hr, hl, h2, Bool.or_true]
    rfl
  · have hr' : RT T b a = false := by simpa using hr
    have hne : b ≠ a := fun q => hr (q ▸ hc)
    rw [hr', decide_eq_false hne, Bool.or_false, Bool.and_false, Bool.false_and]
theorem bkM_s {T : TabV} {a i : Nat} : (sumN (fun b => if RT T b a = true then occ (prd T a) b else 0) (i + 1)) = (sumN (fun b => if RT T b a = true then occ (prd T a) b else 0) i) + (if RT T i a = true then occ (prd T a) i else 0) := rfl
theorem bkM_le {T : TabV} {g : Nat → Int32} {t a i : Nat} (hT : MTab g t T) (ht : t < 3) (ha : a < 6) (hi : i ≤ 6) : (sumN (fun b => if RT T b a = true then occ (prd T a) b else 0) i) ≤ 24 := by
  have := sumN_le (f := fun b => if RT T b a = true then occ (prd T a) b else 0) (b := 4) (n := i) (fun u _ => by
    have := occ_lt (b := u) hT ht ha
    split <;> omega)
  omega
theorem lp_back {scr : Scr} {l : Launch} {S : Sto} {t : Nat} {g gw : Nat → Int32} {T : TabV} {xs : List Nat} {q1 q2 q3 q4 q5 q6 q7 : Int32} {fl fe : Nat → Int32} (h0 : S.1[105]? = some (mObj q1 q2 q3 q4 q5 q6 q7)) (hg : S.1[106]? = some (aI 417 g)) (hT : MTab g t T) (ht : t < 3) (hw : S.1[107]? = some (aI 61 gw)) (hx : RowW gw 0 xs) (hl : S.1[119]? = some (aZ 6 (zG (liv (ed T)) fl 6))) (he : S.1[120]? = some (aZ 36 (zG (sq (RLx T)) fe 36))) {d a i : Nat} {D u5 : Int32} {r : Res} (ha : a < 6) (hc : RT T a a = true) (hk : Ev scr l (d + 8) M_Md_grows 169 [some (.ref 105), some (.int (nI t)), some (.int D), some (.int (nI i)), some (.int (nI a)), some (.int u5), some (.int (nI (bk T a))), some (.int (nI 6))] [] S r) : Ev scr l (d + 8) M_Md_grows 99 [some (.ref 105), some (.int (nI t)), some (.int D), some (.int (nI i)), some (.int (nI a)), some (.int u5), some (.int (nI 0)), some (.int (nI 0))] [] S r := by
  refine (show Ev scr l (d + 8) M_Md_grows 99 [some (.ref 105), some (.int (nI t)), some (.int D), some (.int (nI i)), some (.int (nI a)), some (.int u5), some (.int (nI (sumN (fun b => if RT T b a = true then occ (prd T a) b else 0) 0))), some (.int (nI 0))] [] S r → _ from id) ?_
  refine ev_loop (n := 6) (fun b => [some (.ref 105), some (.int (nI t)), some (.int D), some (.int (nI i)), some (.int (nI a)), some (.int u5), some (.int (nI (sumN (fun b => if RT T b a = true then occ (prd T a) b else 0) b))), some (.int (nI b))]) (fun b => S) (fun b hb kb => ?_) ?_
  · try dsimp only at kb ⊢
    have hoc := occ_lt (b := b) hT ht ha
    have hbm := bkM_le (i := b) hT ht ha (by omega)
    cases ly : liv (ed T) b with
    | true =>
      by_cases ba : b = a
      · cases zy : RLx T a b with
        | true =>
          refine ev_iload i_Md_grows_99 rfl ?_
          refine ev_bipushN (v := 6) i_Md_grows_101 (by decide) ?_
          refine ev_icmp_geN i_Md_grows_103 (by omega) (by omega) (fun hc_103 => ?_) (fun hc_103 => ?_)
          · skip
            exfalso; omega
          · skip
            refine ev_iload i_Md_grows_106 rfl ?_
            refine ev_aload_n i_Md_grows_108 rfl ?_
            refine ev_get i_Md_grows_109 h0 rfl ?_
            refine ev_iload i_Md_grows_112 rfl ?_
            refine ev_zaldN i_Md_grows_114 hl (by omega) (by decide) ?_
            rw [zG_at (by omega), ly, bI_t]
            refine ev_if_eqN i_Md_grows_115 (by omega) (fun hc_115 => ?_) (fun hc_115 => ?_)
            · skip
              exfalso; omega
            · skip
              refine ev_iload i_Md_grows_118 rfl ?_
              refine ev_iload i_Md_grows_120 rfl ?_
              refine ev_icmp_eqN i_Md_grows_122 (by omega) (by omega) (fun hc_122 => ?_) (fun hc_122 => ?_)
              · skip
                refine ev_aload_n i_Md_grows_136 rfl ?_
                refine ev_iload i_Md_grows_137 rfl ?_
                refine ev_iload i_Md_grows_139 rfl ?_
                refine ev_callV2 i_Md_grows_141 rfl h0 (Nat.le_of_ble_eq_true rfl) (m_leads_y h0 he ha (show b < 6 by omega) zy) ?_
                refine ev_if_eqN i_Md_grows_144 (by omega) (fun hc_144 => ?_) (fun hc_144 => ?_)
                · skip
                  exfalso; omega
                · skip
                  refine ev_aload_n i_Md_grows_147 rfl ?_
                  refine ev_iload_n i_Md_grows_148 rfl ?_
                  refine ev_iload i_Md_grows_149 rfl ?_
                  refine ev_iload i_Md_grows_151 rfl ?_
                  refine ev_callV3 i_Md_grows_153 rfl h0 (Nat.le_of_ble_eq_true rfl) (m_occurs h0 hg hT ht ha (show b < 6 by omega)) ?_
                  refine ev_goto i_Md_grows_156 ?_
                  first | refine ev_iaddN i_Md_grows_160 ?_ | refine ev_iadd i_Md_grows_160 ?_
                  refine ev_ist_6 i_Md_grows_161 rfl ?_
                  refine ev_iincN_7 (c := 1) i_Md_grows_163 (by decide) rfl ?_
                  refine ev_goto i_Md_grows_166 ?_
                  rw [bkM_s, ← back_eq ha (show b < 6 by omega) hc, if_pos (by rw [ly, zy, decide_eq_true ba]; rfl)] at kb
                  exact kb
              · skip
                exfalso; omega
        | false =>
          refine ev_iload i_Md_grows_99 rfl ?_
          refine ev_bipushN (v := 6) i_Md_grows_101 (by decide) ?_
          refine ev_icmp_geN i_Md_grows_103 (by omega) (by omega) (fun hc_103 => ?_) (fun hc_103 => ?_)
          · skip
            exfalso; omega
          · skip
            refine ev_iload i_Md_grows_106 rfl ?_
            refine ev_aload_n i_Md_grows_108 rfl ?_
            refine ev_get i_Md_grows_109 h0 rfl ?_
            refine ev_iload i_Md_grows_112 rfl ?_
            refine ev_zaldN i_Md_grows_114 hl (by omega) (by decide) ?_
            rw [zG_at (by omega), ly, bI_t]
            refine ev_if_eqN i_Md_grows_115 (by omega) (fun hc_115 => ?_) (fun hc_115 => ?_)
            · skip
              exfalso; omega
            · skip
              refine ev_iload i_Md_grows_118 rfl ?_
              refine ev_iload i_Md_grows_120 rfl ?_
              refine ev_icmp_eqN i_Md_grows_122 (by omega) (by omega) (fun hc_122 => ?_) (fun hc_122 => ?_)
              · skip
                refine ev_aload_n i_Md_grows_136 rfl ?_
                refine ev_iload i_Md_grows_137 rfl ?_
                refine ev_iload i_Md_grows_139 rfl ?_
                refine ev_callV2 i_Md_grows_141 rfl h0 (Nat.le_of_ble_eq_true rfl) (m_leads_n h0 he ha (show b < 6 by omega) zy) ?_
                refine ev_if_eqN i_Md_grows_144 (by omega) (fun hc_144 => ?_) (fun hc_144 => ?_)
                · skip
                  refine ev_iconstN (v := 0) i_Md_grows_159 (by decide) ?_
                  first | refine ev_iaddN i_Md_grows_160 ?_ | refine ev_iadd i_Md_grows_160 ?_
                  refine ev_ist_6 i_Md_grows_161 rfl ?_
                  refine ev_iincN_7 (c := 1) i_Md_grows_163 (by decide) rfl ?_
                  refine ev_goto i_Md_grows_166 ?_
                  rw [bkM_s, ← back_eq ha (show b < 6 by omega) hc, if_neg (by rw [zy, Bool.and_false]; decide), Nat.add_zero] at kb
                  exact kb
                · skip
                  exfalso; omega
              · skip
                exfalso; omega
      · cases yy : RLx T b a with
        | true =>
          cases zy : RLx T a b with
          | true =>
            refine ev_iload i_Md_grows_99 rfl ?_
            refine ev_bipushN (v := 6) i_Md_grows_101 (by decide) ?_
            refine ev_icmp_geN i_Md_grows_103 (by omega) (by omega) (fun hc_103 => ?_) (fun hc_103 => ?_)
            · skip
              exfalso; omega
            · skip
              refine ev_iload i_Md_grows_106 rfl ?_
              refine ev_aload_n i_Md_grows_108 rfl ?_
              refine ev_get i_Md_grows_109 h0 rfl ?_
              refine ev_iload i_Md_grows_112 rfl ?_
              refine ev_zaldN i_Md_grows_114 hl (by omega) (by decide) ?_
              rw [zG_at (by omega), ly, bI_t]
              refine ev_if_eqN i_Md_grows_115 (by omega) (fun hc_115 => ?_) (fun hc_115 => ?_)
              · skip
                exfalso; omega
              · skip
                refine ev_iload i_Md_grows_118 rfl ?_
                refine ev_iload i_Md_grows_120 rfl ?_
                refine ev_icmp_eqN i_Md_grows_122 (by omega) (by omega) (fun hc_122 => ?_) (fun hc_122 => ?_)
                · skip
                  exfalso; omega
                · skip
                  refine ev_aload_n i_Md_grows_125 rfl ?_
                  refine ev_iload i_Md_grows_126 rfl ?_
                  refine ev_iload i_Md_grows_128 rfl ?_
                  refine ev_callV2 i_Md_grows_130 rfl h0 (Nat.le_of_ble_eq_true rfl) (m_leads_y h0 he (show b < 6 by omega) ha yy) ?_
                  refine ev_if_eqN i_Md_grows_133 (by omega) (fun hc_133 => ?_) (fun hc_133 => ?_)
                  · skip
                    exfalso; omega
                  · skip
                    refine ev_aload_n i_Md_grows_136 rfl ?_
                    refine ev_iload i_Md_grows_137 rfl ?_
                    refine ev_iload i_Md_grows_139 rfl ?_
                    refine ev_callV2 i_Md_grows_141 rfl h0 (Nat.le_of_ble_eq_true rfl) (m_leads_y h0 he ha (show b < 6 by omega) zy) ?_
                    refine ev_if_eqN i_Md_grows_144 (by omega) (fun hc_144 => ?_) (fun hc_144 => ?_)
                    · skip
                      exfalso; omega
                    · skip
                      refine ev_aload_n i_Md_grows_147 rfl ?_
                      refine ev_iload_n i_Md_grows_148 rfl ?_
                      refine ev_iload i_Md_grows_149 rfl ?_
                      refine ev_iload i_Md_grows_151 rfl ?_
                      refine ev_callV3 i_Md_grows_153 rfl h0 (Nat.le_of_ble_eq_true rfl) (m_occurs h0 hg hT ht ha (show b < 6 by omega)) ?_
                      refine ev_goto i_Md_grows_156 ?_
                      first | refine ev_iaddN i_Md_grows_160 ?_ | refine ev_iadd i_Md_grows_160 ?_
                      refine ev_ist_6 i_Md_grows_161 rfl ?_
                      refine ev_iincN_7 (c := 1) i_Md_grows_163 (by decide) rfl ?_
                      refine ev_goto i_Md_grows_166 ?_
                      rw [bkM_s, ← back_eq ha (show b < 6 by omega) hc, if_pos (by rw [ly, yy, zy, Bool.or_true]; rfl)] at kb
                      exact kb
          | false =>
            refine ev_iload i_Md_grows_99 rfl ?_
            refine ev_bipushN (v := 6) i_Md_grows_101 (by decide) ?_
            refine ev_icmp_geN i_Md_grows_103 (by omega) (by omega) (fun hc_103 => ?_) (fun hc_103 => ?_)
            · skip
              exfalso; omega
            · skip
              refine ev_iload i_Md_grows_106 rfl ?_
              refine ev_aload_n i_Md_grows_108 rfl ?_
              refine ev_get i_Md_grows_109 h0 rfl ?_
              refine ev_iload i_Md_grows_112 rfl ?_
              refine ev_zaldN i_Md_grows_114 hl (by omega) (by decide) ?_
              rw [zG_at (by omega), ly, bI_t]
              refine ev_if_eqN i_Md_grows_115 (by omega) (fun hc_115 => ?_) (fun hc_115 => ?_)
              · skip
                exfalso; omega
              · skip
                refine ev_iload i_Md_grows_118 rfl ?_
                refine ev_iload i_Md_grows_120 rfl ?_
                refine ev_icmp_eqN i_Md_grows_122 (by omega) (by omega) (fun hc_122 => ?_) (fun hc_122 => ?_)
                · skip
                  exfalso; omega
                · skip
                  refine ev_aload_n i_Md_grows_125 rfl ?_
                  refine ev_iload i_Md_grows_126 rfl ?_
                  refine ev_iload i_Md_grows_128 rfl ?_
                  refine ev_callV2 i_Md_grows_130 rfl h0 (Nat.le_of_ble_eq_true rfl) (m_leads_y h0 he (show b < 6 by omega) ha yy) ?_
                  refine ev_if_eqN i_Md_grows_133 (by omega) (fun hc_133 => ?_) (fun hc_133 => ?_)
                  · skip
                    exfalso; omega
                  · skip
                    refine ev_aload_n i_Md_grows_136 rfl ?_
                    refine ev_iload i_Md_grows_137 rfl ?_
                    refine ev_iload i_Md_grows_139 rfl ?_
                    refine ev_callV2 i_Md_grows_141 rfl h0 (Nat.le_of_ble_eq_true rfl) (m_leads_n h0 he ha (show b < 6 by omega) zy) ?_
                    refine ev_if_eqN i_Md_grows_144 (by omega) (fun hc_144 => ?_) (fun hc_144 => ?_)
                    · skip
                      refine ev_iconstN (v := 0) i_Md_grows_159 (by decide) ?_
                      first | refine ev_iaddN i_Md_grows_160 ?_ | refine ev_iadd i_Md_grows_160 ?_
                      refine ev_ist_6 i_Md_grows_161 rfl ?_
                      refine ev_iincN_7 (c := 1) i_Md_grows_163 (by decide) rfl ?_
                      refine ev_goto i_Md_grows_166 ?_
                      rw [bkM_s, ← back_eq ha (show b < 6 by omega) hc, if_neg (by rw [zy, Bool.and_false]; decide), Nat.add_zero] at kb
                      exact kb
                    · skip
                      exfalso; omega
        | false =>
          refine ev_iload i_Md_grows_99 rfl ?_
          refine ev_bipushN (v := 6) i_Md_grows_101 (by decide) ?_
          refine ev_icmp_geN i_Md_grows_103 (by omega) (by omega) (fun hc_103 => ?_) (fun hc_103 => ?_)
          · skip
            exfalso; omega
          · skip
            refine ev_iload i_Md_grows_106 rfl ?_
            refine ev_aload_n i_Md_grows_108 rfl ?_
            refine ev_get i_Md_grows_109 h0 rfl ?_
            refine ev_iload i_Md_grows_112 rfl ?_
            refine ev_zaldN i_Md_grows_114 hl (by omega) (by decide) ?_
            rw [zG_at (by omega), ly, bI_t]
            refine ev_if_eqN i_Md_grows_115 (by omega) (fun hc_115 => ?_) (fun hc_115 => ?_)
            · skip
              exfalso; omega
            · skip
              refine ev_iload i_Md_grows_118 rfl ?_
              refine ev_iload i_Md_grows_120 rfl ?_
              refine ev_icmp_eqN i_Md_grows_122 (by omega) (by omega) (fun hc_122 => ?_) (fun hc_122 => ?_)
              · skip
                exfalso; omega
              · skip
                refine ev_aload_n i_Md_grows_125 rfl ?_
                refine ev_iload i_Md_grows_126 rfl ?_
                refine ev_iload i_Md_grows_128 rfl ?_
                refine ev_callV2 i_Md_grows_130 rfl h0 (Nat.le_of_ble_eq_true rfl) (m_leads_n h0 he (show b < 6 by omega) ha yy) ?_
                refine ev_if_eqN i_Md_grows_133 (by omega) (fun hc_133 => ?_) (fun hc_133 => ?_)
                · skip
                  refine ev_iconstN (v := 0) i_Md_grows_159 (by decide) ?_
                  first | refine ev_iaddN i_Md_grows_160 ?_ | refine ev_iadd i_Md_grows_160 ?_
                  refine ev_ist_6 i_Md_grows_161 rfl ?_
                  refine ev_iincN_7 (c := 1) i_Md_grows_163 (by decide) rfl ?_
                  refine ev_goto i_Md_grows_166 ?_
                  rw [bkM_s, ← back_eq ha (show b < 6 by omega) hc, if_neg (by rw [yy, decide_eq_false ba, Bool.or_false, Bool.and_false, Bool.false_and]; decide), Nat.add_zero] at kb
                  exact kb
                · skip
                  exfalso; omega
    | false =>
      refine ev_iload i_Md_grows_99 rfl ?_
      refine ev_bipushN (v := 6) i_Md_grows_101 (by decide) ?_
      refine ev_icmp_geN i_Md_grows_103 (by omega) (by omega) (fun hc_103 => ?_) (fun hc_103 => ?_)
      · skip
        exfalso; omega
      · skip
        refine ev_iload i_Md_grows_106 rfl ?_
        refine ev_aload_n i_Md_grows_108 rfl ?_
        refine ev_get i_Md_grows_109 h0 rfl ?_
        refine ev_iload i_Md_grows_112 rfl ?_
        refine ev_zaldN i_Md_grows_114 hl (by omega) (by decide) ?_
        rw [zG_at (by omega), ly, bI_f]
        refine ev_if_eqN i_Md_grows_115 (by omega) (fun hc_115 => ?_) (fun hc_115 => ?_)
        · skip
          refine ev_iconstN (v := 0) i_Md_grows_159 (by decide) ?_
          first | refine ev_iaddN i_Md_grows_160 ?_ | refine ev_iadd i_Md_grows_160 ?_
          refine ev_ist_6 i_Md_grows_161 rfl ?_
          refine ev_iincN_7 (c := 1) i_Md_grows_163 (by decide) rfl ?_
          refine ev_goto i_Md_grows_166 ?_
          rw [bkM_s, ← back_eq ha (show b < 6 by omega) hc, if_neg (by rw [ly, Bool.false_and, Bool.false_and]; decide), Nat.add_zero] at kb
          exact kb
        · skip
          exfalso; omega
  · try dsimp only
    refine ev_iload i_Md_grows_99 rfl ?_
    refine ev_bipushN (v := 6) i_Md_grows_101 (by decide) ?_
    refine ev_icmp_geN i_Md_grows_103 (by omega) (by omega) (fun hc_103 => ?_) (fun hc_103 => ?_)
    · skip
      exact hk
    · skip
      exfalso; omega
theorem bk_le {T : TabV} {g : Nat → Int32} {t a : Nat} (hT : MTab g t T) (ht : t < 3) (ha : a < 6) : bk T a ≤ 24 := bkM_le hT ht ha (Nat.le_refl 6)
theorem mxa_s {T : TabV} {xs : List Nat} {i a : Nat} : (maxN (fun a => if (decide (xs.getD i 0 = a) || RT T (xs.getD i 0) a) = true then gval T a else 0) (a + 1)) = max (maxN (fun a => if (decide (xs.getD i 0 = a) || RT T (xs.getD i 0) a) = true then gval T a else 0) a) (if (decide (xs.getD i 0 = a) || RT T (xs.getD i 0) a) = true then gval T a else 0) := rfl
theorem gp_zero {T : TabV} {x a : Nat} (h : (decide (x = a) || RT T x a) = false ∨ RT T a a = false) : (if (decide (x = a) || RT T x a) = true then gval T a else 0) = 0 := by
  rcases h with h | h
  · rw [if_neg (by rw [h]; decide)]
  · have h0 : gval T a = 0 := by
      unfold gval
      rw [h]; rfl
    rw [h0]
    split <;> rfl
theorem gp_big {T : TabV} {x a : Nat} (h : (decide (x = a) || RT T x a) = true) (hc : RT T a a = true) (hb : 1 < bk T a) : (if (decide (x = a) || RT T x a) = true then gval T a else 0) = 1001 := by
  rw [if_pos h]
  unfold gval
  rw [if_pos hc, if_pos hb]
theorem gp_dp {T : TabV} {x a : Nat} (h : (decide (x = a) || RT T x a) = true) (hc : RT T a a = true) (hb : ¬ 1 < bk T a) : (if (decide (x = a) || RT T x a) = true then gval T a else 0) = dp (RT T) a := by
  rw [if_pos h]
  unfold gval
  rw [if_pos hc, if_neg hb]
theorem mxa_le {T : TabV} {x : Nat} : ∀ a, maxN (fun a => if (decide (x = a) || RT T x a) = true then gval T a else 0) a ≤ 1001 := fun a => maxN_le.mpr (fun b _ => by
  show (if (decide (x = b) || RT T x b) = true then gval T b else 0) ≤ 1001
  have := gval_le (T := T) (a := b)
  split <;> omega)
theorem lp_letters {scr : Scr} {l : Launch} {S : Sto} {t : Nat} {g gw : Nat → Int32} {T : TabV} {xs : List Nat} {q1 q2 q3 q4 q5 q6 q7 : Int32} {fl fe : Nat → Int32} (h0 : S.1[105]? = some (mObj q1 q2 q3 q4 q5 q6 q7)) (hg : S.1[106]? = some (aI 417 g)) (hT : MTab g t T) (ht : t < 3) (hw : S.1[107]? = some (aI 61 gw)) (hx : RowW gw 0 xs) (hl : S.1[119]? = some (aZ 6 (zG (liv (ed T)) fl 6))) (he : S.1[120]? = some (aZ 36 (zG (sq (RLx T)) fe 36))) {d i D0 : Nat} {r : Res} (hi : i < xs.length) (hD : D0 ≤ 1001) (hk : ∀ u5 u6 u7, Ev scr l (d + 8) M_Md_grows 200 [some (.ref 105), some (.int (nI t)), some (.int (nI (max D0 (maxN (fun a => if (decide (xs.getD i 0 = a) || RT T (xs.getD i 0) a) = true then gval T a else 0) 6)) - nI 1)), some (.int (nI (i + 1))), some (.int (nI 6)), u5, u6, u7] [] S r) : ∀ (k a : Nat), a + k = 6 → ∀ u5 u6 u7, Ev scr l (d + 8) M_Md_grows 27 [some (.ref 105), some (.int (nI t)), some (.int (nI (max D0 (maxN (fun a => if (decide (xs.getD i 0 = a) || RT T (xs.getD i 0) a) = true then gval T a else 0) a)) - nI 1)), some (.int (nI (i + 1))), some (.int (nI a)), u5, u6, u7] [] S r := by
  have h60 := hx.2.1
  have ex : ∀ j, j < xs.length → gw (j + 1) = nI (xs.getD j 0) := fun j hj => by rw [show j + 1 = 0 + 1 + j from by omega]; exact (hx.2.2 j hj).1
  have hx6 : ∀ j, j < xs.length → xs.getD j 0 < 6 := fun j hj => (hx.2.2 j hj).2
  have hmx := mxa_le (T := T) (x := xs.getD i 0)
  intro k
  induction k with
  | zero =>
    intro a hak u5 u6 u7
    have z : a = 6 := by omega
    subst z
    refine ev_iload i_Md_grows_27 rfl ?_
    refine ev_bipushN (v := 6) i_Md_grows_29 (by decide) ?_
    refine ev_icmp_geN i_Md_grows_31 (by omega) (by omega) (fun hc_31 => ?_) (fun hc_31 => ?_)
    · skip
      exact hk _ _ _
    · skip
      exfalso; omega
  | succ k ih =>
    intro a hak u5 u6 u7
    have hx6i := hx6 i hi
    have hci := hmx a
    have ihx := ih (a + 1) (by omega)
    cases hc : RT T a a with
    | false =>
      have hcl : RLx T a a = false := (leads_self (show a < 6 by omega)).trans hc
      cases ly : liv (ed T) a with
      | false =>
        refine ev_iload i_Md_grows_27 rfl ?_
        refine ev_bipushN (v := 6) i_Md_grows_29 (by decide) ?_
        refine ev_icmp_geN i_Md_grows_31 (by omega) (by omega) (fun hc_31 => ?_) (fun hc_31 => ?_)
        · skip
          exfalso; omega
        · skip
          refine ev_aload_n i_Md_grows_34 rfl ?_
          refine ev_get i_Md_grows_35 h0 rfl ?_
          refine ev_iload i_Md_grows_38 rfl ?_
          refine ev_zaldN i_Md_grows_40 hl (by omega) (by decide) ?_
          rw [zG_at (by omega), ly, bI_f]
          refine ev_if_eqN i_Md_grows_41 (by omega) (fun hc_41 => ?_) (fun hc_41 => ?_)
          · skip
            refine ev_iconstN (v := 0) i_Md_grows_74 (by decide) ?_
            refine ev_ist_5 i_Md_grows_75 rfl ?_
            refine ev_iload i_Md_grows_77 rfl ?_
            refine ev_if_eqN i_Md_grows_79 (by omega) (fun hc_79 => ?_) (fun hc_79 => ?_)
            · skip
              refine ev_iincN_4 (c := 1) i_Md_grows_194 (by decide) rfl ?_
              refine ev_goto i_Md_grows_197 ?_
              rw [mxa_s, gp_zero (Or.inr hc), Nat.max_zero] at ihx
              exact ihx _ _ _
            · skip
              exfalso; omega
          · skip
            exfalso; omega
      | true =>
        by_cases xa : a = xs.getD i 0
        · skip
          refine ev_iload i_Md_grows_27 rfl ?_
          refine ev_bipushN (v := 6) i_Md_grows_29 (by decide) ?_
          refine ev_icmp_geN i_Md_grows_31 (by omega) (by omega) (fun hc_31 => ?_) (fun hc_31 => ?_)
          · skip
            exfalso; omega
          · skip
            refine ev_aload_n i_Md_grows_34 rfl ?_
            refine ev_get i_Md_grows_35 h0 rfl ?_
            refine ev_iload i_Md_grows_38 rfl ?_
            refine ev_zaldN i_Md_grows_40 hl (by omega) (by decide) ?_
            rw [zG_at (by omega), ly, bI_t]
            refine ev_if_eqN i_Md_grows_41 (by omega) (fun hc_41 => ?_) (fun hc_41 => ?_)
            · skip
              exfalso; omega
            · skip
              refine ev_iload i_Md_grows_44 rfl ?_
              refine ev_aload_n i_Md_grows_46 rfl ?_
              refine ev_get i_Md_grows_47 h0 rfl ?_
              refine ev_iload_n i_Md_grows_50 rfl ?_
              refine ev_ialdN i_Md_grows_51 hw (by omega) (by decide) ?_
              rw [ex i (by omega)]
              refine ev_icmp_eqN i_Md_grows_52 (by omega) (by omega) (fun hc_52 => ?_) (fun hc_52 => ?_)
              · skip
                refine ev_iconstN (v := 1) i_Md_grows_70 (by decide) ?_
                refine ev_goto i_Md_grows_71 ?_
                refine ev_ist_5 i_Md_grows_75 rfl ?_
                refine ev_iload i_Md_grows_77 rfl ?_
                refine ev_if_eqN i_Md_grows_79 (by omega) (fun hc_79 => ?_) (fun hc_79 => ?_)
                · skip
                  exfalso; omega
                · skip
                  refine ev_aload_n i_Md_grows_82 rfl ?_
                  refine ev_iload i_Md_grows_83 rfl ?_
                  refine ev_iload i_Md_grows_85 rfl ?_
                  refine ev_callV2 i_Md_grows_87 rfl h0 (Nat.le_of_ble_eq_true rfl) (m_leads_n h0 he (show a < 6 by omega) (show a < 6 by omega) hcl) ?_
                  refine ev_if_eqN i_Md_grows_90 (by omega) (fun hc_90 => ?_) (fun hc_90 => ?_)
                  · skip
                    refine ev_iincN_4 (c := 1) i_Md_grows_194 (by decide) rfl ?_
                    refine ev_goto i_Md_grows_197 ?_
                    rw [mxa_s, gp_zero (Or.inr hc), Nat.max_zero] at ihx
                    exact ihx _ _ _
                  · skip
                    exfalso; omega
              · skip
                exfalso; omega
        · cases ry : RLx T (xs.getD i 0) a with
          | true =>
            refine ev_iload i_Md_grows_27 rfl ?_
            refine ev_bipushN (v := 6) i_Md_grows_29 (by decide) ?_
            refine ev_icmp_geN i_Md_grows_31 (by omega) (by omega) (fun hc_31 => ?_) (fun hc_31 => ?_)
            · skip
              exfalso; omega
            · skip
              refine ev_aload_n i_Md_grows_34 rfl ?_
              refine ev_get i_Md_grows_35 h0 rfl ?_
              refine ev_iload i_Md_grows_38 rfl ?_
              refine ev_zaldN i_Md_grows_40 hl (by omega) (by decide) ?_
              rw [zG_at (by omega), ly, bI_t]
              refine ev_if_eqN i_Md_grows_41 (by omega) (fun hc_41 => ?_) (fun hc_41 => ?_)
              · skip
                exfalso; omega
              · skip
                refine ev_iload i_Md_grows_44 rfl ?_
                refine ev_aload_n i_Md_grows_46 rfl ?_
                refine ev_get i_Md_grows_47 h0 rfl ?_
                refine ev_iload_n i_Md_grows_50 rfl ?_
                refine ev_ialdN i_Md_grows_51 hw (by omega) (by decide) ?_
                rw [ex i (by omega)]
                refine ev_icmp_eqN i_Md_grows_52 (by omega) (by omega) (fun hc_52 => ?_) (fun hc_52 => ?_)
                · skip
                  exfalso; omega
                · skip
                  refine ev_aload_n i_Md_grows_55 rfl ?_
                  refine ev_aload_n i_Md_grows_56 rfl ?_
                  refine ev_get i_Md_grows_57 h0 rfl ?_
                  refine ev_iload_n i_Md_grows_60 rfl ?_
                  refine ev_ialdN i_Md_grows_61 hw (by omega) (by decide) ?_
                  rw [ex i (by omega)]
                  refine ev_iload i_Md_grows_62 rfl ?_
                  refine ev_callV2 i_Md_grows_64 rfl h0 (Nat.le_of_ble_eq_true rfl) (m_leads_y h0 he hx6i (show a < 6 by omega) ry) ?_
                  refine ev_if_eqN i_Md_grows_67 (by omega) (fun hc_67 => ?_) (fun hc_67 => ?_)
                  · skip
                    exfalso; omega
                  · skip
                    refine ev_iconstN (v := 1) i_Md_grows_70 (by decide) ?_
                    refine ev_goto i_Md_grows_71 ?_
                    refine ev_ist_5 i_Md_grows_75 rfl ?_
                    refine ev_iload i_Md_grows_77 rfl ?_
                    refine ev_if_eqN i_Md_grows_79 (by omega) (fun hc_79 => ?_) (fun hc_79 => ?_)
                    · skip
                      exfalso; omega
                    · skip
                      refine ev_aload_n i_Md_grows_82 rfl ?_
                      refine ev_iload i_Md_grows_83 rfl ?_
                      refine ev_iload i_Md_grows_85 rfl ?_
                      refine ev_callV2 i_Md_grows_87 rfl h0 (Nat.le_of_ble_eq_true rfl) (m_leads_n h0 he (show a < 6 by omega) (show a < 6 by omega) hcl) ?_
                      refine ev_if_eqN i_Md_grows_90 (by omega) (fun hc_90 => ?_) (fun hc_90 => ?_)
                      · skip
                        refine ev_iincN_4 (c := 1) i_Md_grows_194 (by decide) rfl ?_
                        refine ev_goto i_Md_grows_197 ?_
                        rw [mxa_s, gp_zero (Or.inr hc), Nat.max_zero] at ihx
                        exact ihx _ _ _
                      · skip
                        exfalso; omega
          | false =>
            refine ev_iload i_Md_grows_27 rfl ?_
            refine ev_bipushN (v := 6) i_Md_grows_29 (by decide) ?_
            refine ev_icmp_geN i_Md_grows_31 (by omega) (by omega) (fun hc_31 => ?_) (fun hc_31 => ?_)
            · skip
              exfalso; omega
            · skip
              refine ev_aload_n i_Md_grows_34 rfl ?_
              refine ev_get i_Md_grows_35 h0 rfl ?_
              refine ev_iload i_Md_grows_38 rfl ?_
              refine ev_zaldN i_Md_grows_40 hl (by omega) (by decide) ?_
              rw [zG_at (by omega), ly, bI_t]
              refine ev_if_eqN i_Md_grows_41 (by omega) (fun hc_41 => ?_) (fun hc_41 => ?_)
              · skip
                exfalso; omega
              · skip
                refine ev_iload i_Md_grows_44 rfl ?_
                refine ev_aload_n i_Md_grows_46 rfl ?_
                refine ev_get i_Md_grows_47 h0 rfl ?_
                refine ev_iload_n i_Md_grows_50 rfl ?_
                refine ev_ialdN i_Md_grows_51 hw (by omega) (by decide) ?_
                rw [ex i (by omega)]
                refine ev_icmp_eqN i_Md_grows_52 (by omega) (by omega) (fun hc_52 => ?_) (fun hc_52 => ?_)
                · skip
                  exfalso; omega
                · skip
                  refine ev_aload_n i_Md_grows_55 rfl ?_
                  refine ev_aload_n i_Md_grows_56 rfl ?_
                  refine ev_get i_Md_grows_57 h0 rfl ?_
                  refine ev_iload_n i_Md_grows_60 rfl ?_
                  refine ev_ialdN i_Md_grows_61 hw (by omega) (by decide) ?_
                  rw [ex i (by omega)]
                  refine ev_iload i_Md_grows_62 rfl ?_
                  refine ev_callV2 i_Md_grows_64 rfl h0 (Nat.le_of_ble_eq_true rfl) (m_leads_n h0 he hx6i (show a < 6 by omega) ry) ?_
                  refine ev_if_eqN i_Md_grows_67 (by omega) (fun hc_67 => ?_) (fun hc_67 => ?_)
                  · skip
                    refine ev_iconstN (v := 0) i_Md_grows_74 (by decide) ?_
                    refine ev_ist_5 i_Md_grows_75 rfl ?_
                    refine ev_iload i_Md_grows_77 rfl ?_
                    refine ev_if_eqN i_Md_grows_79 (by omega) (fun hc_79 => ?_) (fun hc_79 => ?_)
                    · skip
                      refine ev_iincN_4 (c := 1) i_Md_grows_194 (by decide) rfl ?_
                      refine ev_goto i_Md_grows_197 ?_
                      rw [mxa_s, gp_zero (Or.inr hc), Nat.max_zero] at ihx
                      exact ihx _ _ _
                    · skip
                      exfalso; omega
                  · skip
                    exfalso; omega
    | true =>
      have ly : liv (ed T) a = true := liv_cyc (show a < 6 by omega) hc
      have hcl : RLx T a a = true := (leads_self (show a < 6 by omega)).trans hc
      have hrl : RLx T (xs.getD i 0) a = RT T (xs.getD i 0) a := leads_cyc hx6i (show a < 6 by omega) hc
      have hdp := dp_le (R := RT T) a
      have mdep : ∀ d, MetA scr l (d + 7) M_Md_depth [.ref 105, .int (nI a)] S (.inl (some (.int (nI (dp (RT T) a)))), S) := fun d => by
        have := m_depth (scr := scr) (l := l) h0 he (RLx_tr T) 6 a (by omega) hcl (rk_le _ _) d
        rw [show dp (RLx T) a = dp (RT T) a from dpt_RL 6 a (by omega) hc] at this
        exact this
      by_cases xa : a = xs.getD i 0
      · have hr2 : (decide (xs.getD i 0 = a) || RT T (xs.getD i 0) a) = true := by rw [decide_eq_true xa.symm]; rfl
        refine ev_iload i_Md_grows_27 rfl ?_
        refine ev_bipushN (v := 6) i_Md_grows_29 (by decide) ?_
        refine ev_icmp_geN i_Md_grows_31 (by omega) (by omega) (fun hc_31 => ?_) (fun hc_31 => ?_)
        · skip
          exfalso; omega
        · skip
          refine ev_aload_n i_Md_grows_34 rfl ?_
          refine ev_get i_Md_grows_35 h0 rfl ?_
          refine ev_iload i_Md_grows_38 rfl ?_
          refine ev_zaldN i_Md_grows_40 hl (by omega) (by decide) ?_
          rw [zG_at (by omega), ly, bI_t]
          refine ev_if_eqN i_Md_grows_41 (by omega) (fun hc_41 => ?_) (fun hc_41 => ?_)
          · skip
            exfalso; omega
          · skip
            refine ev_iload i_Md_grows_44 rfl ?_
            refine ev_aload_n i_Md_grows_46 rfl ?_
            refine ev_get i_Md_grows_47 h0 rfl ?_
            refine ev_iload_n i_Md_grows_50 rfl ?_
            refine ev_ialdN i_Md_grows_51 hw (by omega) (by decide) ?_
            rw [ex i (by omega)]
            refine ev_icmp_eqN i_Md_grows_52 (by omega) (by omega) (fun hc_52 => ?_) (fun hc_52 => ?_)
            · skip
              refine ev_iconstN (v := 1) i_Md_grows_70 (by decide) ?_
              refine ev_goto i_Md_grows_71 ?_
              refine ev_ist_5 i_Md_grows_75 rfl ?_
              refine ev_iload i_Md_grows_77 rfl ?_
              refine ev_if_eqN i_Md_grows_79 (by omega) (fun hc_79 => ?_) (fun hc_79 => ?_)
              · skip
                exfalso; omega
              · skip
                refine ev_aload_n i_Md_grows_82 rfl ?_
                refine ev_iload i_Md_grows_83 rfl ?_
                refine ev_iload i_Md_grows_85 rfl ?_
                refine ev_callV2 i_Md_grows_87 rfl h0 (Nat.le_of_ble_eq_true rfl) (m_leads_y h0 he (show a < 6 by omega) (show a < 6 by omega) hcl) ?_
                refine ev_if_eqN i_Md_grows_90 (by omega) (fun hc_90 => ?_) (fun hc_90 => ?_)
                · skip
                  exfalso; omega
                · skip
                  refine ev_iconstN (v := 0) i_Md_grows_93 (by decide) ?_
                  refine ev_ist_6 i_Md_grows_94 rfl ?_
                  refine ev_iconstN (v := 0) i_Md_grows_96 (by decide) ?_
                  refine ev_ist_7 i_Md_grows_97 rfl ?_
                  refine lp_back h0 hg hT ht hw hx hl he (show a < 6 by omega) hc ?_
                  have hbk := bk_le hT ht (show a < 6 by omega)
                  by_cases hb1 : 1 < bk T a
                  · skip
                    refine ev_iload_n i_Md_grows_169 rfl ?_
                    refine ev_iload i_Md_grows_170 rfl ?_
                    refine ev_iconstN (v := 1) i_Md_grows_172 (by decide) ?_
                    refine ev_icmp_leN i_Md_grows_173 (by omega) (by omega) (fun hc_173 => ?_) (fun hc_173 => ?_)
                    · skip
                      exfalso; omega
                    · skip
                      refine ev_sipush (v := nI 1001 - nI 1) i_Md_grows_176 (by decide) ?_
                      refine ev_goto i_Md_grows_179 ?_
                      refine ev_callS2 i_Md_grows_190 rfl (Nat.le_of_ble_eq_true rfl) (c_Ma_max1 (B := 1001) (by omega) (by omega)) ?_
                      refine ev_ist_n_2 i_Md_grows_193 rfl ?_
                      refine ev_iincN_4 (c := 1) i_Md_grows_194 (by decide) rfl ?_
                      refine ev_goto i_Md_grows_197 ?_
                      rw [mxa_s, gp_big hr2 hc hb1] at ihx
                      rw [← Nat.max_assoc] at ihx
                      exact ihx _ _ _
                  · skip
                    refine ev_iload_n i_Md_grows_169 rfl ?_
                    refine ev_iload i_Md_grows_170 rfl ?_
                    refine ev_iconstN (v := 1) i_Md_grows_172 (by decide) ?_
                    refine ev_icmp_leN i_Md_grows_173 (by omega) (by omega) (fun hc_173 => ?_) (fun hc_173 => ?_)
                    · skip
                      refine ev_aload_n i_Md_grows_182 rfl ?_
                      refine ev_iload i_Md_grows_183 rfl ?_
                      refine ev_callV1 i_Md_grows_185 rfl h0 (Nat.le_of_ble_eq_true rfl) (mdep d) ?_
                      refine ev_iconstN (v := 1) i_Md_grows_188 (by decide) ?_
                      refine ev_isub i_Md_grows_189 ?_
                      refine ev_callS2 i_Md_grows_190 rfl (Nat.le_of_ble_eq_true rfl) (c_Ma_max1 (by omega) (by omega)) ?_
                      refine ev_ist_n_2 i_Md_grows_193 rfl ?_
                      refine ev_iincN_4 (c := 1) i_Md_grows_194 (by decide) rfl ?_
                      refine ev_goto i_Md_grows_197 ?_
                      rw [mxa_s, gp_dp hr2 hc hb1] at ihx
                      rw [← Nat.max_assoc] at ihx
                      exact ihx _ _ _
                    · skip
                      exfalso; omega
            · skip
              exfalso; omega
      · cases ry : RT T (xs.getD i 0) a with
        | true =>
          have hr2 : (decide (xs.getD i 0 = a) || RT T (xs.getD i 0) a) = true := by rw [ry, Bool.or_true]
          refine ev_iload i_Md_grows_27 rfl ?_
          refine ev_bipushN (v := 6) i_Md_grows_29 (by decide) ?_
          refine ev_icmp_geN i_Md_grows_31 (by omega) (by omega) (fun hc_31 => ?_) (fun hc_31 => ?_)
          · skip
            exfalso; omega
          · skip
            refine ev_aload_n i_Md_grows_34 rfl ?_
            refine ev_get i_Md_grows_35 h0 rfl ?_
            refine ev_iload i_Md_grows_38 rfl ?_
            refine ev_zaldN i_Md_grows_40 hl (by omega) (by decide) ?_
            rw [zG_at (by omega), ly, bI_t]
            refine ev_if_eqN i_Md_grows_41 (by omega) (fun hc_41 => ?_) (fun hc_41 => ?_)
            · skip
              exfalso; omega
            · skip
              refine ev_iload i_Md_grows_44 rfl ?_
              refine ev_aload_n i_Md_grows_46 rfl ?_
              refine ev_get i_Md_grows_47 h0 rfl ?_
              refine ev_iload_n i_Md_grows_50 rfl ?_
              refine ev_ialdN i_Md_grows_51 hw (by omega) (by decide) ?_
              rw [ex i (by omega)]
              refine ev_icmp_eqN i_Md_grows_52 (by omega) (by omega) (fun hc_52 => ?_) (fun hc_52 => ?_)
              · skip
                exfalso; omega
              · skip
                refine ev_aload_n i_Md_grows_55 rfl ?_
                refine ev_aload_n i_Md_grows_56 rfl ?_
                refine ev_get i_Md_grows_57 h0 rfl ?_
                refine ev_iload_n i_Md_grows_60 rfl ?_
                refine ev_ialdN i_Md_grows_61 hw (by omega) (by decide) ?_
                rw [ex i (by omega)]
                refine ev_iload i_Md_grows_62 rfl ?_
                refine ev_callV2 i_Md_grows_64 rfl h0 (Nat.le_of_ble_eq_true rfl) (m_leads_y h0 he hx6i (show a < 6 by omega) (hrl.trans ry)) ?_
                refine ev_if_eqN i_Md_grows_67 (by omega) (fun hc_67 => ?_) (fun hc_67 => ?_)
                · skip
                  exfalso; omega
                · skip
                  refine ev_iconstN (v := 1) i_Md_grows_70 (by decide) ?_
                  refine ev_goto i_Md_grows_71 ?_
                  refine ev_ist_5 i_Md_grows_75 rfl ?_
                  refine ev_iload i_Md_grows_77 rfl ?_
                  refine ev_if_eqN i_Md_grows_79 (by omega) (fun hc_79 => ?_) (fun hc_79 => ?_)
                  · skip
                    exfalso; omega
                  · skip
                    refine ev_aload_n i_Md_grows_82 rfl ?_
                    refine ev_iload i_Md_grows_83 rfl ?_
                    refine ev_iload i_Md_grows_85 rfl ?_
                    refine ev_callV2 i_Md_grows_87 rfl h0 (Nat.le_of_ble_eq_true rfl) (m_leads_y h0 he (show a < 6 by omega) (show a < 6 by omega) hcl) ?_
                    refine ev_if_eqN i_Md_grows_90 (by omega) (fun hc_90 => ?_) (fun hc_90 => ?_)
                    · skip
                      exfalso; omega
                    · skip
                      refine ev_iconstN (v := 0) i_Md_grows_93 (by decide) ?_
                      refine ev_ist_6 i_Md_grows_94 rfl ?_
                      refine ev_iconstN (v := 0) i_Md_grows_96 (by decide) ?_
                      refine ev_ist_7 i_Md_grows_97 rfl ?_
                      refine lp_back h0 hg hT ht hw hx hl he (show a < 6 by omega) hc ?_
                      have hbk := bk_le hT ht (show a < 6 by omega)
                      by_cases hb1 : 1 < bk T a
                      · skip
                        refine ev_iload_n i_Md_grows_169 rfl ?_
                        refine ev_iload i_Md_grows_170 rfl ?_
                        refine ev_iconstN (v := 1) i_Md_grows_172 (by decide) ?_
                        refine ev_icmp_leN i_Md_grows_173 (by omega) (by omega) (fun hc_173 => ?_) (fun hc_173 => ?_)
                        · skip
                          exfalso; omega
                        · skip
                          refine ev_sipush (v := nI 1001 - nI 1) i_Md_grows_176 (by decide) ?_
                          refine ev_goto i_Md_grows_179 ?_
                          refine ev_callS2 i_Md_grows_190 rfl (Nat.le_of_ble_eq_true rfl) (c_Ma_max1 (B := 1001) (by omega) (by omega)) ?_
                          refine ev_ist_n_2 i_Md_grows_193 rfl ?_
                          refine ev_iincN_4 (c := 1) i_Md_grows_194 (by decide) rfl ?_
                          refine ev_goto i_Md_grows_197 ?_
                          rw [mxa_s, gp_big hr2 hc hb1] at ihx
                          rw [← Nat.max_assoc] at ihx
                          exact ihx _ _ _
                      · skip
                        refine ev_iload_n i_Md_grows_169 rfl ?_
                        refine ev_iload i_Md_grows_170 rfl ?_
                        refine ev_iconstN (v := 1) i_Md_grows_172 (by decide) ?_
                        refine ev_icmp_leN i_Md_grows_173 (by omega) (by omega) (fun hc_173 => ?_) (fun hc_173 => ?_)
                        · skip
                          refine ev_aload_n i_Md_grows_182 rfl ?_
                          refine ev_iload i_Md_grows_183 rfl ?_
                          refine ev_callV1 i_Md_grows_185 rfl h0 (Nat.le_of_ble_eq_true rfl) (mdep d) ?_
                          refine ev_iconstN (v := 1) i_Md_grows_188 (by decide) ?_
                          refine ev_isub i_Md_grows_189 ?_
                          refine ev_callS2 i_Md_grows_190 rfl (Nat.le_of_ble_eq_true rfl) (c_Ma_max1 (by omega) (by omega)) ?_
                          refine ev_ist_n_2 i_Md_grows_193 rfl ?_
                          refine ev_iincN_4 (c := 1) i_Md_grows_194 (by decide) rfl ?_
                          refine ev_goto i_Md_grows_197 ?_
                          rw [mxa_s, gp_dp hr2 hc hb1] at ihx
                          rw [← Nat.max_assoc] at ihx
                          exact ihx _ _ _
                        · skip
                          exfalso; omega
        | false =>
          refine ev_iload i_Md_grows_27 rfl ?_
          refine ev_bipushN (v := 6) i_Md_grows_29 (by decide) ?_
          refine ev_icmp_geN i_Md_grows_31 (by omega) (by omega) (fun hc_31 => ?_) (fun hc_31 => ?_)
          · skip
            exfalso; omega
          · skip
            refine ev_aload_n i_Md_grows_34 rfl ?_
            refine ev_get i_Md_grows_35 h0 rfl ?_
            refine ev_iload i_Md_grows_38 rfl ?_
            refine ev_zaldN i_Md_grows_40 hl (by omega) (by decide) ?_
            rw [zG_at (by omega), ly, bI_t]
            refine ev_if_eqN i_Md_grows_41 (by omega) (fun hc_41 => ?_) (fun hc_41 => ?_)
            · skip
              exfalso; omega
            · skip
              refine ev_iload i_Md_grows_44 rfl ?_
              refine ev_aload_n i_Md_grows_46 rfl ?_
              refine ev_get i_Md_grows_47 h0 rfl ?_
              refine ev_iload_n i_Md_grows_50 rfl ?_
              refine ev_ialdN i_Md_grows_51 hw (by omega) (by decide) ?_
              rw [ex i (by omega)]
              refine ev_icmp_eqN i_Md_grows_52 (by omega) (by omega) (fun hc_52 => ?_) (fun hc_52 => ?_)
              · skip
                exfalso; omega
              · skip
                refine ev_aload_n i_Md_grows_55 rfl ?_
                refine ev_aload_n i_Md_grows_56 rfl ?_
                refine ev_get i_Md_grows_57 h0 rfl ?_
                refine ev_iload_n i_Md_grows_60 rfl ?_
                refine ev_ialdN i_Md_grows_61 hw (by omega) (by decide) ?_
                rw [ex i (by omega)]
                refine ev_iload i_Md_grows_62 rfl ?_
                refine ev_callV2 i_Md_grows_64 rfl h0 (Nat.le_of_ble_eq_true rfl) (m_leads_n h0 he hx6i (show a < 6 by omega) (hrl.trans ry)) ?_
                refine ev_if_eqN i_Md_grows_67 (by omega) (fun hc_67 => ?_) (fun hc_67 => ?_)
                · skip
                  refine ev_iconstN (v := 0) i_Md_grows_74 (by decide) ?_
                  refine ev_ist_5 i_Md_grows_75 rfl ?_
                  refine ev_iload i_Md_grows_77 rfl ?_
                  refine ev_if_eqN i_Md_grows_79 (by omega) (fun hc_79 => ?_) (fun hc_79 => ?_)
                  · skip
                    refine ev_iincN_4 (c := 1) i_Md_grows_194 (by decide) rfl ?_
                    refine ev_goto i_Md_grows_197 ?_
                    rw [mxa_s, gp_zero (Or.inl (by rw [decide_eq_false (fun q => xa q.symm), ry]; rfl)), Nat.max_zero] at ihx
                    exact ihx _ _ _
                  · skip
                    exfalso; omega
                · skip
                  exfalso; omega
theorem gi_le {T : TabV} {xs : List Nat} {i : Nat} : (maxN (fun i => (maxN (fun a => if (decide (xs.getD i 0 = a) || RT T (xs.getD i 0) a) = true then gval T a else 0) 6)) i) ≤ 1001 := maxN_le.mpr (fun j _ => mxa_le (T := T) (x := xs.getD j 0) 6)
theorem lp_places {scr : Scr} {l : Launch} {S : Sto} {t : Nat} {g gw : Nat → Int32} {T : TabV} {xs : List Nat} {q1 q2 q3 q4 q5 q6 q7 : Int32} {fl fe : Nat → Int32} (h0 : S.1[105]? = some (mObj q1 q2 q3 q4 q5 q6 q7)) (hg : S.1[106]? = some (aI 417 g)) (hT : MTab g t T) (ht : t < 3) (hw : S.1[107]? = some (aI 61 gw)) (hx : RowW gw 0 xs) (hl : S.1[119]? = some (aZ 6 (zG (liv (ed T)) fl 6))) (he : S.1[120]? = some (aZ 36 (zG (sq (RLx T)) fe 36))) {d : Nat} : ∀ (k i : Nat), i + k = xs.length → ∀ u4 u5 u6 u7, Ev scr l (d + 8) M_Md_grows 14 [some (.ref 105), some (.int (nI t)), some (.int (nI (maxN (fun i => (maxN (fun a => if (decide (xs.getD i 0 = a) || RT T (xs.getD i 0) a) = true then gval T a else 0) 6)) i) - nI 1)), some (.int (nI (i + 1))), u4, u5, u6, u7] [] S (.inl (some (.int (nI (gM T xs) - nI 1))), S) := by
  have h60 := hx.2.1
  intro k
  induction k with
  | zero =>
    intro i hik u4 u5 u6 u7
    have z : i = xs.length := by omega
    subst z
    rw [← gM_places]
    refine ev_iload_n i_Md_grows_14 rfl ?_
    refine ev_aload_n i_Md_grows_15 rfl ?_
    refine ev_get i_Md_grows_16 h0 rfl ?_
    refine ev_iconstN (v := 0) i_Md_grows_19 (by decide) ?_
    refine ev_ialdN i_Md_grows_20 hw (by decide) (by decide) ?_
    rw [hx.1]
    refine ev_icmp_gtN i_Md_grows_21 (by omega) (by omega) (fun hc_21 => ?_) (fun hc_21 => ?_)
    · skip
      refine ev_iload_n i_Md_grows_206 rfl ?_
      exact ev_iret i_Md_grows_207 rfl (by first | rfl | decide)
    · skip
      exfalso; omega
  | succ k ih =>
    intro i hik u4 u5 u6 u7
    refine ev_iload_n i_Md_grows_14 rfl ?_
    refine ev_aload_n i_Md_grows_15 rfl ?_
    refine ev_get i_Md_grows_16 h0 rfl ?_
    refine ev_iconstN (v := 0) i_Md_grows_19 (by decide) ?_
    refine ev_ialdN i_Md_grows_20 hw (by decide) (by decide) ?_
    rw [hx.1]
    refine ev_icmp_gtN i_Md_grows_21 (by omega) (by omega) (fun hc_21 => ?_) (fun hc_21 => ?_)
    · skip
      exfalso; omega
    · skip
      refine ev_iconstN (v := 0) i_Md_grows_24 (by decide) ?_
      refine ev_ist_4 i_Md_grows_25 rfl ?_
      have ihi := ih (i + 1) (by omega)
      have hgi := gi_le (T := T) (xs := xs) (i := i)
      have hlt := lp_letters (scr := scr) (l := l) (d := d) (r := (.inl (some (.int (nI (gM T xs) - nI 1))), S)) (D0 := (maxN (fun i => (maxN (fun a => if (decide (xs.getD i 0 = a) || RT T (xs.getD i 0) a) = true then gval T a else 0) 6)) i)) h0 hg hT ht hw hx hl he (show i < xs.length by omega) hgi (fun u5 u6 u7 => by
        refine ev_iincN_3 (c := 1) i_Md_grows_200 (by decide) rfl ?_
        refine ev_goto i_Md_grows_203 ?_
        exact ihi _ _ _ _) 6 0 (by omega) u5 u6 u7
      rw [show max (maxN (fun i => (maxN (fun a => if (decide (xs.getD i 0 = a) || RT T (xs.getD i 0) a) = true then gval T a else 0) 6)) i) (maxN (fun a => if (decide (xs.getD i 0 = a) || RT T (xs.getD i 0) a) = true then gval T a else 0) 0) = (maxN (fun i => (maxN (fun a => if (decide (xs.getD i 0 = a) || RT T (xs.getD i 0) a) = true then gval T a else 0) 6)) i) from Nat.max_zero _] at hlt
      exact hlt
theorem m_grows {scr : Scr} {l : Launch} {S : Sto} {t : Nat} {g gw : Nat → Int32} {T : TabV} {xs : List Nat} {q1 q2 q3 q4 q5 q6 q7 : Int32} {fl fe : Nat → Int32} (h0 : S.1[105]? = some (mObj q1 q2 q3 q4 q5 q6 q7)) (hg : S.1[106]? = some (aI 417 g)) (hT : MTab g t T) (ht : t < 3) (hw : S.1[107]? = some (aI 61 gw)) (hx : RowW gw 0 xs) (hl : S.1[119]? = some (aZ 6 fl)) (he : S.1[120]? = some (aZ 36 fe)) {d : Nat} : MetA scr l (d + 8) M_Md_grows [.ref 105, .int (nI t)] S (.inl (some (.int (nI (gM T xs) - nI 1))), ((S.put 119 (aZ 6 (zG (liv (ed T)) fl 6))).put 120 (aZ 36 (zG (sq (RLx T)) fe 36)))) := by
  have o1 : (S.put 119 (aZ 6 (zG (liv (ed T)) fl 6))).1[105]? = _ := put_at h0 (by decide)
  have g1 : (S.put 119 (aZ 6 (zG (liv (ed T)) fl 6))).1[106]? = _ := put_at hg (by decide)
  have w1 : (S.put 119 (aZ 6 (zG (liv (ed T)) fl 6))).1[107]? = _ := put_at hw (by decide)
  have l1 : (S.put 119 (aZ 6 (zG (liv (ed T)) fl 6))).1[119]? = _ := put_self hl
  have e1 : (S.put 119 (aZ 6 (zG (liv (ed T)) fl 6))).1[120]? = _ := put_at he (by decide)
  have o2 : ((S.put 119 (aZ 6 (zG (liv (ed T)) fl 6))).put 120 (aZ 36 (zG (sq (RLx T)) fe 36))).1[105]? = _ := put_at o1 (by decide)
  have g2 : ((S.put 119 (aZ 6 (zG (liv (ed T)) fl 6))).put 120 (aZ 36 (zG (sq (RLx T)) fe 36))).1[106]? = _ := put_at g1 (by decide)
  have w2 : ((S.put 119 (aZ 6 (zG (liv (ed T)) fl 6))).put 120 (aZ 36 (zG (sq (RLx T)) fe 36))).1[107]? = _ := put_at w1 (by decide)
  have l2 : ((S.put 119 (aZ 6 (zG (liv (ed T)) fl 6))).put 120 (aZ 36 (zG (sq (RLx T)) fe 36))).1[119]? = _ := put_at l1 (by decide)
  have e2 : ((S.put 119 (aZ 6 (zG (liv (ed T)) fl 6))).put 120 (aZ 36 (zG (sq (RLx T)) fe 36))).1[120]? = _ := put_self e1
  refine MetA.of rfl (by decide +kernel) (Nat.le_of_ble_eq_true rfl) ?_
  refine ev_aload_n i_Md_grows_0 rfl ?_
  refine ev_iload_n i_Md_grows_1 rfl ?_
  refine ev_callV1 i_Md_grows_2 rfl h0 (Nat.le_of_ble_eq_true rfl) (m_living h0 hg hT ht hl) ?_
  refine ev_aload_n i_Md_grows_5 rfl ?_
  refine ev_iload_n i_Md_grows_6 rfl ?_
  refine ev_callV1 i_Md_grows_7 rfl o1 (Nat.le_of_ble_eq_true rfl) (m_findWays o1 g1 hT ht l1 e1) ?_
  refine ev_iconst (v := nI 0 - nI 1) i_Md_grows_10 (by decide) ?_
  refine ev_ist_n_2 i_Md_grows_11 rfl ?_
  refine ev_iconstN (v := 1) i_Md_grows_12 (by decide) ?_
  refine ev_ist_n_3 i_Md_grows_13 rfl ?_
  exact lp_places o2 g2 hT ht w2 hx l2 e2 xs.length 0 (by omega) _ _ _ _

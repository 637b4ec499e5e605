/-! the model m: growth of lengths 2 -/
theorem lp_addk {scr : Scr} {l : Launch} {S : Sto} {t n m b d : Nat} {g : Nat → Int32} {T : TabV} {q1 q2 q3 q4 q5 q6 q7 : Int32} {f f2 : Nat → Int64} {r : Res} (h0 : S.1[105]? = some (mObj q1 q2 q3 q4 q5 q6 q7)) (hg : S.1[106]? = some (aI 417 g)) (hT : MTab g t T) (ht : t < 3) (hc : S.1[117]? = some (aJ 6 f)) (hn2 : S.1[118]? = some (aJ 6 f2)) {a : Nat} (ha : a < 6) : ∀ (k : Nat) (s : Int64), k < 2 ^ 31 → (∀ u, Ev scr l (d + 2) M_Md_count 75 [some (.ref 105), some (.int (nI t)), some (.int (nI m)), some (.int (nI n)), some (.int (nI b)), some (.long (addV (f a) k s)), none, some (.int (nI a)), u] [] S r) → Ev scr l (d + 2) M_Md_count 45 [some (.ref 105), some (.int (nI t)), some (.int (nI m)), some (.int (nI n)), some (.int (nI b)), some (.long s), none, some (.int (nI a)), some (.int (nI k))] [] S r := by
  intro k
  induction k with
  | zero =>
    intro s hk31 hk
    refine ev_iload i_Md_count_45 rfl ?_
    refine ev_if_leN i_Md_count_47 (by omega) (fun hc_47 => ?_) (fun hc_47 => ?_)
    · skip
      exact hk _
    · skip
      exfalso; omega
  | succ k ih =>
    intro s hk31 hk
    refine ev_iload i_Md_count_45 rfl ?_
    refine ev_if_leN i_Md_count_47 (by omega) (fun hc_47 => ?_) (fun hc_47 => ?_)
    · skip
      exfalso; omega
    · skip
      refine ev_lload i_Md_count_50 rfl ?_
      refine ev_lconst (v := 0) i_Md_count_52 (by decide) ?_
      refine ev_lif_lt i_Md_count_53 i_Md_count_54 (fun hc_54 => ?_) (fun hc_54 => ?_)
      · skip
        rw [show addV (f a) (k + 1) s = s from if_pos hc_54] at hk
        exact hk _
      · skip
        refine ev_lload i_Md_count_57 rfl ?_
        refine ev_aload_n i_Md_count_59 rfl ?_
        refine ev_get i_Md_count_60 h0 rfl ?_
        refine ev_iload i_Md_count_63 rfl ?_
        refine ev_laldN i_Md_count_65 hc ha (by decide) ?_
        refine ev_ladd i_Md_count_66 ?_
        refine ev_lst_5 i_Md_count_67 rfl ?_
        refine ev_iinc_8 i_Md_count_69 rfl ?_
        rw [show nI (k + 1) + Int32.ofInt (-1) = nI k from by rw [show Int32.ofInt (-1) = -(nI 1) from rfl, ← Int32.sub_eq_add_neg, nI_sub (by omega)]; rfl]
        refine ev_goto i_Md_count_72 ?_
        refine ih _ (by omega) ?_
        rw [show addV (f a) (k + 1) s = addV (f a) k (s + f a) from if_neg hc_54] at hk
        exact hk
theorem prd_okM {g : Nat → Int32} {t a : Nat} {T : TabV} (hT : MTab g t T) (ht : t < 3) (ha : a < 6) : PrOK (prd T a) := ((hT.1 a ha).2.2.2 0 (hT.1 a ha).2.1).2
theorem lp_suma {scr : Scr} {l : Launch} {S : Sto} {t n m b d : Nat} {g : Nat → Int32} {T : TabV} {q1 q2 q3 q4 q5 q6 q7 : Int32} {f f2 : Nat → Int64} {r : Res} (h0 : S.1[105]? = some (mObj q1 q2 q3 q4 q5 q6 q7)) (hg : S.1[106]? = some (aI 417 g)) (hT : MTab g t T) (ht : t < 3) (hc : S.1[117]? = some (aJ 6 f)) (hn2 : S.1[118]? = some (aJ 6 f2)) (hb : b < 6) (hk : ∀ u, Ev scr l (d + 2) M_Md_count 81 [some (.ref 105), some (.int (nI t)), some (.int (nI m)), some (.int (nI n)), some (.int (nI b)), some (.long (sumV T f b 6)), none, some (.int (nI 6)), u] [] S r) : ∀ (k a : Nat), a + k = 6 → ∀ u, Ev scr l (d + 2) M_Md_count 27 [some (.ref 105), some (.int (nI t)), some (.int (nI m)), some (.int (nI n)), some (.int (nI b)), some (.long (sumV T f b a)), none, some (.int (nI a)), u] [] S r := by
  intro k
  induction k with
  | zero =>
    intro a hak u
    have z : a = 6 := by omega
    subst z
    refine ev_iload i_Md_count_27 rfl ?_
    refine ev_bipushN (v := 6) i_Md_count_29 (by decide) ?_
    refine ev_icmp_geN i_Md_count_31 (by omega) (by omega) (fun hc_31 => ?_) (fun hc_31 => ?_)
    · skip
      exact hk _
    · skip
      exfalso; omega
  | succ k ih =>
    intro a hak u
    refine ev_iload i_Md_count_27 rfl ?_
    refine ev_bipushN (v := 6) i_Md_count_29 (by decide) ?_
    refine ev_icmp_geN i_Md_count_31 (by omega) (by omega) (fun hc_31 => ?_) (fun hc_31 => ?_)
    · skip
      exfalso; omega
    · skip
      refine ev_aload_n i_Md_count_34 rfl ?_
      refine ev_iload_n i_Md_count_35 rfl ?_
      refine ev_iload i_Md_count_36 rfl ?_
      refine ev_iload i_Md_count_38 rfl ?_
      refine ev_callV3 i_Md_count_40 rfl h0 (Nat.le_of_ble_eq_true rfl) (m_occurs h0 hg hT ht (by omega) hb) ?_
      refine ev_ist_8 i_Md_count_43 rfl ?_
      refine lp_addk h0 hg hT ht hc hn2 (by omega) _ _ (Nat.lt_of_le_of_lt (occN_le _ _ _) (by have := (prd_okM hT ht (a := a) (by omega)).1; omega)) (fun u => ?_)
      refine ev_iincN_7 (c := 1) i_Md_count_75 (by decide) rfl ?_
      refine ev_goto i_Md_count_78 ?_
      exact ih (a + 1) (by omega) _
theorem lp_nextb {scr : Scr} {l : Launch} {S : Sto} {t n m d : Nat} {g : Nat → Int32} {T : TabV} {q1 q2 q3 q4 q5 q6 q7 : Int32} {f f2 : Nat → Int64} {r : Res} (h0 : S.1[105]? = some (mObj q1 q2 q3 q4 q5 q6 q7)) (hg : S.1[106]? = some (aI 417 g)) (hT : MTab g t T) (ht : t < 3) (hc : S.1[117]? = some (aJ 6 f)) (hn2 : S.1[118]? = some (aJ 6 f2)) (hk : ∀ u5 u6 u7 u8, Ev scr l (d + 2) M_Md_count 96 [some (.ref 105), some (.int (nI t)), some (.int (nI m)), some (.int (nI n)), some (.int (nI 6)), u5, u6, u7, u8] [] (S.put 118 (aJ 6 (fillF f2 0 (fun b => sumV T f b 6) 6))) r) : ∀ (k b : Nat), b + k = 6 → ∀ u5 u6 u7 u8, Ev scr l (d + 2) M_Md_count 14 [some (.ref 105), some (.int (nI t)), some (.int (nI m)), some (.int (nI n)), some (.int (nI b)), u5, u6, u7, u8] [] (S.put 118 (aJ 6 (fillF f2 0 (fun b => sumV T f b 6) b))) r := by
  intro k
  induction k with
  | zero =>
    intro b hbk u5 u6 u7 u8
    have z : b = 6 := by omega
    subst z
    refine ev_iload i_Md_count_14 rfl ?_
    refine ev_bipushN (v := 6) i_Md_count_16 (by decide) ?_
    refine ev_icmp_geN i_Md_count_18 (by omega) (by omega) (fun hc_18 => ?_) (fun hc_18 => ?_)
    · skip
      exact hk _ _ _ _
    · skip
      exfalso; omega
  | succ k ih =>
    intro b hbk u5 u6 u7 u8
    have o1 : (S.put 118 (aJ 6 (fillF f2 0 (fun b => sumV T f b 6) b))).1[105]? = _ := put_at h0 (by decide)
    have g1 : (S.put 118 (aJ 6 (fillF f2 0 (fun b => sumV T f b 6) b))).1[106]? = _ := put_at hg (by decide)
    have c1 : (S.put 118 (aJ 6 (fillF f2 0 (fun b => sumV T f b 6) b))).1[117]? = _ := put_at hc (by decide)
    have x1 : (S.put 118 (aJ 6 (fillF f2 0 (fun b => sumV T f b 6) b))).1[118]? = _ := put_self hn2
    refine ev_iload i_Md_count_14 rfl ?_
    refine ev_bipushN (v := 6) i_Md_count_16 (by decide) ?_
    refine ev_icmp_geN i_Md_count_18 (by omega) (by omega) (fun hc_18 => ?_) (fun hc_18 => ?_)
    · skip
      exfalso; omega
    · skip
      refine ev_lconst (v := 0) i_Md_count_21 (by decide) ?_
      refine ev_lst_5 i_Md_count_22 rfl ?_
      refine ev_iconstN (v := 0) i_Md_count_24 (by decide) ?_
      refine ev_ist_7 i_Md_count_25 rfl ?_
      refine lp_suma o1 g1 hT ht c1 x1 (show b < 6 by omega) (fun u => ?_) 6 0 (by omega) _
      refine ev_aload_n i_Md_count_81 rfl ?_
      refine ev_get i_Md_count_82 o1 rfl ?_
      refine ev_iload i_Md_count_85 rfl ?_
      refine ev_lload i_Md_count_87 rfl ?_
      refine ev_lastN i_Md_count_89 x1 (by omega) (by decide) ?_
      rw [put_put]
      have eF := fillF_sL f2 0 (fun b => sumV T f b 6) b
      rw [Nat.zero_add] at eF
      rw [eF]
      refine ev_iincN_4 (c := 1) i_Md_count_90 (by decide) rfl ?_
      refine ev_goto i_Md_count_93 ?_
      exact ih (b + 1) (by omega) _ _ _ _
def CntS (S : Sto) (W : Nat → Nat) : Prop := ∃ g1 g2, S.1[117]? = some (aJ 6 (cF W g1)) ∧ S.1[118]? = some (aJ 6 g2)
theorem row_rep {T : TabV} {xs : List Nat} {n : Nat} {g1 : Nat → Int64} (hok : tot T xs n < 2 ^ 63) {b : Nat} : rep (cw T xs (n + 1) b) (sumV T (cF (cw T xs n) g1) b 6) := sumV_rep 6 (fun a ha => ⟨Nat.lt_of_le_of_lt (cw_le_tot ha) hok, cF_at ha⟩)
theorem fill_at {α : Type} {f h : Nat → α} {n i : Nat} (hi : i < n) : fillF f 0 h n i = h i := by
  unfold fillF
  rw [if_pos (by omega), Nat.sub_zero]
theorem totV_congr {f g : Nat → Int64} : ∀ n, (∀ i, i < n → f i = g i) → totV f n = totV g n := by
  intro n
  induction n with
  | zero => intro _; rfl
  | succ n ih =>
    intro h
    unfold totV
    rw [ih (fun i hi => h i (by omega)), h n (by omega)]
theorem row_tot {T : TabV} {xs : List Nat} {n : Nat} {g1 f2 : Nat → Int64} (hok : tot T xs n < 2 ^ 63) : rep (tot T xs (n + 1)) (totV (fillF f2 0 (fun b => sumV T (cF (cw T xs n) g1) b 6) 6) 6) := by
  rw [totV_congr 6 (fun i hi => fill_at hi)]
  exact totV_rep 6 (fun i hi => row_rep hok)
theorem row_cpy {T : TabV} {xs : List Nat} {n : Nat} {g1 f2 : Nat → Int64} (hok : tot T xs n < 2 ^ 63) (hok1 : tot T xs (n + 1) < 2 ^ 63) : va_cpy (fillF f2 0 (fun b => sumV T (cF (cw T xs n) g1) b 6) 6) (cF (cw T xs n) g1) 0 0 6 = cF (cw T xs (n + 1)) g1 := by
  rw [cpy_fill]
  funext j
  unfold cF
  by_cases q : j < 6
  · rw [fill_at q, fill_at q, if_pos q]
    exact (row_rep hok).eq (Nat.lt_of_le_of_lt (cw_le_tot q) hok1)
  · unfold fillF
    rw [if_neg (by omega), if_neg q]
    exact if_neg q
theorem lp_cnt {scr : Scr} {l : Launch} {S : Sto} {t m : Nat} {g : Nat → Int32} {T : TabV} {xs : List Nat} {q1 q2 q3 q4 q5 q6 q7 : Int32} (h0 : S.1[105]? = some (mObj q1 q2 q3 q4 q5 q6 q7)) (hg : S.1[106]? = some (aI 417 g)) (hT : MTab g t T) (ht : t < 3) (hm : m ≤ 1000) (hok : okG T xs m) : ∀ (k n : Nat), n + k = m → ∀ S2, CntS S2 (cw T xs n) → Fr [117, 118] S S2 → ∃ S3, (∀ d u4 u5 u6 u7 u8, Ev scr l (d + 2) M_Md_count 6 [some (.ref 105), some (.int (nI t)), some (.int (nI m)), some (.int (nI n)), u4, u5, u6, u7, u8] [] S2 (.inl (some (.int (nI 1))), S3)) ∧ CntS S3 (cw T xs m) ∧ Fr [117, 118] S S3 := by
  intro k
  induction k with
  | zero =>
    intro n hn S2 hS hF
    have z : n = m := by omega
    subst z
    refine ⟨S2, fun d u4 u5 u6 u7 u8 => ?_, hS, hF⟩
    refine ev_iload_n i_Md_count_6 rfl ?_
    refine ev_iload_n i_Md_count_7 rfl ?_
    refine ev_icmp_geN i_Md_count_8 (by omega) (by omega) (fun hc_8 => ?_) (fun hc_8 => ?_)
    · skip
      refine ev_iconstN (v := 1) i_Md_count_131 (by decide) ?_
      exact ev_iret i_Md_count_132 rfl (by first | rfl | decide)
    · skip
      exfalso; omega
  | succ k ih =>
    intro n hn S2 hS hF
    obtain ⟨g1, f2, c2, x2⟩ := hS
    have o2 := hF.at h0 (show 105 ∉ [117, 118] by decide)
    have g2 := hF.at hg (show 106 ∉ [117, 118] by decide)
    have o3 : (S2.put 118 (aJ 6 (fillF f2 0 (fun b => sumV T (cF (cw T xs n) g1) b 6) 6))).1[105]? = _ := put_at o2 (by decide)
    have x3 : (S2.put 118 (aJ 6 (fillF f2 0 (fun b => sumV T (cF (cw T xs n) g1) b 6) 6))).1[118]? = _ := put_self x2
    have c3 : (S2.put 118 (aJ 6 (fillF f2 0 (fun b => sumV T (cF (cw T xs n) g1) b 6) 6))).1[117]? = _ := put_at c2 (by decide)
    have hokn := hok n (by omega)
    have hrep := row_tot (T := T) (xs := xs) (n := n) (g1 := g1) (f2 := f2) hokn
    have hok1 := hok (n + 1) (by omega)
    obtain ⟨S4, m4, r4⟩ := ih (n + 1) (by omega) ((S2.put 118 (aJ 6 (fillF f2 0 (fun b => sumV T (cF (cw T xs n) g1) b 6) 6))).put 117 (aJ 6 (cF (cw T xs (n + 1)) g1))) ⟨g1, _, put_self c3, put_at x3 (by decide)⟩ ((hF.tr (Fr.put _ _ (by simp))).tr (Fr.put _ _ (by simp)))
    refine ⟨S4, fun d u4 u5 u6 u7 u8 => ?_, r4⟩
    refine ev_iload_n i_Md_count_6 rfl ?_
    refine ev_iload_n i_Md_count_7 rfl ?_
    refine ev_icmp_geN i_Md_count_8 (by omega) (by omega) (fun hc_8 => ?_) (fun hc_8 => ?_)
    · skip
      exfalso; omega
    · skip
      refine ev_iconstN (v := 0) i_Md_count_11 (by decide) ?_
      refine ev_ist_4 i_Md_count_12 rfl ?_
      refine ev_eqS (S1 := S2.put 118 (aJ 6 (fillF f2 0 (fun b => sumV T (cF (cw T xs n) g1) b 6) 0))) (by rw [fillF_0]; exact put_same x2) ?_
      exact lp_nextb o2 g2 hT ht c2 x2 (fun u5 u6 u7 u8 => by
        refine ev_aload_n i_Md_count_96 rfl ?_
        refine ev_get i_Md_count_97 o3 rfl ?_
        refine ev_callS1 i_Md_count_100 rfl (Nat.le_of_ble_eq_true rfl) (m_total x3) ?_
        refine ev_lconst (v := 0) i_Md_count_103 (by decide) ?_
        refine ev_lif_ge i_Md_count_104 i_Md_count_105 (fun hc_105 => ?_) (fun hc_105 => ?_)
        · skip
          refine ev_aload_n i_Md_count_110 rfl ?_
          refine ev_get i_Md_count_111 o3 rfl ?_
          refine ev_iconstN (v := 0) i_Md_count_114 (by decide) ?_
          refine ev_aload_n i_Md_count_115 rfl ?_
          refine ev_get i_Md_count_116 o3 rfl ?_
          refine ev_iconstN (v := 0) i_Md_count_119 (by decide) ?_
          refine ev_bipushN (v := 6) i_Md_count_120 (by decide) ?_
          refine ev_cpyLN i_Md_count_122 rfl (Nat.le_of_ble_eq_true rfl) x3 c3 (by decide) (by decide) (by decide) (by decide) ?_
          rw [row_cpy hokn hok1]
          refine ev_iincN_3 (c := 1) i_Md_count_125 (by decide) rfl ?_
          refine ev_goto i_Md_count_128 ?_
          exact m4 d _ _ _ _ _
        · skip
          exact absurd hok1 (hrep.neg.mp hc_105)) 6 0 (by omega) _ _ _ _
theorem lp_cnt_no {scr : Scr} {l : Launch} {S : Sto} {t m : Nat} {g : Nat → Int32} {T : TabV} {xs : List Nat} {q1 q2 q3 q4 q5 q6 q7 : Int32} (h0 : S.1[105]? = some (mObj q1 q2 q3 q4 q5 q6 q7)) (hg : S.1[106]? = some (aI 417 g)) (hT : MTab g t T) (ht : t < 3) (hm : m ≤ 1000) {m0 : Nat} (hm0 : m0 < m) (hok : okG T xs m0) (hov : ¬ tot T xs (m0 + 1) < 2 ^ 63) : ∀ (k n : Nat), n + k = m0 → ∀ S2, CntS S2 (cw T xs n) → Fr [117, 118] S S2 → ∃ S3, (∀ d u4 u5 u6 u7 u8, Ev scr l (d + 2) M_Md_count 6 [some (.ref 105), some (.int (nI t)), some (.int (nI m)), some (.int (nI n)), u4, u5, u6, u7, u8] [] S2 (.inl (some (.int (nI 0))), S3)) ∧ (∃ W, CntS S3 W) ∧ Fr [117, 118] S S3 := by
  intro k
  induction k with
  | zero =>
    intro n hn S2 hS hF
    have z : n = m0 := by omega
    subst z
    obtain ⟨g1, f2, c2, x2⟩ := hS
    have o2 := hF.at h0 (show 105 ∉ [117, 118] by decide)
    have g2 := hF.at hg (show 106 ∉ [117, 118] by decide)
    have o3 : (S2.put 118 (aJ 6 (fillF f2 0 (fun b => sumV T (cF (cw T xs n) g1) b 6) 6))).1[105]? = _ := put_at o2 (by decide)
    have x3 : (S2.put 118 (aJ 6 (fillF f2 0 (fun b => sumV T (cF (cw T xs n) g1) b 6) 6))).1[118]? = _ := put_self x2
    have c3 : (S2.put 118 (aJ 6 (fillF f2 0 (fun b => sumV T (cF (cw T xs n) g1) b 6) 6))).1[117]? = _ := put_at c2 (by decide)
    have hokn := hok n (by omega)
    have hrep := row_tot (T := T) (xs := xs) (n := n) (g1 := g1) (f2 := f2) hokn
    refine ⟨(S2.put 118 (aJ 6 (fillF f2 0 (fun b => sumV T (cF (cw T xs n) g1) b 6) 6))), fun d u4 u5 u6 u7 u8 => ?_, ⟨_, g1, _, c3, x3⟩, hF.tr (Fr.put _ _ (by simp))⟩
    refine ev_iload_n i_Md_count_6 rfl ?_
    refine ev_iload_n i_Md_count_7 rfl ?_
    refine ev_icmp_geN i_Md_count_8 (by omega) (by omega) (fun hc_8 => ?_) (fun hc_8 => ?_)
    · skip
      exfalso; omega
    · skip
      refine ev_iconstN (v := 0) i_Md_count_11 (by decide) ?_
      refine ev_ist_4 i_Md_count_12 rfl ?_
      refine ev_eqS (S1 := S2.put 118 (aJ 6 (fillF f2 0 (fun b => sumV T (cF (cw T xs n) g1) b 6) 0))) (by rw [fillF_0]; exact put_same x2) ?_
      exact lp_nextb o2 g2 hT ht c2 x2 (fun u5 u6 u7 u8 => by
        refine ev_aload_n i_Md_count_96 rfl ?_
        refine ev_get i_Md_count_97 o3 rfl ?_
        refine ev_callS1 i_Md_count_100 rfl (Nat.le_of_ble_eq_true rfl) (m_total x3) ?_
        refine ev_lconst (v := 0) i_Md_count_103 (by decide) ?_
        refine ev_lif_ge i_Md_count_104 i_Md_count_105 (fun hc_105 => ?_) (fun hc_105 => ?_)
        · skip
          exact absurd (hrep.neg.mpr hov) hc_105
        · skip
          refine ev_iconstN (v := 0) i_Md_count_108 (by decide) ?_
          exact ev_iret i_Md_count_109 rfl (by first | rfl | decide)) 6 0 (by omega) _ _ _ _
  | succ k ih =>
    intro n hn S2 hS hF
    obtain ⟨g1, f2, c2, x2⟩ := hS
    have o2 := hF.at h0 (show 105 ∉ [117, 118] by decide)
    have g2 := hF.at hg (show 106 ∉ [117, 118] by decide)
    have o3 : (S2.put 118 (aJ 6 (fillF f2 0 (fun b => sumV T (cF (cw T xs n) g1) b 6) 6))).1[105]? = _ := put_at o2 (by decide)
    have x3 : (S2.put 118 (aJ 6 (fillF f2 0 (fun b => sumV T (cF (cw T xs n) g1) b 6) 6))).1[118]? = _ := put_self x2
    have c3 : (S2.put 118 (aJ 6 (fillF f2 0 (fun b => sumV T (cF (cw T xs n) g1) b 6) 6))).1[117]? = _ := put_at c2 (by decide)
    have hokn := hok n (by omega)
    have hrep := row_tot (T := T) (xs := xs) (n := n) (g1 := g1) (f2 := f2) hokn
    have hok1 := hok (n + 1) (by omega)
    obtain ⟨S4, m4, r4⟩ := ih (n + 1) (by omega) ((S2.put 118 (aJ 6 (fillF f2 0 (fun b => sumV T (cF (cw T xs n) g1) b 6) 6))).put 117 (aJ 6 (cF (cw T xs (n + 1)) g1))) ⟨g1, _, put_self c3, put_at x3 (by decide)⟩ ((hF.tr (Fr.put _ _ (by simp))).tr (Fr.put _ _ (by simp)))
    refine ⟨S4, fun d u4 u5 u6 u7 u8 => ?_, r4⟩
    refine ev_iload_n i_Md_count_6 rfl ?_
    refine ev_iload_n i_Md_count_7 rfl ?_
    refine ev_icmp_geN i_Md_count_8 (by omega) (by omega) (fun hc_8 => ?_) (fun hc_8 => ?_)
    · skip
      exfalso; omega
    · skip
      refine ev_iconstN (v := 0) i_Md_count_11 (by decide) ?_
      refine ev_ist_4 i_Md_count_12 rfl ?_
      refine ev_eqS (S1 := S2.put 118 (aJ 6 (fillF f2 0 (fun b => sumV T (cF (cw T xs n) g1) b 6) 0))) (by rw [fillF_0]; exact put_same x2) ?_
      exact lp_nextb o2 g2 hT ht c2 x2 (fun u5 u6 u7 u8 => by
        refine ev_aload_n i_Md_count_96 rfl ?_
        refine ev_get i_Md_count_97 o3 rfl ?_
        refine ev_callS1 i_Md_count_100 rfl (Nat.le_of_ble_eq_true rfl) (m_total x3) ?_
        refine ev_lconst (v := 0) i_Md_count_103 (by decide) ?_
        refine ev_lif_ge i_Md_count_104 i_Md_count_105 (fun hc_105 => ?_) (fun hc_105 => ?_)
        · skip
          refine ev_aload_n i_Md_count_110 rfl ?_
          refine ev_get i_Md_count_111 o3 rfl ?_
          refine ev_iconstN (v := 0) i_Md_count_114 (by decide) ?_
          refine ev_aload_n i_Md_count_115 rfl ?_
          refine ev_get i_Md_count_116 o3 rfl ?_
          refine ev_iconstN (v := 0) i_Md_count_119 (by decide) ?_
          refine ev_bipushN (v := 6) i_Md_count_120 (by decide) ?_
          refine ev_cpyLN i_Md_count_122 rfl (Nat.le_of_ble_eq_true rfl) x3 c3 (by decide) (by decide) (by decide) (by decide) ?_
          rw [row_cpy hokn hok1]
          refine ev_iincN_3 (c := 1) i_Md_count_125 (by decide) rfl ?_
          refine ev_goto i_Md_count_128 ?_
          exact m4 d _ _ _ _ _
        · skip
          exact absurd hok1 (hrep.neg.mp hc_105)) 6 0 (by omega) _ _ _ _
theorem m_count {scr : Scr} {l : Launch} {S : Sto} {t m : Nat} {g : Nat → Int32} {T : TabV} {xs : List Nat} {q1 q2 q3 q4 q5 q6 q7 : Int32} (h0 : S.1[105]? = some (mObj q1 q2 q3 q4 q5 q6 q7)) (hg : S.1[106]? = some (aI 417 g)) (hT : MTab g t T) (ht : t < 3) (hm : m ≤ 1000) {gw : Nat → Int32} {f1 f2 : Nat → Int64} (hw : S.1[107]? = some (aI 61 gw)) (hx : RowW gw 0 xs) (hc : S.1[117]? = some (aJ 6 f1)) (hn2 : S.1[118]? = some (aJ 6 f2)) : (okG T xs m → ∃ S3, (∀ d, MetA scr l (d + 2) M_Md_count [.ref 105, .int (nI t), .int (nI m)] S (.inl (some (.int (nI 1))), S3)) ∧ CntS S3 (cw T xs m) ∧ Fr [117, 118] S S3) ∧ (¬ okG T xs m → ∃ S3, (∀ d, MetA scr l (d + 2) M_Md_count [.ref 105, .int (nI t), .int (nI m)] S (.inl (some (.int (nI 0))), S3)) ∧ (∃ W, CntS S3 W) ∧ Fr [117, 118] S S3) := by
  have hF : Fr [117, 118] S (S.put 117 (aJ 6 (cF (fun b => occ xs b) f1))) := Fr.put _ _ (by simp)
  have hS : CntS (S.put 117 (aJ 6 (cF (fun b => occ xs b) f1))) (cw T xs 0) := ⟨f1, f2, put_self hc, put_at hn2 (by decide)⟩
  have h60 := hx.2.1
  have ht0 : tot T xs 0 < 2 ^ 63 := by rw [tot_0 (fun u hu => (hx.2.2 u hu).2)]; omega
  refine ⟨fun hok => ?_, fun hno => ?_⟩
  · obtain ⟨S3, m3, r3⟩ := lp_cnt (scr := scr) (l := l) h0 hg hT ht hm hok m 0 (by omega) _ hS hF
    refine ⟨S3, fun d => ?_, r3⟩
    refine MetA.of rfl (by decide +kernel) (Nat.le_of_ble_eq_true rfl) ?_
    refine ev_aload_n i_Md_count_0 rfl ?_
    refine ev_callV0 i_Md_count_1 rfl h0 (Nat.le_of_ble_eq_true rfl) (m_countWord h0 hw hx hc) ?_
    refine ev_iconstN (v := 0) i_Md_count_4 (by decide) ?_
    refine ev_ist_n_3 i_Md_count_5 rfl ?_
    exact m3 d _ _ _ _ _
  · rcases first_or (fun m => decide (¬ tot T xs (m + 1) < 2 ^ 63)) m with hf | ⟨m0, hm0, hov, hf⟩
    · exact absurd (fun j hj => by
        cases j with
        | zero => exact ht0
        | succ j => simpa using hf j (by omega)) hno
    · have hov : ¬ tot T xs (m0 + 1) < 2 ^ 63 := by simpa using hov
      have hok : okG T xs m0 := fun j hj => by
        cases j with
        | zero => exact ht0
        | succ j => simpa using hf j (by omega)
      obtain ⟨S3, m3, r3⟩ := lp_cnt_no (scr := scr) (l := l) h0 hg hT ht hm hm0 hok hov m0 0 (by omega) _ hS hF
      refine ⟨S3, fun d => ?_, r3⟩
      refine MetA.of rfl (by decide +kernel) (Nat.le_of_ble_eq_true rfl) ?_
      refine ev_aload_n i_Md_count_0 rfl ?_
      refine ev_callV0 i_Md_count_1 rfl h0 (Nat.le_of_ble_eq_true rfl) (m_countWord h0 hw hx hc) ?_
      refine ev_iconstN (v := 0) i_Md_count_4 (by decide) ?_
      refine ev_ist_n_3 i_Md_count_5 rfl ?_
      exact m3 d _ _ _ _ _
theorem tot_val {T : TabV} {xs : List Nat} {n : Nat} {g : Nat → Int64} (h : tot T xs n < 2 ^ 63) : totV (cF (cw T xs n) g) 6 = nL (tot T xs n) := (totV_rep 6 (fun i hi => Or.inl ⟨Nat.lt_of_le_of_lt (cw_le_tot hi) h, cF_at hi⟩)).eq h
theorem in1000 {q : Int32} (h : ¬ inR 1001 q) : ¬ inB q (nI 0) (nI 1000) := fun z => h ((inR_inB (n := 1001) (by decide) (by decide)).mpr z)
theorem in1000y {n : Nat} (h : n < 1001) : inB (nI n) (nI 0) (nI 1000) := (inR_inB (n := 1001) (by decide) (by decide)).mp (inR.of (by decide) h)
theorem m_lenAfter_1 {scr : Scr} {l : Launch} {S : Sto} {σ : Sg} {th : Nat} {x y : Int32} (h : MInv th σ S) (hx : ¬ inR 3 x) : MRun scr l 4 M_Md_lengthAfter [.ref 105, .int x, .int y] S (some (.long 0)) 1 σ := by
  refine MRun.th h (fun dr mo sc h0 d => ?_)
  have o1 : (S.put 105 (mO 1 σ dr mo sc)).1[105]? = _ := put_self h0
  refine MetA.of rfl (by decide +kernel) (Nat.le_of_ble_eq_true rfl) ?_
  refine ev_aload_n i_Md_lengthAfter_0 rfl ?_
  refine ev_iload_n i_Md_lengthAfter_1 rfl ?_
  refine ev_callS1 i_Md_lengthAfter_2 rfl (Nat.le_of_ble_eq_true rfl) (m_isTable.2 hx) ?_
  refine ev_if_neN i_Md_lengthAfter_5 (by omega) (fun hc_5 => ?_) (fun hc_5 => ?_)
  · skip
    exfalso; omega
  · skip
    refine ev_iconstN (v := 1) i_Md_lengthAfter_8 (by decide) ?_
    refine ev_goto i_Md_lengthAfter_9 ?_
    refine ev_mput_thrown i_Md_lengthAfter_53 h0 ?_
    refine ev_aload_n i_Md_lengthAfter_56 rfl ?_
    refine ev_get i_Md_lengthAfter_57 o1 rfl ?_
    refine ev_if_leN i_Md_lengthAfter_60 (by omega) (fun hc_60 => ?_) (fun hc_60 => ?_)
    · skip
      exfalso; omega
    · skip
      refine ev_lconst (v := 0) i_Md_lengthAfter_63 (by decide) ?_
      refine ev_goto i_Md_lengthAfter_64 ?_
      exact ev_lret i_Md_lengthAfter_74 rfl
theorem m_lenAfter_2 {scr : Scr} {l : Launch} {S : Sto} {σ : Sg} {th : Nat} {t : Nat} {y : Int32} (h : MInv th σ S) (ht : t < 3) (hy : ¬ inR 1001 y) : MRun scr l 4 M_Md_lengthAfter [.ref 105, .int (nI t), .int y] S (some (.long 0)) 2 σ := by
  refine MRun.th h (fun dr mo sc h0 d => ?_)
  have o1 : (S.put 105 (mO 2 σ dr mo sc)).1[105]? = _ := put_self h0
  refine MetA.of rfl (by decide +kernel) (Nat.le_of_ble_eq_true rfl) ?_
  refine ev_aload_n i_Md_lengthAfter_0 rfl ?_
  refine ev_iload_n i_Md_lengthAfter_1 rfl ?_
  refine ev_callS1 i_Md_lengthAfter_2 rfl (Nat.le_of_ble_eq_true rfl) (m_isTable.1 (inR.of (by decide) ht)) ?_
  refine ev_if_neN i_Md_lengthAfter_5 (by omega) (fun hc_5 => ?_) (fun hc_5 => ?_)
  · skip
    refine ev_iload_n i_Md_lengthAfter_12 rfl ?_
    refine ev_iconstN (v := 0) i_Md_lengthAfter_13 (by decide) ?_
    refine ev_sipushN (v := 1000) i_Md_lengthAfter_14 (by decide) ?_
    refine ev_callS3 i_Md_lengthAfter_17 rfl (Nat.le_of_ble_eq_true rfl) (m_in.2 (in1000 hy)) ?_
    refine ev_if_neN i_Md_lengthAfter_20 (by omega) (fun hc_20 => ?_) (fun hc_20 => ?_)
    · skip
      exfalso; omega
    · skip
      refine ev_iconstN (v := 2) i_Md_lengthAfter_23 (by decide) ?_
      refine ev_goto i_Md_lengthAfter_24 ?_
      refine ev_mput_thrown i_Md_lengthAfter_53 h0 ?_
      refine ev_aload_n i_Md_lengthAfter_56 rfl ?_
      refine ev_get i_Md_lengthAfter_57 o1 rfl ?_
      refine ev_if_leN i_Md_lengthAfter_60 (by omega) (fun hc_60 => ?_) (fun hc_60 => ?_)
      · skip
        exfalso; omega
      · skip
        refine ev_lconst (v := 0) i_Md_lengthAfter_63 (by decide) ?_
        refine ev_goto i_Md_lengthAfter_64 ?_
        exact ev_lret i_Md_lengthAfter_74 rfl
  · skip
    exfalso; omega
theorem m_lenAfter_3 {scr : Scr} {l : Launch} {S : Sto} {σ : Sg} {th : Nat} {t n : Nat} (h : MInv th σ S) (ht : t < 3) (hn : n < 1001) (hf : ¬ fitT (σ.2.1.1 t)) : MRun scr l 4 M_Md_lengthAfter [.ref 105, .int (nI t), .int (nI n)] S (some (.long 0)) 3 σ := by
  refine MRun.th h (fun dr mo sc h0 d => ?_)
  have o1 : (S.put 105 (mO 3 σ dr mo sc)).1[105]? = _ := put_self h0
  refine MetA.of rfl (by decide +kernel) (Nat.le_of_ble_eq_true rfl) ?_
  refine ev_aload_n i_Md_lengthAfter_0 rfl ?_
  refine ev_iload_n i_Md_lengthAfter_1 rfl ?_
  refine ev_callS1 i_Md_lengthAfter_2 rfl (Nat.le_of_ble_eq_true rfl) (m_isTable.1 (inR.of (by decide) ht)) ?_
  refine ev_if_neN i_Md_lengthAfter_5 (by omega) (fun hc_5 => ?_) (fun hc_5 => ?_)
  · skip
    refine ev_iload_n i_Md_lengthAfter_12 rfl ?_
    refine ev_iconstN (v := 0) i_Md_lengthAfter_13 (by decide) ?_
    refine ev_sipushN (v := 1000) i_Md_lengthAfter_14 (by decide) ?_
    refine ev_callS3 i_Md_lengthAfter_17 rfl (Nat.le_of_ble_eq_true rfl) (m_in.1 (in1000y hn)) ?_
    refine ev_if_neN i_Md_lengthAfter_20 (by omega) (fun hc_20 => ?_) (fun hc_20 => ?_)
    · skip
      refine ev_aload_n i_Md_lengthAfter_27 rfl ?_
      refine ev_iload_n i_Md_lengthAfter_28 rfl ?_
      refine ev_callV1 i_Md_lengthAfter_29 rfl h0 (Nat.le_of_ble_eq_true rfl) ((m_unfit h ht).2 hf) ?_
      refine ev_if_leN i_Md_lengthAfter_32 (by omega) (fun hc_32 => ?_) (fun hc_32 => ?_)
      · skip
        exfalso; omega
      · skip
        refine ev_iconstN (v := 3) i_Md_lengthAfter_35 (by decide) ?_
        refine ev_goto i_Md_lengthAfter_36 ?_
        refine ev_mput_thrown i_Md_lengthAfter_53 h0 ?_
        refine ev_aload_n i_Md_lengthAfter_56 rfl ?_
        refine ev_get i_Md_lengthAfter_57 o1 rfl ?_
        refine ev_if_leN i_Md_lengthAfter_60 (by omega) (fun hc_60 => ?_) (fun hc_60 => ?_)
        · skip
          exfalso; omega
        · skip
          refine ev_lconst (v := 0) i_Md_lengthAfter_63 (by decide) ?_
          refine ev_goto i_Md_lengthAfter_64 ?_
          exact ev_lret i_Md_lengthAfter_74 rfl
    · skip
      exfalso; omega
  · skip
    exfalso; omega
theorem m_lenAfter {scr : Scr} {l : Launch} {S : Sto} {σ : Sg} {th : Nat} {t n : Nat} (h : MInv th σ S) (ht : t < 3) (hn : n < 1001) (hf : fitT (σ.2.1.1 t)) : (okG (σ.2.1.1 t) σ.2.1.2.1 n → MRun scr l 4 M_Md_lengthAfter [.ref 105, .int (nI t), .int (nI n)] S (some (.long (nL (tot (σ.2.1.1 t) σ.2.1.2.1 n)))) 0 σ) ∧ (¬ okG (σ.2.1.1 t) σ.2.1.2.1 n → MRun scr l 4 M_Md_lengthAfter [.ref 105, .int (nI t), .int (nI n)] S (some (.long 0)) 4 σ) := by
  obtain ⟨dr, mo, sc, h0⟩ := h.get
  obtain ⟨⟨g, tb, t2⟩, ⟨gw, wd, hx⟩, -⟩ := h.2.2.1
  obtain ⟨f1, f2, hc, hn2⟩ : ∃ f1 f2, S.1[117]? = some (aJ 6 f1) ∧ S.1[118]? = some (aJ 6 f2) := by
    obtain ⟨f1, f5, f6, f7, f8, f9, f3, f4, l1, l2, l3, e1, e2, e3, e4, h1, h2, h3, hrest⟩ := h.2.2.2.2.2
    exact ⟨l1, l2, h2, h3⟩
  have hm := m_count (scr := scr) (l := l) (m := n) h0 tb (t2 t ht) ht (by omega) wd hx hc hn2
  refine ⟨fun hok => ?_, fun hok => ?_⟩
  · obtain ⟨S3, m3, ⟨g1, g2, c3, x3⟩, f3⟩ := hm.1 hok
    have hon := hok n (Nat.le_refl n)
    have h3 := f3.at h0 (show 105 ∉ [117, 118] by decide)
    have o4 : (S3.put 105 (mO 0 σ dr mo sc)).1[105]? = _ := put_self h3
    have c4 : (S3.put 105 (mO 0 σ dr mo sc)).1[117]? = _ := put_at c3 (by decide)
    have x4 : (S3.put 105 (mO 0 σ dr mo sc)).1[118]? = _ := put_at x3 (by decide)
    have hF : Fr [105, 117, 118] S (S3.put 105 (mO 0 σ dr mo sc)) := (f3.mono (by simp)).tr (Fr.put _ _ (by simp))
    refine ⟨(S3.put 105 (mO 0 σ dr mo sc)), fun d => ?_, h.scr hF (by simp) ⟨dr, mo, sc, o4⟩ (h.2.2.2.2.2.up hF (Or.inl (by decide)) (Or.inr ⟨_, c4⟩) (Or.inr ⟨_, x4⟩) (Or.inl (by decide)) (Or.inl (by decide)) (Or.inl (by decide)) (Or.inl (by decide)) (Or.inl (by decide)) (Or.inl (by decide)) (Or.inl (by decide)) (Or.inl (by decide)) (Or.inl (by decide)) (Or.inl (by decide)) (Or.inl (by decide)) (Or.inl (by decide))), hF.m (by decide)⟩
    refine MetA.of rfl (by decide +kernel) (Nat.le_of_ble_eq_true rfl) ?_
    refine ev_aload_n i_Md_lengthAfter_0 rfl ?_
    refine ev_iload_n i_Md_lengthAfter_1 rfl ?_
    refine ev_callS1 i_Md_lengthAfter_2 rfl (Nat.le_of_ble_eq_true rfl) (m_isTable.1 (inR.of (by decide) ht)) ?_
    refine ev_if_neN i_Md_lengthAfter_5 (by omega) (fun hc_5 => ?_) (fun hc_5 => ?_)
    · skip
      refine ev_iload_n i_Md_lengthAfter_12 rfl ?_
      refine ev_iconstN (v := 0) i_Md_lengthAfter_13 (by decide) ?_
      refine ev_sipushN (v := 1000) i_Md_lengthAfter_14 (by decide) ?_
      refine ev_callS3 i_Md_lengthAfter_17 rfl (Nat.le_of_ble_eq_true rfl) (m_in.1 (in1000y hn)) ?_
      refine ev_if_neN i_Md_lengthAfter_20 (by omega) (fun hc_20 => ?_) (fun hc_20 => ?_)
      · skip
        refine ev_aload_n i_Md_lengthAfter_27 rfl ?_
        refine ev_iload_n i_Md_lengthAfter_28 rfl ?_
        refine ev_callV1 i_Md_lengthAfter_29 rfl h0 (Nat.le_of_ble_eq_true rfl) ((m_unfit h ht).1 hf) ?_
        refine ev_if_leN i_Md_lengthAfter_32 (by omega) (fun hc_32 => ?_) (fun hc_32 => ?_)
        · skip
          refine ev_aload_n i_Md_lengthAfter_39 rfl ?_
          refine ev_iload_n i_Md_lengthAfter_40 rfl ?_
          refine ev_iload_n i_Md_lengthAfter_41 rfl ?_
          refine ev_callV2 i_Md_lengthAfter_42 rfl h0 (Nat.le_of_ble_eq_true rfl) (m3 _) ?_
          refine ev_if_neN i_Md_lengthAfter_45 (by omega) (fun hc_45 => ?_) (fun hc_45 => ?_)
          · skip
            refine ev_iconstN (v := 0) i_Md_lengthAfter_52 (by decide) ?_
            refine ev_mput_thrown i_Md_lengthAfter_53 h3 ?_
            refine ev_aload_n i_Md_lengthAfter_56 rfl ?_
            refine ev_get i_Md_lengthAfter_57 o4 rfl ?_
            refine ev_if_leN i_Md_lengthAfter_60 (by omega) (fun hc_60 => ?_) (fun hc_60 => ?_)
            · skip
              refine ev_aload_n i_Md_lengthAfter_67 rfl ?_
              refine ev_get i_Md_lengthAfter_68 o4 rfl ?_
              refine ev_callS1 i_Md_lengthAfter_71 rfl (Nat.le_of_ble_eq_true rfl) (m_total c4) ?_
              rw [tot_val hon]
              exact ev_lret i_Md_lengthAfter_74 rfl
            · skip
              exfalso; omega
          · skip
            exfalso; omega
        · skip
          exfalso; omega
      · skip
        exfalso; omega
    · skip
      exfalso; omega
  · obtain ⟨S3, m3, ⟨W, g1, g2, c3, x3⟩, f3⟩ := hm.2 hok
    have h3 := f3.at h0 (show 105 ∉ [117, 118] by decide)
    have o4 : (S3.put 105 (mO 4 σ dr mo sc)).1[105]? = _ := put_self h3
    have c4 : (S3.put 105 (mO 4 σ dr mo sc)).1[117]? = _ := put_at c3 (by decide)
    have x4 : (S3.put 105 (mO 4 σ dr mo sc)).1[118]? = _ := put_at x3 (by decide)
    have hF : Fr [105, 117, 118] S (S3.put 105 (mO 4 σ dr mo sc)) := (f3.mono (by simp)).tr (Fr.put _ _ (by simp))
    refine ⟨(S3.put 105 (mO 4 σ dr mo sc)), fun d => ?_, h.scr hF (by simp) ⟨dr, mo, sc, o4⟩ (h.2.2.2.2.2.up hF (Or.inl (by decide)) (Or.inr ⟨_, c4⟩) (Or.inr ⟨_, x4⟩) (Or.inl (by decide)) (Or.inl (by decide)) (Or.inl (by decide)) (Or.inl (by decide)) (Or.inl (by decide)) (Or.inl (by decide)) (Or.inl (by decide)) (Or.inl (by decide)) (Or.inl (by decide)) (Or.inl (by decide)) (Or.inl (by decide)) (Or.inl (by decide))), hF.m (by decide)⟩
    refine MetA.of rfl (by decide +kernel) (Nat.le_of_ble_eq_true rfl) ?_
    refine ev_aload_n i_Md_lengthAfter_0 rfl ?_
    refine ev_iload_n i_Md_lengthAfter_1 rfl ?_
    refine ev_callS1 i_Md_lengthAfter_2 rfl (Nat.le_of_ble_eq_true rfl) (m_isTable.1 (inR.of (by decide) ht)) ?_
    refine ev_if_neN i_Md_lengthAfter_5 (by omega) (fun hc_5 => ?_) (fun hc_5 => ?_)
    · skip
      refine ev_iload_n i_Md_lengthAfter_12 rfl ?_
      refine ev_iconstN (v := 0) i_Md_lengthAfter_13 (by decide) ?_
      refine ev_sipushN (v := 1000) i_Md_lengthAfter_14 (by decide) ?_
      refine ev_callS3 i_Md_lengthAfter_17 rfl (Nat.le_of_ble_eq_true rfl) (m_in.1 (in1000y hn)) ?_
      refine ev_if_neN i_Md_lengthAfter_20 (by omega) (fun hc_20 => ?_) (fun hc_20 => ?_)
      · skip
        refine ev_aload_n i_Md_lengthAfter_27 rfl ?_
        refine ev_iload_n i_Md_lengthAfter_28 rfl ?_
        refine ev_callV1 i_Md_lengthAfter_29 rfl h0 (Nat.le_of_ble_eq_true rfl) ((m_unfit h ht).1 hf) ?_
        refine ev_if_leN i_Md_lengthAfter_32 (by omega) (fun hc_32 => ?_) (fun hc_32 => ?_)
        · skip
          refine ev_aload_n i_Md_lengthAfter_39 rfl ?_
          refine ev_iload_n i_Md_lengthAfter_40 rfl ?_
          refine ev_iload_n i_Md_lengthAfter_41 rfl ?_
          refine ev_callV2 i_Md_lengthAfter_42 rfl h0 (Nat.le_of_ble_eq_true rfl) (m3 _) ?_
          refine ev_if_neN i_Md_lengthAfter_45 (by omega) (fun hc_45 => ?_) (fun hc_45 => ?_)
          · skip
            exfalso; omega
          · skip
            refine ev_iconstN (v := 4) i_Md_lengthAfter_48 (by decide) ?_
            refine ev_goto i_Md_lengthAfter_49 ?_
            refine ev_mput_thrown i_Md_lengthAfter_53 h3 ?_
            refine ev_aload_n i_Md_lengthAfter_56 rfl ?_
            refine ev_get i_Md_lengthAfter_57 o4 rfl ?_
            refine ev_if_leN i_Md_lengthAfter_60 (by omega) (fun hc_60 => ?_) (fun hc_60 => ?_)
            · skip
              exfalso; omega
            · skip
              refine ev_lconst (v := 0) i_Md_lengthAfter_63 (by decide) ?_
              refine ev_goto i_Md_lengthAfter_64 ?_
              exact ev_lret i_Md_lengthAfter_74 rfl
        · skip
          exfalso; omega
      · skip
        exfalso; omega
    · skip
      exfalso; omega
theorem m_cntAfter_1 {scr : Scr} {l : Launch} {S : Sto} {σ : Sg} {th : Nat} {x y z : Int32} (h : MInv th σ S) (hx : ¬ inR 3 x) : MRun scr l 4 M_Md_countAfter [.ref 105, .int x, .int y, .int z] S (some (.long 0)) 1 σ := by
  refine MRun.th h (fun dr mo sc h0 d => ?_)
  have o1 : (S.put 105 (mO 1 σ dr mo sc)).1[105]? = _ := put_self h0
  refine MetA.of rfl (by decide +kernel) (Nat.le_of_ble_eq_true rfl) ?_
  refine ev_aload_n i_Md_countAfter_0 rfl ?_
  refine ev_iload_n i_Md_countAfter_1 rfl ?_
  refine ev_callS1 i_Md_countAfter_2 rfl (Nat.le_of_ble_eq_true rfl) (m_isTable.2 hx) ?_
  refine ev_if_eqN i_Md_countAfter_5 (by omega) (fun hc_5 => ?_) (fun hc_5 => ?_)
  · skip
    refine ev_iconstN (v := 1) i_Md_countAfter_15 (by decide) ?_
    refine ev_goto i_Md_countAfter_16 ?_
    refine ev_mput_thrown i_Md_countAfter_60 h0 ?_
    refine ev_aload_n i_Md_countAfter_63 rfl ?_
    refine ev_get i_Md_countAfter_64 o1 rfl ?_
    refine ev_if_leN i_Md_countAfter_67 (by omega) (fun hc_67 => ?_) (fun hc_67 => ?_)
    · skip
      exfalso; omega
    · skip
      refine ev_lconst (v := 0) i_Md_countAfter_70 (by decide) ?_
      refine ev_goto i_Md_countAfter_71 ?_
      exact ev_lret i_Md_countAfter_80 rfl
  · skip
    exfalso; omega
theorem m_cntAfter_2 {scr : Scr} {l : Launch} {S : Sto} {σ : Sg} {th : Nat} {t b : Nat} {y : Int32} (h : MInv th σ S) (ht : t < 3) (hy : ¬ inR 1001 y) (hb : b < 6) : MRun scr l 4 M_Md_countAfter [.ref 105, .int (nI t), .int y, .int (nI b)] S (some (.long 0)) 2 σ := by
  refine MRun.th h (fun dr mo sc h0 d => ?_)
  have o1 : (S.put 105 (mO 2 σ dr mo sc)).1[105]? = _ := put_self h0
  refine MetA.of rfl (by decide +kernel) (Nat.le_of_ble_eq_true rfl) ?_
  refine ev_aload_n i_Md_countAfter_0 rfl ?_
  refine ev_iload_n i_Md_countAfter_1 rfl ?_
  refine ev_callS1 i_Md_countAfter_2 rfl (Nat.le_of_ble_eq_true rfl) (m_isTable.1 (inR.of (by decide) ht)) ?_
  refine ev_if_eqN i_Md_countAfter_5 (by omega) (fun hc_5 => ?_) (fun hc_5 => ?_)
  · skip
    exfalso; omega
  · skip
    refine ev_iload_n i_Md_countAfter_8 rfl ?_
    refine ev_callS1 i_Md_countAfter_9 rfl (Nat.le_of_ble_eq_true rfl) (m_isLetter.1 (inR.of (by decide) hb)) ?_
    refine ev_if_neN i_Md_countAfter_12 (by omega) (fun hc_12 => ?_) (fun hc_12 => ?_)
    · skip
      refine ev_iload_n i_Md_countAfter_19 rfl ?_
      refine ev_iconstN (v := 0) i_Md_countAfter_20 (by decide) ?_
      refine ev_sipushN (v := 1000) i_Md_countAfter_21 (by decide) ?_
      refine ev_callS3 i_Md_countAfter_24 rfl (Nat.le_of_ble_eq_true rfl) (m_in.2 (in1000 hy)) ?_
      refine ev_if_neN i_Md_countAfter_27 (by omega) (fun hc_27 => ?_) (fun hc_27 => ?_)
      · skip
        exfalso; omega
      · skip
        refine ev_iconstN (v := 2) i_Md_countAfter_30 (by decide) ?_
        refine ev_goto i_Md_countAfter_31 ?_
        refine ev_mput_thrown i_Md_countAfter_60 h0 ?_
        refine ev_aload_n i_Md_countAfter_63 rfl ?_
        refine ev_get i_Md_countAfter_64 o1 rfl ?_
        refine ev_if_leN i_Md_countAfter_67 (by omega) (fun hc_67 => ?_) (fun hc_67 => ?_)
        · skip
          exfalso; omega
        · skip
          refine ev_lconst (v := 0) i_Md_countAfter_70 (by decide) ?_
          refine ev_goto i_Md_countAfter_71 ?_
          exact ev_lret i_Md_countAfter_80 rfl
    · skip
      exfalso; omega
theorem m_cntAfter_3 {scr : Scr} {l : Launch} {S : Sto} {σ : Sg} {th : Nat} {t n b : Nat} (h : MInv th σ S) (ht : t < 3) (hn : n < 1001) (hb : b < 6) (hf : ¬ fitT (σ.2.1.1 t)) : MRun scr l 4 M_Md_countAfter [.ref 105, .int (nI t), .int (nI n), .int (nI b)] S (some (.long 0)) 3 σ := by
  refine MRun.th h (fun dr mo sc h0 d => ?_)
  have o1 : (S.put 105 (mO 3 σ dr mo sc)).1[105]? = _ := put_self h0
  refine MetA.of rfl (by decide +kernel) (Nat.le_of_ble_eq_true rfl) ?_
  refine ev_aload_n i_Md_countAfter_0 rfl ?_
  refine ev_iload_n i_Md_countAfter_1 rfl ?_
  refine ev_callS1 i_Md_countAfter_2 rfl (Nat.le_of_ble_eq_true rfl) (m_isTable.1 (inR.of (by decide) ht)) ?_
  refine ev_if_eqN i_Md_countAfter_5 (by omega) (fun hc_5 => ?_) (fun hc_5 => ?_)
  · skip
    exfalso; omega
  · skip
    refine ev_iload_n i_Md_countAfter_8 rfl ?_
    refine ev_callS1 i_Md_countAfter_9 rfl (Nat.le_of_ble_eq_true rfl) (m_isLetter.1 (inR.of (by decide) hb)) ?_
    refine ev_if_neN i_Md_countAfter_12 (by omega) (fun hc_12 => ?_) (fun hc_12 => ?_)
    · skip
      refine ev_iload_n i_Md_countAfter_19 rfl ?_
      refine ev_iconstN (v := 0) i_Md_countAfter_20 (by decide) ?_
      refine ev_sipushN (v := 1000) i_Md_countAfter_21 (by decide) ?_
      refine ev_callS3 i_Md_countAfter_24 rfl (Nat.le_of_ble_eq_true rfl) (m_in.1 (in1000y hn)) ?_
      refine ev_if_neN i_Md_countAfter_27 (by omega) (fun hc_27 => ?_) (fun hc_27 => ?_)
      · skip
        refine ev_aload_n i_Md_countAfter_34 rfl ?_
        refine ev_iload_n i_Md_countAfter_35 rfl ?_
        refine ev_callV1 i_Md_countAfter_36 rfl h0 (Nat.le_of_ble_eq_true rfl) ((m_unfit h ht).2 hf) ?_
        refine ev_if_leN i_Md_countAfter_39 (by omega) (fun hc_39 => ?_) (fun hc_39 => ?_)
        · skip
          exfalso; omega
        · skip
          refine ev_iconstN (v := 3) i_Md_countAfter_42 (by decide) ?_
          refine ev_goto i_Md_countAfter_43 ?_
          refine ev_mput_thrown i_Md_countAfter_60 h0 ?_
          refine ev_aload_n i_Md_countAfter_63 rfl ?_
          refine ev_get i_Md_countAfter_64 o1 rfl ?_
          refine ev_if_leN i_Md_countAfter_67 (by omega) (fun hc_67 => ?_) (fun hc_67 => ?_)
          · skip
            exfalso; omega
          · skip
            refine ev_lconst (v := 0) i_Md_countAfter_70 (by decide) ?_
            refine ev_goto i_Md_countAfter_71 ?_
            exact ev_lret i_Md_countAfter_80 rfl
      · skip
        exfalso; omega
    · skip
      exfalso; omega
theorem m_cntAfter {scr : Scr} {l : Launch} {S : Sto} {σ : Sg} {th : Nat} {t n b : Nat} (h : MInv th σ S) (ht : t < 3) (hn : n < 1001) (hb : b < 6) (hf : fitT (σ.2.1.1 t)) : (okG (σ.2.1.1 t) σ.2.1.2.1 n → MRun scr l 4 M_Md_countAfter [.ref 105, .int (nI t), .int (nI n), .int (nI b)] S (some (.long (nL (cw (σ.2.1.1 t) σ.2.1.2.1 n b)))) 0 σ) ∧ (¬ okG (σ.2.1.1 t) σ.2.1.2.1 n → MRun scr l 4 M_Md_countAfter [.ref 105, .int (nI t), .int (nI n), .int (nI b)] S (some (.long 0)) 4 σ) := by
  obtain ⟨dr, mo, sc, h0⟩ := h.get
  obtain ⟨⟨g, tb, t2⟩, ⟨gw, wd, hx⟩, -⟩ := h.2.2.1
  obtain ⟨f1, f2, hc, hn2⟩ : ∃ f1 f2, S.1[117]? = some (aJ 6 f1) ∧ S.1[118]? = some (aJ 6 f2) := by
    obtain ⟨f1, f5, f6, f7, f8, f9, f3, f4, l1, l2, l3, e1, e2, e3, e4, h1, h2, h3, hrest⟩ := h.2.2.2.2.2
    exact ⟨l1, l2, h2, h3⟩
  have hm := m_count (scr := scr) (l := l) (m := n) h0 tb (t2 t ht) ht (by omega) wd hx hc hn2
  refine ⟨fun hok => ?_, fun hok => ?_⟩
  · obtain ⟨S3, m3, ⟨g1, g2, c3, x3⟩, f3⟩ := hm.1 hok
    have hon := hok n (Nat.le_refl n)
    have h3 := f3.at h0 (show 105 ∉ [117, 118] by decide)
    have o4 : (S3.put 105 (mO 0 σ dr mo sc)).1[105]? = _ := put_self h3
    have c4 : (S3.put 105 (mO 0 σ dr mo sc)).1[117]? = _ := put_at c3 (by decide)
    have x4 : (S3.put 105 (mO 0 σ dr mo sc)).1[118]? = _ := put_at x3 (by decide)
    have hF : Fr [105, 117, 118] S (S3.put 105 (mO 0 σ dr mo sc)) := (f3.mono (by simp)).tr (Fr.put _ _ (by simp))
    refine ⟨(S3.put 105 (mO 0 σ dr mo sc)), fun d => ?_, h.scr hF (by simp) ⟨dr, mo, sc, o4⟩ (h.2.2.2.2.2.up hF (Or.inl (by decide)) (Or.inr ⟨_, c4⟩) (Or.inr ⟨_, x4⟩) (Or.inl (by decide)) (Or.inl (by decide)) (Or.inl (by decide)) (Or.inl (by decide)) (Or.inl (by decide)) (Or.inl (by decide)) (Or.inl (by decide)) (Or.inl (by decide)) (Or.inl (by decide)) (Or.inl (by decide)) (Or.inl (by decide)) (Or.inl (by decide))), hF.m (by decide)⟩
    refine MetA.of rfl (by decide +kernel) (Nat.le_of_ble_eq_true rfl) ?_
    refine ev_aload_n i_Md_countAfter_0 rfl ?_
    refine ev_iload_n i_Md_countAfter_1 rfl ?_
    refine ev_callS1 i_Md_countAfter_2 rfl (Nat.le_of_ble_eq_true rfl) (m_isTable.1 (inR.of (by decide) ht)) ?_
    refine ev_if_eqN i_Md_countAfter_5 (by omega) (fun hc_5 => ?_) (fun hc_5 => ?_)
    · skip
      exfalso; omega
    · skip
      refine ev_iload_n i_Md_countAfter_8 rfl ?_
      refine ev_callS1 i_Md_countAfter_9 rfl (Nat.le_of_ble_eq_true rfl) (m_isLetter.1 (inR.of (by decide) hb)) ?_
      refine ev_if_neN i_Md_countAfter_12 (by omega) (fun hc_12 => ?_) (fun hc_12 => ?_)
      · skip
        refine ev_iload_n i_Md_countAfter_19 rfl ?_
        refine ev_iconstN (v := 0) i_Md_countAfter_20 (by decide) ?_
        refine ev_sipushN (v := 1000) i_Md_countAfter_21 (by decide) ?_
        refine ev_callS3 i_Md_countAfter_24 rfl (Nat.le_of_ble_eq_true rfl) (m_in.1 (in1000y hn)) ?_
        refine ev_if_neN i_Md_countAfter_27 (by omega) (fun hc_27 => ?_) (fun hc_27 => ?_)
        · skip
          refine ev_aload_n i_Md_countAfter_34 rfl ?_
          refine ev_iload_n i_Md_countAfter_35 rfl ?_
          refine ev_callV1 i_Md_countAfter_36 rfl h0 (Nat.le_of_ble_eq_true rfl) ((m_unfit h ht).1 hf) ?_
          refine ev_if_leN i_Md_countAfter_39 (by omega) (fun hc_39 => ?_) (fun hc_39 => ?_)
          · skip
            refine ev_aload_n i_Md_countAfter_46 rfl ?_
            refine ev_iload_n i_Md_countAfter_47 rfl ?_
            refine ev_iload_n i_Md_countAfter_48 rfl ?_
            refine ev_callV2 i_Md_countAfter_49 rfl h0 (Nat.le_of_ble_eq_true rfl) (m3 _) ?_
            refine ev_if_neN i_Md_countAfter_52 (by omega) (fun hc_52 => ?_) (fun hc_52 => ?_)
            · skip
              refine ev_iconstN (v := 0) i_Md_countAfter_59 (by decide) ?_
              refine ev_mput_thrown i_Md_countAfter_60 h3 ?_
              refine ev_aload_n i_Md_countAfter_63 rfl ?_
              refine ev_get i_Md_countAfter_64 o4 rfl ?_
              refine ev_if_leN i_Md_countAfter_67 (by omega) (fun hc_67 => ?_) (fun hc_67 => ?_)
              · skip
                refine ev_aload_n i_Md_countAfter_74 rfl ?_
                refine ev_get i_Md_countAfter_75 o4 rfl ?_
                refine ev_iload_n i_Md_countAfter_78 rfl ?_
                refine ev_laldN i_Md_countAfter_79 c4 hb (by decide) ?_
                rw [cF_at hb]
                exact ev_lret i_Md_countAfter_80 rfl
              · skip
                exfalso; omega
            · skip
              exfalso; omega
          · skip
            exfalso; omega
        · skip
          exfalso; omega
      · skip
        exfalso; omega
  · obtain ⟨S3, m3, ⟨W, g1, g2, c3, x3⟩, f3⟩ := hm.2 hok
    have h3 := f3.at h0 (show 105 ∉ [117, 118] by decide)
    have o4 : (S3.put 105 (mO 4 σ dr mo sc)).1[105]? = _ := put_self h3
    have c4 : (S3.put 105 (mO 4 σ dr mo sc)).1[117]? = _ := put_at c3 (by decide)
    have x4 : (S3.put 105 (mO 4 σ dr mo sc)).1[118]? = _ := put_at x3 (by decide)
    have hF : Fr [105, 117, 118] S (S3.put 105 (mO 4 σ dr mo sc)) := (f3.mono (by simp)).tr (Fr.put _ _ (by simp))
    refine ⟨(S3.put 105 (mO 4 σ dr mo sc)), fun d => ?_, h.scr hF (by simp) ⟨dr, mo, sc, o4⟩ (h.2.2.2.2.2.up hF (Or.inl (by decide)) (Or.inr ⟨_, c4⟩) (Or.inr ⟨_, x4⟩) (Or.inl (by decide)) (Or.inl (by decide)) (Or.inl (by decide)) (Or.inl (by decide)) (Or.inl (by decide)) (Or.inl (by decide)) (Or.inl (by decide)) (Or.inl (by decide)) (Or.inl (by decide)) (Or.inl (by decide)) (Or.inl (by decide)) (Or.inl (by decide))), hF.m (by decide)⟩
    refine MetA.of rfl (by decide +kernel) (Nat.le_of_ble_eq_true rfl) ?_
    refine ev_aload_n i_Md_countAfter_0 rfl ?_
    refine ev_iload_n i_Md_countAfter_1 rfl ?_
    refine ev_callS1 i_Md_countAfter_2 rfl (Nat.le_of_ble_eq_true rfl) (m_isTable.1 (inR.of (by decide) ht)) ?_
    refine ev_if_eqN i_Md_countAfter_5 (by omega) (fun hc_5 => ?_) (fun hc_5 => ?_)
    · skip
      exfalso; omega
    · skip
      refine ev_iload_n i_Md_countAfter_8 rfl ?_
      refine ev_callS1 i_Md_countAfter_9 rfl (Nat.le_of_ble_eq_true rfl) (m_isLetter.1 (inR.of (by decide) hb)) ?_
      refine ev_if_neN i_Md_countAfter_12 (by omega) (fun hc_12 => ?_) (fun hc_12 => ?_)
      · skip
        refine ev_iload_n i_Md_countAfter_19 rfl ?_
        refine ev_iconstN (v := 0) i_Md_countAfter_20 (by decide) ?_
        refine ev_sipushN (v := 1000) i_Md_countAfter_21 (by decide) ?_
        refine ev_callS3 i_Md_countAfter_24 rfl (Nat.le_of_ble_eq_true rfl) (m_in.1 (in1000y hn)) ?_
        refine ev_if_neN i_Md_countAfter_27 (by omega) (fun hc_27 => ?_) (fun hc_27 => ?_)
        · skip
          refine ev_aload_n i_Md_countAfter_34 rfl ?_
          refine ev_iload_n i_Md_countAfter_35 rfl ?_
          refine ev_callV1 i_Md_countAfter_36 rfl h0 (Nat.le_of_ble_eq_true rfl) ((m_unfit h ht).1 hf) ?_
          refine ev_if_leN i_Md_countAfter_39 (by omega) (fun hc_39 => ?_) (fun hc_39 => ?_)
          · skip
            refine ev_aload_n i_Md_countAfter_46 rfl ?_
            refine ev_iload_n i_Md_countAfter_47 rfl ?_
            refine ev_iload_n i_Md_countAfter_48 rfl ?_
            refine ev_callV2 i_Md_countAfter_49 rfl h0 (Nat.le_of_ble_eq_true rfl) (m3 _) ?_
            refine ev_if_neN i_Md_countAfter_52 (by omega) (fun hc_52 => ?_) (fun hc_52 => ?_)
            · skip
              exfalso; omega
            · skip
              refine ev_iconstN (v := 4) i_Md_countAfter_55 (by decide) ?_
              refine ev_goto i_Md_countAfter_56 ?_
              refine ev_mput_thrown i_Md_countAfter_60 h3 ?_
              refine ev_aload_n i_Md_countAfter_63 rfl ?_
              refine ev_get i_Md_countAfter_64 o4 rfl ?_
              refine ev_if_leN i_Md_countAfter_67 (by omega) (fun hc_67 => ?_) (fun hc_67 => ?_)
              · skip
                exfalso; omega
              · skip
                refine ev_lconst (v := 0) i_Md_countAfter_70 (by decide) ?_
                refine ev_goto i_Md_countAfter_71 ?_
                exact ev_lret i_Md_countAfter_80 rfl
          · skip
            exfalso; omega
        · skip
          exfalso; omega
      · skip
        exfalso; omega
theorem m_cntAfter_1l {scr : Scr} {l : Launch} {S : Sto} {σ : Sg} {th : Nat} {t : Nat} {y z : Int32} (h : MInv th σ S) (ht : t < 3) (hz : ¬ inR 6 z) : MRun scr l 4 M_Md_countAfter [.ref 105, .int (nI t), .int y, .int z] S (some (.long 0)) 1 σ := by
  refine MRun.th h (fun dr mo sc h0 d => ?_)
  have o1 : (S.put 105 (mO 1 σ dr mo sc)).1[105]? = _ := put_self h0
  refine MetA.of rfl (by decide +kernel) (Nat.le_of_ble_eq_true rfl) ?_
  refine ev_aload_n i_Md_countAfter_0 rfl ?_
  refine ev_iload_n i_Md_countAfter_1 rfl ?_
  refine ev_callS1 i_Md_countAfter_2 rfl (Nat.le_of_ble_eq_true rfl) (m_isTable.1 (inR.of (by decide) ht)) ?_
  refine ev_if_eqN i_Md_countAfter_5 (by omega) (fun hc_5 => ?_) (fun hc_5 => ?_)
  · skip
    exfalso; omega
  · skip
    refine ev_iload_n i_Md_countAfter_8 rfl ?_
    refine ev_callS1 i_Md_countAfter_9 rfl (Nat.le_of_ble_eq_true rfl) (m_isLetter.2 hz) ?_
    refine ev_if_neN i_Md_countAfter_12 (by omega) (fun hc_12 => ?_) (fun hc_12 => ?_)
    · skip
      exfalso; omega
    · skip
      refine ev_iconstN (v := 1) i_Md_countAfter_15 (by decide) ?_
      refine ev_goto i_Md_countAfter_16 ?_
      refine ev_mput_thrown i_Md_countAfter_60 h0 ?_
      refine ev_aload_n i_Md_countAfter_63 rfl ?_
      refine ev_get i_Md_countAfter_64 o1 rfl ?_
      refine ev_if_leN i_Md_countAfter_67 (by omega) (fun hc_67 => ?_) (fun hc_67 => ?_)
      · skip
        exfalso; omega
      · skip
        refine ev_lconst (v := 0) i_Md_countAfter_70 (by decide) ?_
        refine ev_goto i_Md_countAfter_71 ?_
        exact ev_lret i_Md_countAfter_80 rfl

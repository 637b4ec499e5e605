/-! the model m: its face, steps -/
theorem m_ruled {scr : Scr} {l : Launch} {S : Sto} {t w i : Nat} {g f : Nat → Int32} {T : TabV} {xs : List Nat} {q1 q2 q3 q4 q5 q6 q7 : Int32} (h0 : S.1[105]? = some (mObj q1 q2 q3 q4 q5 q6 q7)) (hg : S.1[106]? = some (aI 417 g)) (hT : MTab g t T) (ht : t < 3) (hw : S.1[w]? = some (aI 61 f)) (hx : RowW f 0 xs) (hi : i < xs.length) : (ruleAt T xs i = none → ∀ d, MetA scr l (d + 3) M_Md_ruled [.ref 105, .int (nI t), .ref w, .int (nI (i + 1))] S (.inl (some (.int (-1))), S)) ∧ ∀ p, ruleAt T xs i = some p → ∃ o, o + 5 ≤ 417 ∧ MProd g o p ∧ PrOK p ∧ ∀ d, MetA scr l (d + 3) M_Md_ruled [.ref 105, .int (nI t), .ref w, .int (nI (i + 1))] S (.inl (some (.int (nI o))), S) := by
  have h60 := hx.2.1
  obtain ⟨hL, m, r, hR, hI⟩ := hT
  have hI : RulesIs T m r := hI
  have h6 := hR.2.1
  by_cases hz : i = 0
  · subst hz
    refine ⟨fun _ d => ?_, fun p hp => by cases hp⟩
    refine MetA.of rfl (by decide +kernel) (Nat.le_of_ble_eq_true rfl) ?_
    refine ev_iload_n i_Md_ruled_0 rfl ?_
    refine ev_iconstN (v := 2) i_Md_ruled_1 (by decide) ?_
    refine ev_icmp_geN i_Md_ruled_2 (by omega) (by omega) (fun hc_2 => ?_) (fun hc_2 => ?_)
    · skip
      exfalso; omega
    · skip
      refine ev_iconst (v := -1) i_Md_ruled_5 (by decide) ?_
      refine ev_goto i_Md_ruled_6 ?_
      refine ev_ist_4 i_Md_ruled_22 rfl ?_
      refine ev_iload i_Md_ruled_24 rfl ?_
      refine ev_if_ge i_Md_ruled_26 (fun hc_26 => ?_) (fun hc_26 => ?_)
      · skip
        exact absurd hc_26 (by decide)
      · skip
        refine ev_iconst (v := -1) i_Md_ruled_29 (by decide) ?_
        refine ev_goto i_Md_ruled_30 ?_
        exact ev_iret i_Md_ruled_37 rfl (by first | rfl | decide)
  · obtain ⟨e1, l1⟩ := hx.2.2 (i - 1) (by omega)
    obtain ⟨e2, l2⟩ := hx.2.2 i hi
    refine ⟨fun hq d => ?_, fun p hq => ?_⟩
    · unfold ruleAt at hq
      rw [if_neg hz] at hq
      refine MetA.of rfl (by decide +kernel) (Nat.le_of_ble_eq_true rfl) ?_
      refine ev_iload_n i_Md_ruled_0 rfl ?_
      refine ev_iconstN (v := 2) i_Md_ruled_1 (by decide) ?_
      refine ev_icmp_geN i_Md_ruled_2 (by omega) (by omega) (fun hc_2 => ?_) (fun hc_2 => ?_)
      · skip
        refine ev_aload_n i_Md_ruled_9 rfl ?_
        refine ev_iload_n i_Md_ruled_10 rfl ?_
        refine ev_aload_n i_Md_ruled_11 rfl ?_
        refine ev_iload_n i_Md_ruled_12 rfl ?_
        refine ev_iconstN (v := 1) i_Md_ruled_13 (by decide) ?_
        refine ev_isubN i_Md_ruled_14 (by omega) ?_
        refine ev_ialdN i_Md_ruled_15 hw (by omega) (by decide) ?_
        rw [show i + 1 - 1 = 0 + 1 + (i - 1) from by omega, e1]
        refine ev_aload_n i_Md_ruled_16 rfl ?_
        refine ev_iload_n i_Md_ruled_17 rfl ?_
        refine ev_ialdN i_Md_ruled_18 hw (by omega) (by decide) ?_
        rw [show i + 1 = 0 + 1 + i from by omega, e2]
        refine ev_callV3 i_Md_ruled_19 rfl h0 (Nat.le_of_ble_eq_true rfl) (m_findRule_no h0 hg hR ht l1 l2 (hI.no l1 l2 (by rw [hq]; decide))) ?_
        refine ev_ist_4 i_Md_ruled_22 rfl ?_
        refine ev_iload i_Md_ruled_24 rfl ?_
        refine ev_if_ge i_Md_ruled_26 (fun hc_26 => ?_) (fun hc_26 => ?_)
        · skip
          exact absurd hc_26 (by decide)
        · skip
          refine ev_iconst (v := -1) i_Md_ruled_29 (by decide) ?_
          refine ev_goto i_Md_ruled_30 ?_
          exact ev_iret i_Md_ruled_37 rfl (by first | rfl | decide)
      · skip
        exfalso; omega
    · unfold ruleAt at hq
      rw [if_neg hz] at hq
      obtain ⟨k, hk, ek⟩ := hI.some l1 l2 hq
      obtain ⟨k1, k2, k3, k4, k5⟩ := hR.2.2.1 k hk
      rw [ek] at k3 k4
      refine ⟨139 * t + 96 + 1 + 7 * k + 2, by omega, by rw [show 139 * t + 96 + 1 + 7 * k + 2 = 139 * t + 97 + 7 * k + 2 from by omega]; exact k3, k4, fun d => ?_⟩
      refine MetA.of rfl (by decide +kernel) (Nat.le_of_ble_eq_true rfl) ?_
      refine ev_iload_n i_Md_ruled_0 rfl ?_
      refine ev_iconstN (v := 2) i_Md_ruled_1 (by decide) ?_
      refine ev_icmp_geN i_Md_ruled_2 (by omega) (by omega) (fun hc_2 => ?_) (fun hc_2 => ?_)
      · skip
        refine ev_aload_n i_Md_ruled_9 rfl ?_
        refine ev_iload_n i_Md_ruled_10 rfl ?_
        refine ev_aload_n i_Md_ruled_11 rfl ?_
        refine ev_iload_n i_Md_ruled_12 rfl ?_
        refine ev_iconstN (v := 1) i_Md_ruled_13 (by decide) ?_
        refine ev_isubN i_Md_ruled_14 (by omega) ?_
        refine ev_ialdN i_Md_ruled_15 hw (by omega) (by decide) ?_
        rw [show i + 1 - 1 = 0 + 1 + (i - 1) from by omega, e1]
        refine ev_aload_n i_Md_ruled_16 rfl ?_
        refine ev_iload_n i_Md_ruled_17 rfl ?_
        refine ev_ialdN i_Md_ruled_18 hw (by omega) (by decide) ?_
        rw [show i + 1 = 0 + 1 + i from by omega, e2]
        refine ev_callV3 i_Md_ruled_19 rfl h0 (Nat.le_of_ble_eq_true rfl) (m_findRule h0 hg hR ht l1 l2 hk (by rw [ek]) (by rw [ek])) ?_
        refine ev_ist_4 i_Md_ruled_22 rfl ?_
        refine ev_iload i_Md_ruled_24 rfl ?_
        refine ev_if_ge_N i_Md_ruled_26 (by omega) (fun hc_26 => ?_) (fun hc_26 => ?_)
        · skip
          refine ev_iload i_Md_ruled_33 rfl ?_
          refine ev_iconstN (v := 2) i_Md_ruled_35 (by decide) ?_
          first | refine ev_iaddN i_Md_ruled_36 ?_ | refine ev_iadd i_Md_ruled_36 ?_
          exact ev_iret i_Md_ruled_37 rfl (by first | rfl | decide)
        · skip
          exfalso; omega
      · skip
        exfalso; omega
theorem lp_step3_in {scr : Scr} {l : Launch} {S : Sto} {t a b d n pl o : Nat} {g G : Nat → Int32} {p : List Nat} {q1 q2 q3 q4 q5 q6 q7 : Int32} {r : Res} (h0 : S.1[105]? = some (mObj q1 q2 q3 q4 q5 q6 q7)) (hg : S.1[106]? = some (aI 417 g)) (hb : S.1[b]? = some (aI 61 G)) (hne : b ≠ 105 ∧ b ≠ 106) (ho : o + 5 ≤ 417) (hp : MProd g o p) (hp4 : PrOK p) (hpl : pl < 100) (hl : n + p.length ≤ 60) (hk : Ev scr l d M_Md_step3 6 [some (.ref 105), some (.int (nI t)), some (.ref a), some (.ref b), some (.int (nI (n + p.length))), some (.int (nI (pl + 1))), some (.int (nI o)), some (.int (nI p.length))] [] (S.put b (aI 61 (fillF G (n + 1) (fun j => nI (p.getD j 0)) p.length))) r) : ∀ (k i : Nat), i + k = p.length → Ev scr l d M_Md_step3 79 [some (.ref 105), some (.int (nI t)), some (.ref a), some (.ref b), some (.int (nI (n + i))), some (.int (nI pl)), some (.int (nI o)), some (.int (nI i))] [] (S.put b (aI 61 (fillF G (n + 1) (fun j => nI (p.getD j 0)) i))) r := by
  intro k
  induction k with
  | zero =>
    intro i hi
    have z : i = p.length := by omega
    subst z
    have h4 := hp4.1
    have o1 : (S.put b (aI 61 (fillF G (n + 1) (fun j => nI (p.getD j 0)) p.length))).1[105]? = _ := put_at h0 hne.1
    have hg1 : (S.put b (aI 61 (fillF G (n + 1) (fun j => nI (p.getD j 0)) p.length))).1[106]? = _ := put_at hg hne.2
    refine ev_iload i_Md_step3_79 rfl ?_
    refine ev_aload_n i_Md_step3_81 rfl ?_
    refine ev_get i_Md_step3_82 o1 rfl ?_
    refine ev_iload i_Md_step3_85 rfl ?_
    refine ev_ialdN i_Md_step3_87 hg1 (by omega) (by decide) ?_
    rw [hp.1]
    refine ev_icmp_geN i_Md_step3_88 (by omega) (by omega) (fun hc_88 => ?_) (fun hc_88 => ?_)
    · skip
      refine ev_iincN_5 (c := 1) i_Md_step3_125 (by decide) rfl ?_
      refine ev_goto i_Md_step3_128 ?_
      exact hk
    · skip
      exfalso; omega
  | succ k ih =>
    intro i hi
    have h4 := hp4.1
    have o1 : (S.put b (aI 61 (fillF G (n + 1) (fun j => nI (p.getD j 0)) i))).1[105]? = _ := put_at h0 hne.1
    have hg1 : (S.put b (aI 61 (fillF G (n + 1) (fun j => nI (p.getD j 0)) i))).1[106]? = _ := put_at hg hne.2
    refine ev_iload i_Md_step3_79 rfl ?_
    refine ev_aload_n i_Md_step3_81 rfl ?_
    refine ev_get i_Md_step3_82 o1 rfl ?_
    refine ev_iload i_Md_step3_85 rfl ?_
    refine ev_ialdN i_Md_step3_87 hg1 (by omega) (by decide) ?_
    rw [hp.1]
    refine ev_icmp_geN i_Md_step3_88 (by omega) (by omega) (fun hc_88 => ?_) (fun hc_88 => ?_)
    · skip
      exfalso; omega
    · skip
      refine ev_iload i_Md_step3_91 rfl ?_
      refine ev_bipushN (v := 60) i_Md_step3_93 (by decide) ?_
      refine ev_icmp_neN i_Md_step3_95 (by omega) (by omega) (fun hc_95 => ?_) (fun hc_95 => ?_)
      · skip
        refine ev_iincN_4 (c := 1) i_Md_step3_100 (by decide) rfl ?_
        refine ev_aload_n i_Md_step3_103 rfl ?_
        refine ev_iload i_Md_step3_104 rfl ?_
        refine ev_aload_n i_Md_step3_106 rfl ?_
        refine ev_get i_Md_step3_107 o1 rfl ?_
        refine ev_iload i_Md_step3_110 rfl ?_
        refine ev_iconstN (v := 1) i_Md_step3_112 (by decide) ?_
        first | refine ev_iaddN i_Md_step3_113 ?_ | refine ev_iadd i_Md_step3_113 ?_
        refine ev_iload i_Md_step3_114 rfl ?_
        first | refine ev_iaddN i_Md_step3_116 ?_ | refine ev_iadd i_Md_step3_116 ?_
        refine ev_ialdN i_Md_step3_117 hg1 (by omega) (by decide) ?_
        rw [hp.2 i (by omega)]
        refine ev_iastN i_Md_step3_118 (put_self hb) (by omega) (by decide) ?_
        rw [put_put, show n + i + 1 = n + 1 + i from by omega, fillF_s G (n + 1) (fun j => nI (p.getD j 0)) i]
        refine ev_iincN_7 (c := 1) i_Md_step3_119 (by decide) rfl ?_
        refine ev_goto i_Md_step3_122 ?_
        rw [show n + 1 + i = n + (i + 1) from by omega]
        exact ih (i + 1) (by omega)
      · skip
        exfalso; omega
theorem lp_step3_in_no {scr : Scr} {l : Launch} {S : Sto} {t a b d n pl o : Nat} {g G : Nat → Int32} {p : List Nat} {q1 q2 q3 q4 q5 q6 q7 : Int32} (h0 : S.1[105]? = some (mObj q1 q2 q3 q4 q5 q6 q7)) (hg : S.1[106]? = some (aI 417 g)) (hb : S.1[b]? = some (aI 61 G)) (hne : b ≠ 105 ∧ b ≠ 106) (ho : o + 5 ≤ 417) (hp : MProd g o p) (hp4 : PrOK p) (hpl : pl < 100) (hn : n ≤ 60) (hl : 60 < n + p.length) : ∀ (k i : Nat), n + i + k = 60 → Ev scr l d M_Md_step3 79 [some (.ref 105), some (.int (nI t)), some (.ref a), some (.ref b), some (.int (nI (n + i))), some (.int (nI pl)), some (.int (nI o)), some (.int (nI i))] [] (S.put b (aI 61 (fillF G (n + 1) (fun j => nI (p.getD j 0)) i))) (.inl (some (.int (nI 0))), (S.put b (aI 61 (fillF G (n + 1) (fun j => nI (p.getD j 0)) (60 - n))))) := by
  intro k
  induction k with
  | zero =>
    intro i hi
    have z : i = 60 - n := by omega
    subst z
    have h4 := hp4.1
    have o1 : (S.put b (aI 61 (fillF G (n + 1) (fun j => nI (p.getD j 0)) (60 - n)))).1[105]? = _ := put_at h0 hne.1
    have hg1 : (S.put b (aI 61 (fillF G (n + 1) (fun j => nI (p.getD j 0)) (60 - n)))).1[106]? = _ := put_at hg hne.2
    refine ev_iload i_Md_step3_79 rfl ?_
    refine ev_aload_n i_Md_step3_81 rfl ?_
    refine ev_get i_Md_step3_82 o1 rfl ?_
    refine ev_iload i_Md_step3_85 rfl ?_
    refine ev_ialdN i_Md_step3_87 hg1 (by omega) (by decide) ?_
    rw [hp.1]
    refine ev_icmp_geN i_Md_step3_88 (by omega) (by omega) (fun hc_88 => ?_) (fun hc_88 => ?_)
    · skip
      exfalso; omega
    · skip
      refine ev_iload i_Md_step3_91 rfl ?_
      refine ev_bipushN (v := 60) i_Md_step3_93 (by decide) ?_
      refine ev_icmp_neN i_Md_step3_95 (by omega) (by omega) (fun hc_95 => ?_) (fun hc_95 => ?_)
      · skip
        exfalso; omega
      · skip
        refine ev_iconstN (v := 0) i_Md_step3_98 (by decide) ?_
        exact ev_iret i_Md_step3_99 rfl (by first | rfl | decide)
  | succ k ih =>
    intro i hi
    have h4 := hp4.1
    have o1 : (S.put b (aI 61 (fillF G (n + 1) (fun j => nI (p.getD j 0)) i))).1[105]? = _ := put_at h0 hne.1
    have hg1 : (S.put b (aI 61 (fillF G (n + 1) (fun j => nI (p.getD j 0)) i))).1[106]? = _ := put_at hg hne.2
    refine ev_iload i_Md_step3_79 rfl ?_
    refine ev_aload_n i_Md_step3_81 rfl ?_
    refine ev_get i_Md_step3_82 o1 rfl ?_
    refine ev_iload i_Md_step3_85 rfl ?_
    refine ev_ialdN i_Md_step3_87 hg1 (by omega) (by decide) ?_
    rw [hp.1]
    refine ev_icmp_geN i_Md_step3_88 (by omega) (by omega) (fun hc_88 => ?_) (fun hc_88 => ?_)
    · skip
      exfalso; omega
    · skip
      refine ev_iload i_Md_step3_91 rfl ?_
      refine ev_bipushN (v := 60) i_Md_step3_93 (by decide) ?_
      refine ev_icmp_neN i_Md_step3_95 (by omega) (by omega) (fun hc_95 => ?_) (fun hc_95 => ?_)
      · skip
        refine ev_iincN_4 (c := 1) i_Md_step3_100 (by decide) rfl ?_
        refine ev_aload_n i_Md_step3_103 rfl ?_
        refine ev_iload i_Md_step3_104 rfl ?_
        refine ev_aload_n i_Md_step3_106 rfl ?_
        refine ev_get i_Md_step3_107 o1 rfl ?_
        refine ev_iload i_Md_step3_110 rfl ?_
        refine ev_iconstN (v := 1) i_Md_step3_112 (by decide) ?_
        first | refine ev_iaddN i_Md_step3_113 ?_ | refine ev_iadd i_Md_step3_113 ?_
        refine ev_iload i_Md_step3_114 rfl ?_
        first | refine ev_iaddN i_Md_step3_116 ?_ | refine ev_iadd i_Md_step3_116 ?_
        refine ev_ialdN i_Md_step3_117 hg1 (by omega) (by decide) ?_
        rw [hp.2 i (by omega)]
        refine ev_iastN i_Md_step3_118 (put_self hb) (by omega) (by decide) ?_
        rw [put_put, show n + i + 1 = n + 1 + i from by omega, fillF_s G (n + 1) (fun j => nI (p.getD j 0)) i]
        refine ev_iincN_7 (c := 1) i_Md_step3_119 (by decide) rfl ?_
        refine ev_goto i_Md_step3_122 ?_
        rw [show n + 1 + i = n + (i + 1) from by omega]
        exact ih (i + 1) (by omega)
      · skip
        exfalso; omega
theorem aI_inj {n : Nat} {f g : Nat → Int32} (h : aI n f = aI n g) : f = g := by
  have h1 := Sum.inl.inj h
  have h2 := (Prod.mk.inj (Prod.mk.inj h1).2).2
  exact Sum.inl.inj h2
/-- the model's rows in the middle of a step -/
def St3 (S : Sto) (a b t : Nat) (T : TabV) (xs : List Nat) (q : Int32 × Int32 × Int32 × Int32 × Int32 × Int32) (ys : List Nat) (x : Int32) : Prop := S.1[105]? = some (mObj q.1 q.2.1 q.2.2.1 q.2.2.2.1 x q.2.2.2.2.1 q.2.2.2.2.2) ∧ (∃ g, S.1[106]? = some (aI 417 g) ∧ MTab g t T) ∧ (∃ f, S.1[a]? = some (aI 61 f) ∧ RowW f 0 xs) ∧ ∃ G, S.1[b]? = some (aI 61 G) ∧ ∀ j, j < ys.length → G (1 + j) = nI (ys.getD j 0) ∧ ys.getD j 0 < 6
theorem St3.app {S : Sto} {a b t : Nat} {T : TabV} {xs ys p : List Nat} {q : Int32 × Int32 × Int32 × Int32 × Int32 × Int32} {x : Int32} {G : Nat → Int32} (h : St3 S a b t T xs q ys x) (hb : S.1[b]? = some (aI 61 G)) (hp : PrOK p) (hne : b ≠ 105 ∧ b ≠ 106 ∧ b ≠ a) : St3 (S.put b (aI 61 (fillF G (ys.length + 1) (fun j => nI (p.getD j 0)) p.length))) a b t T xs q (ys ++ p) x := by
  obtain ⟨h1, ⟨g, g1, g2⟩, ⟨f, f1, f2⟩, G', b1, b2⟩ := h
  have e : G' = G := by
    have := Option.some.inj (b1.symm.trans hb)
    exact aI_inj this
  subst e
  refine ⟨put_at h1 hne.1, ⟨g, put_at g1 hne.2.1, g2⟩, ⟨f, put_at f1 hne.2.2, f2⟩, _, put_self hb, fun j hj => ?_⟩
  rw [List.length_append] at hj
  unfold fillF
  by_cases z : j < ys.length
  · rw [if_neg (by omega)]
    have e : (ys ++ p).getD j 0 = ys.getD j 0 := by
      rw [List.getD_eq_getElem?_getD, List.getD_eq_getElem?_getD, List.getElem?_append_left z]
    rw [e]
    exact b2 j z
  · rw [if_pos (by omega)]
    have e : (ys ++ p).getD j 0 = p.getD (j - ys.length) 0 := by
      rw [List.getD_eq_getElem?_getD, List.getD_eq_getElem?_getD, List.getElem?_append_right (by omega)]
    rw [e, show 1 + j - (ys.length + 1) = j - ys.length from by omega]
    exact ⟨rfl, hp.2 _ (by omega)⟩
theorem lp_step3 {scr : Scr} {l : Launch} {S : Sto} {t a b : Nat} {T : TabV} {xs : List Nat} {seed : Int32} {q : Int32 × Int32 × Int32 × Int32 × Int32 × Int32} (ht : t < 3) (hne : b ≠ 105 ∧ b ≠ 106 ∧ b ≠ a) (hna : a ≠ 105) (hl : (stepW T xs seed).length ≤ 60) : ∀ (k i : Nat), i + k = xs.length → ∀ (u6 u7 : Option Value) (S2 : Sto), St3 S2 a b t T xs q (stepN T xs seed i).1 (stepN T xs seed i).2 → Fr [105, b] S S2 → ∃ S3, (∀ d, Ev scr l (d + 4) M_Md_step3 6 [some (.ref 105), some (.int (nI t)), some (.ref a), some (.ref b), some (.int (nI (stepN T xs seed i).1.length)), some (.int (nI (i + 1))), u6, u7] [] S2 (.inl (some (.int (nI 1))), S3)) ∧ (∃ x, St3 S3 a b t T xs q (stepW T xs seed) x) ∧ (∃ G, S3.1[b]? = some (aI 61 G) ∧ RowW G 0 (stepW T xs seed)) ∧ Fr [105, b] S S3 := by
  intro k
  induction k with
  | zero =>
    intro i hi u6 u7 S2 h2 hF
    have z : i = xs.length := by omega
    subst z
    obtain ⟨h1, ⟨g, g1, g2⟩, ⟨f, f1, f2⟩, G, b1, b2⟩ := id h2
    have h60 := f2.2.1
    have hl2 : (stepN T xs seed xs.length).1.length ≤ 60 := hl
    refine ⟨S2.put b (aI 61 (upd G 0 (nI (stepN T xs seed xs.length).1.length))), fun d => ?_, ⟨(stepN T xs seed xs.length).2, put_at h1 hne.1, ⟨g, put_at g1 hne.2.1, g2⟩, ⟨f, put_at f1 hne.2.2, f2⟩, _, put_self b1, fun j hj => ?_⟩, ⟨_, put_self b1, ?_⟩, hF.tr (Fr.put _ _ (by simp))⟩
    · skip
      refine ev_iload i_Md_step3_6 rfl ?_
      refine ev_aload_n i_Md_step3_8 rfl ?_
      refine ev_iconstN (v := 0) i_Md_step3_9 (by decide) ?_
      refine ev_ialdN i_Md_step3_10 f1 (by decide) (by decide) ?_
      rw [f2.1]
      refine ev_icmp_gtN i_Md_step3_11 (by omega) (by omega) (fun hc_11 => ?_) (fun hc_11 => ?_)
      · skip
        refine ev_aload_n i_Md_step3_131 rfl ?_
        refine ev_iconstN (v := 0) i_Md_step3_132 (by decide) ?_
        refine ev_iload i_Md_step3_133 rfl ?_
        refine ev_iastN i_Md_step3_135 b1 (by decide) (by decide) ?_
        refine ev_iconstN (v := 1) i_Md_step3_136 (by decide) ?_
        exact ev_iret i_Md_step3_137 rfl (by first | rfl | decide)
      · skip
        exfalso; omega
    · rw [upd_ne (by omega)]; exact b2 j hj
    · refine ⟨upd_self, hl, fun j hj => ?_⟩
      rw [upd_ne (by omega), show 0 + 1 + j = 1 + j from by omega]; exact b2 j hj
  | succ k ih =>
    intro i hi u6 u7 S2 h2 hF
    obtain ⟨h1, ⟨g, g1, g2⟩, ⟨f, f1, f2⟩, G, b1, b2⟩ := id h2
    have h60 := f2.2.1
    have hl2 : (stepN T xs seed (i + 1)).1.length ≤ 60 := Nat.le_trans (stepN_le (by omega)) hl
    have hr := m_ruled (scr := scr) (l := l) h1 g1 g2 ht f1 f2 (show i < xs.length by omega)
    cases hq : ruleAt T xs i with
    | none =>
      have hr0 := hr.1 hq
      have e : stepN T xs seed (i + 1) = ((stepN T xs seed i).1 ++ listAt T xs i (drwN (lcg (stepN T xs seed i).2)), lcg (stepN T xs seed i).2) := by
        show ((stepN T xs seed i).1 ++ (prodAt T xs i (stepN T xs seed i).2).1, (prodAt T xs i (stepN T xs seed i).2).2) = _
        unfold prodAt
        rw [hq]
      have hx6 := (f2.2.2 i (by omega)).2
      have ex1 : f (i + 1) = nI (xs.getD i 0) := by rw [show i + 1 = 0 + 1 + i from by omega]; exact (f2.2.2 i (by omega)).1
      obtain ⟨hl1, hl3, hl4, hl5⟩ := g2.1 (xs.getD i 0) hx6
      have hmod := Nat.mod_lt (drwN (lcg (stepN T xs seed i).2)) (show (T.1 (xs.getD i 0)).length > 0 by omega)
      obtain ⟨hmp, hok⟩ := hl5 _ hmod
      have h4 := hok.1
      have hS3 : St3 (S2.put 105 (mObj q.1 q.2.1 q.2.2.1 q.2.2.2.1 (lcg (stepN T xs seed i).2) q.2.2.2.2.1 q.2.2.2.2.2)) a b t T xs q (stepN T xs seed i).1 (lcg (stepN T xs seed i).2) := ⟨put_self h1, ⟨g, put_at g1 (by decide), g2⟩, ⟨f, put_at f1 (fun z => hna z.symm), f2⟩, G, put_at b1 (fun z => hne.1 z.symm), b2⟩
      have o3 := hS3.1
      have g3 : (S2.put 105 (mObj q.1 q.2.1 q.2.2.1 q.2.2.2.1 (lcg (stepN T xs seed i).2) q.2.2.2.2.1 q.2.2.2.2.2)).1[106]? = some (aI 417 g) := put_at g1 (by decide)
      have b3 : (S2.put 105 (mObj q.1 q.2.1 q.2.2.1 q.2.2.2.1 (lcg (stepN T xs seed i).2) q.2.2.2.2.1 q.2.2.2.2.2)).1[b]? = some (aI 61 G) := put_at b1 (fun z => hne.1 z.symm)
      have hS4 := hS3.app b3 hok hne
      have hS5 : St3 ((S2.put 105 (mObj q.1 q.2.1 q.2.2.1 q.2.2.2.1 (lcg (stepN T xs seed i).2) q.2.2.2.2.1 q.2.2.2.2.2)).put b (aI 61 (fillF G ((stepN T xs seed i).1.length + 1) (fun j => nI (((T.1 (xs.getD i 0)).getD (drwN (lcg (stepN T xs seed i).2) % (T.1 (xs.getD i 0)).length) []).getD j 0)) ((T.1 (xs.getD i 0)).getD (drwN (lcg (stepN T xs seed i).2) % (T.1 (xs.getD i 0)).length) []).length))) a b t T xs q (stepN T xs seed (i + 1)).1 (stepN T xs seed (i + 1)).2 := by
        rw [e]; exact hS4
      obtain ⟨S3, m3, r3⟩ := ih (i + 1) (by omega) (some (.int (nI (139 * t + 16 * xs.getD i 0 + 1 + 5 * (drwN (lcg (stepN T xs seed i).2) % (T.1 (xs.getD i 0)).length))))) (some (.int (nI ((T.1 (xs.getD i 0)).getD (drwN (lcg (stepN T xs seed i).2) % (T.1 (xs.getD i 0)).length) []).length))) _ hS5 ((hF.tr (Fr.put _ _ (by simp))).tr (Fr.put _ _ (by simp)))
      refine ⟨S3, fun d => ?_, r3⟩
      have hk := m3 d
      rw [e] at hk hl2
      dsimp only at hk hl2
      unfold listAt at hk hl2
      rw [List.length_append] at hk hl2
      refine ev_iload i_Md_step3_6 rfl ?_
      refine ev_aload_n i_Md_step3_8 rfl ?_
      refine ev_iconstN (v := 0) i_Md_step3_9 (by decide) ?_
      refine ev_ialdN i_Md_step3_10 f1 (by decide) (by decide) ?_
      rw [f2.1]
      refine ev_icmp_gtN i_Md_step3_11 (by omega) (by omega) (fun hc_11 => ?_) (fun hc_11 => ?_)
      · skip
        exfalso; omega
      · skip
        refine ev_aload_n i_Md_step3_14 rfl ?_
        refine ev_iload_n i_Md_step3_15 rfl ?_
        refine ev_aload_n i_Md_step3_16 rfl ?_
        refine ev_iload i_Md_step3_17 rfl ?_
        refine ev_callV3 i_Md_step3_19 rfl h1 (Nat.le_of_ble_eq_true rfl) (hr0 _) ?_
        refine ev_ist_6 i_Md_step3_22 rfl ?_
        refine ev_iload i_Md_step3_24 rfl ?_
        refine ev_if_ge i_Md_step3_26 (fun hc_26 => ?_) (fun hc_26 => ?_)
        · skip
          exact absurd hc_26 (by decide)
        · skip
          refine ev_iload_n i_Md_step3_29 rfl ?_
          refine ev_aload_n i_Md_step3_30 rfl ?_
          refine ev_iload i_Md_step3_31 rfl ?_
          refine ev_ialdN i_Md_step3_33 f1 (by omega) (by decide) ?_
          rw [ex1]
          refine ev_callS2 i_Md_step3_34 rfl (Nat.le_of_ble_eq_true rfl) m_listAt ?_
          refine ev_ist_7 i_Md_step3_37 rfl ?_
          refine ev_aload_n i_Md_step3_39 rfl ?_
          refine ev_aload_n i_Md_step3_40 rfl ?_
          refine ev_get i_Md_step3_41 h1 rfl ?_
          refine ev_LdcI i_Md_step3_44 ?_
          refine ev_imul i_Md_step3_46 ?_
          refine ev_sipushN (v := 12345) i_Md_step3_47 (by decide) ?_
          refine ev_iadd i_Md_step3_50 ?_
          refine ev_mput_drawn i_Md_step3_51 h1 ?_
          refine ev_eqS (S1 := (S2.put 105 (mObj q.1 q.2.1 q.2.2.1 q.2.2.2.1 (lcg (stepN T xs seed i).2) q.2.2.2.2.1 q.2.2.2.2.2))) rfl ?_
          refine ev_iload i_Md_step3_54 rfl ?_
          refine ev_aload_n i_Md_step3_56 rfl ?_
          refine ev_get i_Md_step3_57 o3 rfl ?_
          refine ev_bipushN (v := 16) i_Md_step3_60 (by decide) ?_
          refine ev_iushr i_Md_step3_62 ?_
          rw [drw_nI]
          refine ev_aload_n i_Md_step3_63 rfl ?_
          refine ev_get i_Md_step3_64 o3 rfl ?_
          refine ev_iload i_Md_step3_67 rfl ?_
          refine ev_ialdN i_Md_step3_69 (put_at g1 (by decide)) (by omega) (by decide) ?_
          rw [hl1]
          refine ev_iremN i_Md_step3_70 (by omega) (by have := drwN_lt (lcg (stepN T xs seed i).2); omega) (by omega) ?_
          refine ev_callS2 i_Md_step3_71 rfl (Nat.le_of_ble_eq_true rfl) m_productionAt ?_
          refine ev_ist_6 i_Md_step3_74 rfl ?_
          refine ev_iconstN (v := 0) i_Md_step3_76 (by decide) ?_
          refine ev_ist_7 i_Md_step3_77 rfl ?_
          refine ev_eqS (S1 := (S2.put 105 (mObj q.1 q.2.1 q.2.2.1 q.2.2.2.1 (lcg (stepN T xs seed i).2) q.2.2.2.2.1 q.2.2.2.2.2)).put b (aI 61 (fillF G ((stepN T xs seed i).1.length + 1) (fun j => nI (((T.1 (xs.getD i 0)).getD (drwN (lcg (stepN T xs seed i).2) % (T.1 (xs.getD i 0)).length) []).getD j 0)) 0))) (by rw [fillF_0]; exact put_same b3) ?_
          exact lp_step3_in (n := (stepN T xs seed i).1.length) (pl := i + 1) o3 g3 b3 ⟨hne.1, hne.2.1⟩ (by omega) hmp hok (by omega) (by omega) hk ((T.1 (xs.getD i 0)).getD (drwN (lcg (stepN T xs seed i).2) % (T.1 (xs.getD i 0)).length) []).length 0 (by omega)
    | some p =>
      obtain ⟨o, ho, hmp, hok, hr0⟩ := hr.2 p hq
      have e : stepN T xs seed (i + 1) = ((stepN T xs seed i).1 ++ p, (stepN T xs seed i).2) := by
        show ((stepN T xs seed i).1 ++ (prodAt T xs i (stepN T xs seed i).2).1, (prodAt T xs i (stepN T xs seed i).2).2) = _
        unfold prodAt
        rw [hq]
      have h4 := hok.1
      have hS4 := h2.app b1 hok hne
      have hS5 : St3 (S2.put b (aI 61 (fillF G ((stepN T xs seed i).1.length + 1) (fun j => nI (p.getD j 0)) p.length))) a b t T xs q (stepN T xs seed (i + 1)).1 (stepN T xs seed (i + 1)).2 := by
        rw [e]; exact hS4
      obtain ⟨S3, m3, r3⟩ := ih (i + 1) (by omega) (some (.int (nI o))) (some (.int (nI p.length))) _ hS5 (hF.tr (Fr.put _ _ (by simp)))
      refine ⟨S3, fun d => ?_, r3⟩
      have hk := m3 d
      rw [e] at hk hl2
      dsimp only at hk hl2
      rw [List.length_append] at hk hl2
      refine ev_iload i_Md_step3_6 rfl ?_
      refine ev_aload_n i_Md_step3_8 rfl ?_
      refine ev_iconstN (v := 0) i_Md_step3_9 (by decide) ?_
      refine ev_ialdN i_Md_step3_10 f1 (by decide) (by decide) ?_
      rw [f2.1]
      refine ev_icmp_gtN i_Md_step3_11 (by omega) (by omega) (fun hc_11 => ?_) (fun hc_11 => ?_)
      · skip
        exfalso; omega
      · skip
        refine ev_aload_n i_Md_step3_14 rfl ?_
        refine ev_iload_n i_Md_step3_15 rfl ?_
        refine ev_aload_n i_Md_step3_16 rfl ?_
        refine ev_iload i_Md_step3_17 rfl ?_
        refine ev_callV3 i_Md_step3_19 rfl h1 (Nat.le_of_ble_eq_true rfl) (hr0 _) ?_
        refine ev_ist_6 i_Md_step3_22 rfl ?_
        refine ev_iload i_Md_step3_24 rfl ?_
        refine ev_if_ge_N i_Md_step3_26 (by omega) (fun hc_26 => ?_) (fun hc_26 => ?_)
        · skip
          refine ev_iconstN (v := 0) i_Md_step3_76 (by decide) ?_
          refine ev_ist_7 i_Md_step3_77 rfl ?_
          refine ev_eqS (S1 := S2.put b (aI 61 (fillF G ((stepN T xs seed i).1.length + 1) (fun j => nI ((p).getD j 0)) 0))) (by rw [fillF_0]; exact put_same b1) ?_
          exact lp_step3_in (n := (stepN T xs seed i).1.length) (pl := i + 1) h1 g1 b1 ⟨hne.1, hne.2.1⟩ (by omega) hmp hok (by omega) (by omega) hk p.length 0 (by omega)
        · skip
          exfalso; omega
theorem lp_step3_no {scr : Scr} {l : Launch} {S : Sto} {t a b : Nat} {T : TabV} {xs : List Nat} {seed : Int32} {q : Int32 × Int32 × Int32 × Int32 × Int32 × Int32} (ht : t < 3) (hne : b ≠ 105 ∧ b ≠ 106 ∧ b ≠ a) (hna : a ≠ 105) (hl : 60 < (stepW T xs seed).length) : ∀ (k i : Nat), i + k = xs.length → ∀ (u6 u7 : Option Value) (S2 : Sto), St3 S2 a b t T xs q (stepN T xs seed i).1 (stepN T xs seed i).2 → (stepN T xs seed i).1.length ≤ 60 → Fr [105, b] S S2 → ∃ S3, (∀ d, Ev scr l (d + 4) M_Md_step3 6 [some (.ref 105), some (.int (nI t)), some (.ref a), some (.ref b), some (.int (nI (stepN T xs seed i).1.length)), some (.int (nI (i + 1))), u6, u7] [] S2 (.inl (some (.int (nI 0))), S3)) ∧ (∃ x, St3 S3 a b t T xs q [] x) ∧ Fr [105, b] S S3 := by
  intro k
  induction k with
  | zero =>
    intro i hi u6 u7 S2 h2 h60 hF
    have z : i = xs.length := by omega
    subst z
    exact absurd hl (by show ¬ 60 < (stepN T xs seed xs.length).1.length; omega)
  | succ k ih =>
    intro i hi u6 u7 S2 h2 hl0 hF
    obtain ⟨h1, ⟨g, g1, g2⟩, ⟨f, f1, f2⟩, G, b1, b2⟩ := id h2
    have h60 := f2.2.1
    have hr := m_ruled (scr := scr) (l := l) h1 g1 g2 ht f1 f2 (show i < xs.length by omega)
    cases hq : ruleAt T xs i with
    | none =>
      have hr0 := hr.1 hq
      have e : stepN T xs seed (i + 1) = ((stepN T xs seed i).1 ++ listAt T xs i (drwN (lcg (stepN T xs seed i).2)), lcg (stepN T xs seed i).2) := by
        show ((stepN T xs seed i).1 ++ (prodAt T xs i (stepN T xs seed i).2).1, (prodAt T xs i (stepN T xs seed i).2).2) = _
        unfold prodAt
        rw [hq]
      have hx6 := (f2.2.2 i (by omega)).2
      have ex1 : f (i + 1) = nI (xs.getD i 0) := by rw [show i + 1 = 0 + 1 + i from by omega]; exact (f2.2.2 i (by omega)).1
      obtain ⟨hl1, hl3, hl4, hl5⟩ := g2.1 (xs.getD i 0) hx6
      have hmod := Nat.mod_lt (drwN (lcg (stepN T xs seed i).2)) (show (T.1 (xs.getD i 0)).length > 0 by omega)
      obtain ⟨hmp, hok⟩ := hl5 _ hmod
      have h4 := hok.1
      have hS3 : St3 (S2.put 105 (mObj q.1 q.2.1 q.2.2.1 q.2.2.2.1 (lcg (stepN T xs seed i).2) q.2.2.2.2.1 q.2.2.2.2.2)) a b t T xs q (stepN T xs seed i).1 (lcg (stepN T xs seed i).2) := ⟨put_self h1, ⟨g, put_at g1 (by decide), g2⟩, ⟨f, put_at f1 (fun z => hna z.symm), f2⟩, G, put_at b1 (fun z => hne.1 z.symm), b2⟩
      have o3 := hS3.1
      have g3 : (S2.put 105 (mObj q.1 q.2.1 q.2.2.1 q.2.2.2.1 (lcg (stepN T xs seed i).2) q.2.2.2.2.1 q.2.2.2.2.2)).1[106]? = some (aI 417 g) := put_at g1 (by decide)
      have b3 : (S2.put 105 (mObj q.1 q.2.1 q.2.2.1 q.2.2.2.1 (lcg (stepN T xs seed i).2) q.2.2.2.2.1 q.2.2.2.2.2)).1[b]? = some (aI 61 G) := put_at b1 (fun z => hne.1 z.symm)
      have hS4 := hS3.app b3 hok hne
      by_cases hz : (stepN T xs seed (i + 1)).1.length ≤ 60
      · have hS5 : St3 ((S2.put 105 (mObj q.1 q.2.1 q.2.2.1 q.2.2.2.1 (lcg (stepN T xs seed i).2) q.2.2.2.2.1 q.2.2.2.2.2)).put b (aI 61 (fillF G ((stepN T xs seed i).1.length + 1) (fun j => nI (((T.1 (xs.getD i 0)).getD (drwN (lcg (stepN T xs seed i).2) % (T.1 (xs.getD i 0)).length) []).getD j 0)) ((T.1 (xs.getD i 0)).getD (drwN (lcg (stepN T xs seed i).2) % (T.1 (xs.getD i 0)).length) []).length))) a b t T xs q (stepN T xs seed (i + 1)).1 (stepN T xs seed (i + 1)).2 := by
          rw [e]; exact hS4
        obtain ⟨S3, m3, r3⟩ := ih (i + 1) (by omega) (some (.int (nI (139 * t + 16 * xs.getD i 0 + 1 + 5 * (drwN (lcg (stepN T xs seed i).2) % (T.1 (xs.getD i 0)).length))))) (some (.int (nI ((T.1 (xs.getD i 0)).getD (drwN (lcg (stepN T xs seed i).2) % (T.1 (xs.getD i 0)).length) []).length))) _ hS5 hz ((hF.tr (Fr.put _ _ (by simp))).tr (Fr.put _ _ (by simp)))
        refine ⟨S3, fun d => ?_, r3⟩
        have hk := m3 d
        rw [e] at hk hz
        dsimp only at hk hz
        unfold listAt at hk hz
        rw [List.length_append] at hk hz
        refine ev_iload i_Md_step3_6 rfl ?_
        refine ev_aload_n i_Md_step3_8 rfl ?_
        refine ev_iconstN (v := 0) i_Md_step3_9 (by decide) ?_
        refine ev_ialdN i_Md_step3_10 f1 (by decide) (by decide) ?_
        rw [f2.1]
        refine ev_icmp_gtN i_Md_step3_11 (by omega) (by omega) (fun hc_11 => ?_) (fun hc_11 => ?_)
        · skip
          exfalso; omega
        · skip
          refine ev_aload_n i_Md_step3_14 rfl ?_
          refine ev_iload_n i_Md_step3_15 rfl ?_
          refine ev_aload_n i_Md_step3_16 rfl ?_
          refine ev_iload i_Md_step3_17 rfl ?_
          refine ev_callV3 i_Md_step3_19 rfl h1 (Nat.le_of_ble_eq_true rfl) (hr0 _) ?_
          refine ev_ist_6 i_Md_step3_22 rfl ?_
          refine ev_iload i_Md_step3_24 rfl ?_
          refine ev_if_ge i_Md_step3_26 (fun hc_26 => ?_) (fun hc_26 => ?_)
          · skip
            exact absurd hc_26 (by decide)
          · skip
            refine ev_iload_n i_Md_step3_29 rfl ?_
            refine ev_aload_n i_Md_step3_30 rfl ?_
            refine ev_iload i_Md_step3_31 rfl ?_
            refine ev_ialdN i_Md_step3_33 f1 (by omega) (by decide) ?_
            rw [ex1]
            refine ev_callS2 i_Md_step3_34 rfl (Nat.le_of_ble_eq_true rfl) m_listAt ?_
            refine ev_ist_7 i_Md_step3_37 rfl ?_
            refine ev_aload_n i_Md_step3_39 rfl ?_
            refine ev_aload_n i_Md_step3_40 rfl ?_
            refine ev_get i_Md_step3_41 h1 rfl ?_
            refine ev_LdcI i_Md_step3_44 ?_
            refine ev_imul i_Md_step3_46 ?_
            refine ev_sipushN (v := 12345) i_Md_step3_47 (by decide) ?_
            refine ev_iadd i_Md_step3_50 ?_
            refine ev_mput_drawn i_Md_step3_51 h1 ?_
            refine ev_eqS (S1 := (S2.put 105 (mObj q.1 q.2.1 q.2.2.1 q.2.2.2.1 (lcg (stepN T xs seed i).2) q.2.2.2.2.1 q.2.2.2.2.2))) rfl ?_
            refine ev_iload i_Md_step3_54 rfl ?_
            refine ev_aload_n i_Md_step3_56 rfl ?_
            refine ev_get i_Md_step3_57 o3 rfl ?_
            refine ev_bipushN (v := 16) i_Md_step3_60 (by decide) ?_
            refine ev_iushr i_Md_step3_62 ?_
            rw [drw_nI]
            refine ev_aload_n i_Md_step3_63 rfl ?_
            refine ev_get i_Md_step3_64 o3 rfl ?_
            refine ev_iload i_Md_step3_67 rfl ?_
            refine ev_ialdN i_Md_step3_69 (put_at g1 (by decide)) (by omega) (by decide) ?_
            rw [hl1]
            refine ev_iremN i_Md_step3_70 (by omega) (by have := drwN_lt (lcg (stepN T xs seed i).2); omega) (by omega) ?_
            refine ev_callS2 i_Md_step3_71 rfl (Nat.le_of_ble_eq_true rfl) m_productionAt ?_
            refine ev_ist_6 i_Md_step3_74 rfl ?_
            refine ev_iconstN (v := 0) i_Md_step3_76 (by decide) ?_
            refine ev_ist_7 i_Md_step3_77 rfl ?_
            refine ev_eqS (S1 := (S2.put 105 (mObj q.1 q.2.1 q.2.2.1 q.2.2.2.1 (lcg (stepN T xs seed i).2) q.2.2.2.2.1 q.2.2.2.2.2)).put b (aI 61 (fillF G ((stepN T xs seed i).1.length + 1) (fun j => nI (((T.1 (xs.getD i 0)).getD (drwN (lcg (stepN T xs seed i).2) % (T.1 (xs.getD i 0)).length) []).getD j 0)) 0))) (by rw [fillF_0]; exact put_same b3) ?_
            exact lp_step3_in (n := (stepN T xs seed i).1.length) (pl := i + 1) o3 g3 b3 ⟨hne.1, hne.2.1⟩ (by omega) hmp hok (by omega) (by omega) hk ((T.1 (xs.getD i 0)).getD (drwN (lcg (stepN T xs seed i).2) % (T.1 (xs.getD i 0)).length) []).length 0 (by omega)
      · rw [e] at hz
        dsimp only at hz
        unfold listAt at hz
        rw [List.length_append] at hz
        refine ⟨(S2.put 105 (mObj q.1 q.2.1 q.2.2.1 q.2.2.2.1 (lcg (stepN T xs seed i).2) q.2.2.2.2.1 q.2.2.2.2.2)).put b (aI 61 (fillF G ((stepN T xs seed i).1.length + 1) (fun j => nI (((T.1 (xs.getD i 0)).getD (drwN (lcg (stepN T xs seed i).2) % (T.1 (xs.getD i 0)).length) []).getD j 0)) (60 - (stepN T xs seed i).1.length))), fun d => ?_, ⟨lcg (stepN T xs seed i).2, put_at o3 hne.1, ⟨g, put_at g3 hne.2.1, g2⟩, ⟨f, put_at (put_at f1 (fun z => hna z.symm)) hne.2.2, f2⟩, _, put_self b3, fun j hj => absurd hj (by show ¬ j < 0; omega)⟩, (hF.tr (Fr.put _ _ (by simp))).tr (Fr.put _ _ (by simp))⟩
        refine ev_iload i_Md_step3_6 rfl ?_
        refine ev_aload_n i_Md_step3_8 rfl ?_
        refine ev_iconstN (v := 0) i_Md_step3_9 (by decide) ?_
        refine ev_ialdN i_Md_step3_10 f1 (by decide) (by decide) ?_
        rw [f2.1]
        refine ev_icmp_gtN i_Md_step3_11 (by omega) (by omega) (fun hc_11 => ?_) (fun hc_11 => ?_)
        · skip
          exfalso; omega
        · skip
          refine ev_aload_n i_Md_step3_14 rfl ?_
          refine ev_iload_n i_Md_step3_15 rfl ?_
          refine ev_aload_n i_Md_step3_16 rfl ?_
          refine ev_iload i_Md_step3_17 rfl ?_
          refine ev_callV3 i_Md_step3_19 rfl h1 (Nat.le_of_ble_eq_true rfl) (hr0 _) ?_
          refine ev_ist_6 i_Md_step3_22 rfl ?_
          refine ev_iload i_Md_step3_24 rfl ?_
          refine ev_if_ge i_Md_step3_26 (fun hc_26 => ?_) (fun hc_26 => ?_)
          · skip
            exact absurd hc_26 (by decide)
          · skip
            refine ev_iload_n i_Md_step3_29 rfl ?_
            refine ev_aload_n i_Md_step3_30 rfl ?_
            refine ev_iload i_Md_step3_31 rfl ?_
            refine ev_ialdN i_Md_step3_33 f1 (by omega) (by decide) ?_
            rw [ex1]
            refine ev_callS2 i_Md_step3_34 rfl (Nat.le_of_ble_eq_true rfl) m_listAt ?_
            refine ev_ist_7 i_Md_step3_37 rfl ?_
            refine ev_aload_n i_Md_step3_39 rfl ?_
            refine ev_aload_n i_Md_step3_40 rfl ?_
            refine ev_get i_Md_step3_41 h1 rfl ?_
            refine ev_LdcI i_Md_step3_44 ?_
            refine ev_imul i_Md_step3_46 ?_
            refine ev_sipushN (v := 12345) i_Md_step3_47 (by decide) ?_
            refine ev_iadd i_Md_step3_50 ?_
            refine ev_mput_drawn i_Md_step3_51 h1 ?_
            refine ev_eqS (S1 := (S2.put 105 (mObj q.1 q.2.1 q.2.2.1 q.2.2.2.1 (lcg (stepN T xs seed i).2) q.2.2.2.2.1 q.2.2.2.2.2))) rfl ?_
            refine ev_iload i_Md_step3_54 rfl ?_
            refine ev_aload_n i_Md_step3_56 rfl ?_
            refine ev_get i_Md_step3_57 o3 rfl ?_
            refine ev_bipushN (v := 16) i_Md_step3_60 (by decide) ?_
            refine ev_iushr i_Md_step3_62 ?_
            rw [drw_nI]
            refine ev_aload_n i_Md_step3_63 rfl ?_
            refine ev_get i_Md_step3_64 o3 rfl ?_
            refine ev_iload i_Md_step3_67 rfl ?_
            refine ev_ialdN i_Md_step3_69 (put_at g1 (by decide)) (by omega) (by decide) ?_
            rw [hl1]
            refine ev_iremN i_Md_step3_70 (by omega) (by have := drwN_lt (lcg (stepN T xs seed i).2); omega) (by omega) ?_
            refine ev_callS2 i_Md_step3_71 rfl (Nat.le_of_ble_eq_true rfl) m_productionAt ?_
            refine ev_ist_6 i_Md_step3_74 rfl ?_
            refine ev_iconstN (v := 0) i_Md_step3_76 (by decide) ?_
            refine ev_ist_7 i_Md_step3_77 rfl ?_
            refine ev_eqS (S1 := (S2.put 105 (mObj q.1 q.2.1 q.2.2.1 q.2.2.2.1 (lcg (stepN T xs seed i).2) q.2.2.2.2.1 q.2.2.2.2.2)).put b (aI 61 (fillF G ((stepN T xs seed i).1.length + 1) (fun j => nI (((T.1 (xs.getD i 0)).getD (drwN (lcg (stepN T xs seed i).2) % (T.1 (xs.getD i 0)).length) []).getD j 0)) 0))) (by rw [fillF_0]; exact put_same b3) ?_
            exact lp_step3_in_no (n := (stepN T xs seed i).1.length) (pl := i + 1) o3 g3 b3 ⟨hne.1, hne.2.1⟩ (by omega) hmp hok (by omega) hl0 (by omega) (60 - (stepN T xs seed i).1.length) 0 (by omega)
    | some p =>
      obtain ⟨o, ho, hmp, hok, hr0⟩ := hr.2 p hq
      have e : stepN T xs seed (i + 1) = ((stepN T xs seed i).1 ++ p, (stepN T xs seed i).2) := by
        show ((stepN T xs seed i).1 ++ (prodAt T xs i (stepN T xs seed i).2).1, (prodAt T xs i (stepN T xs seed i).2).2) = _
        unfold prodAt
        rw [hq]
      have h4 := hok.1
      have hS4 := h2.app b1 hok hne
      by_cases hz : (stepN T xs seed (i + 1)).1.length ≤ 60
      · have hS5 : St3 (S2.put b (aI 61 (fillF G ((stepN T xs seed i).1.length + 1) (fun j => nI (p.getD j 0)) p.length))) a b t T xs q (stepN T xs seed (i + 1)).1 (stepN T xs seed (i + 1)).2 := by
          rw [e]; exact hS4
        obtain ⟨S3, m3, r3⟩ := ih (i + 1) (by omega) (some (.int (nI o))) (some (.int (nI p.length))) _ hS5 hz (hF.tr (Fr.put _ _ (by simp)))
        refine ⟨S3, fun d => ?_, r3⟩
        have hk := m3 d
        rw [e] at hk hz
        dsimp only at hk hz
        rw [List.length_append] at hk hz
        refine ev_iload i_Md_step3_6 rfl ?_
        refine ev_aload_n i_Md_step3_8 rfl ?_
        refine ev_iconstN (v := 0) i_Md_step3_9 (by decide) ?_
        refine ev_ialdN i_Md_step3_10 f1 (by decide) (by decide) ?_
        rw [f2.1]
        refine ev_icmp_gtN i_Md_step3_11 (by omega) (by omega) (fun hc_11 => ?_) (fun hc_11 => ?_)
        · skip
          exfalso; omega
        · skip
          refine ev_aload_n i_Md_step3_14 rfl ?_
          refine ev_iload_n i_Md_step3_15 rfl ?_
          refine ev_aload_n i_Md_step3_16 rfl ?_
          refine ev_iload i_Md_step3_17 rfl ?_
          refine ev_callV3 i_Md_step3_19 rfl h1 (Nat.le_of_ble_eq_true rfl) (hr0 _) ?_
          refine ev_ist_6 i_Md_step3_22 rfl ?_
          refine ev_iload i_Md_step3_24 rfl ?_
          refine ev_if_ge_N i_Md_step3_26 (by omega) (fun hc_26 => ?_) (fun hc_26 => ?_)
          · skip
            refine ev_iconstN (v := 0) i_Md_step3_76 (by decide) ?_
            refine ev_ist_7 i_Md_step3_77 rfl ?_
            refine ev_eqS (S1 := S2.put b (aI 61 (fillF G ((stepN T xs seed i).1.length + 1) (fun j => nI ((p).getD j 0)) 0))) (by rw [fillF_0]; exact put_same b1) ?_
            exact lp_step3_in (n := (stepN T xs seed i).1.length) (pl := i + 1) h1 g1 b1 ⟨hne.1, hne.2.1⟩ (by omega) hmp hok (by omega) (by omega) hk p.length 0 (by omega)
          · skip
            exfalso; omega
      · rw [e] at hz
        dsimp only at hz
        rw [List.length_append] at hz
        refine ⟨S2.put b (aI 61 (fillF G ((stepN T xs seed i).1.length + 1) (fun j => nI (p.getD j 0)) (60 - (stepN T xs seed i).1.length))), fun d => ?_, ⟨(stepN T xs seed i).2, put_at h1 hne.1, ⟨g, put_at g1 hne.2.1, g2⟩, ⟨f, put_at f1 hne.2.2, f2⟩, _, put_self b1, fun j hj => absurd hj (by show ¬ j < 0; omega)⟩, hF.tr (Fr.put _ _ (by simp))⟩
        refine ev_iload i_Md_step3_6 rfl ?_
        refine ev_aload_n i_Md_step3_8 rfl ?_
        refine ev_iconstN (v := 0) i_Md_step3_9 (by decide) ?_
        refine ev_ialdN i_Md_step3_10 f1 (by decide) (by decide) ?_
        rw [f2.1]
        refine ev_icmp_gtN i_Md_step3_11 (by omega) (by omega) (fun hc_11 => ?_) (fun hc_11 => ?_)
        · skip
          exfalso; omega
        · skip
          refine ev_aload_n i_Md_step3_14 rfl ?_
          refine ev_iload_n i_Md_step3_15 rfl ?_
          refine ev_aload_n i_Md_step3_16 rfl ?_
          refine ev_iload i_Md_step3_17 rfl ?_
          refine ev_callV3 i_Md_step3_19 rfl h1 (Nat.le_of_ble_eq_true rfl) (hr0 _) ?_
          refine ev_ist_6 i_Md_step3_22 rfl ?_
          refine ev_iload i_Md_step3_24 rfl ?_
          refine ev_if_ge_N i_Md_step3_26 (by omega) (fun hc_26 => ?_) (fun hc_26 => ?_)
          · skip
            refine ev_iconstN (v := 0) i_Md_step3_76 (by decide) ?_
            refine ev_ist_7 i_Md_step3_77 rfl ?_
            refine ev_eqS (S1 := S2.put b (aI 61 (fillF G ((stepN T xs seed i).1.length + 1) (fun j => nI ((p).getD j 0)) 0))) (by rw [fillF_0]; exact put_same b1) ?_
            exact lp_step3_in_no (n := (stepN T xs seed i).1.length) (pl := i + 1) h1 g1 b1 ⟨hne.1, hne.2.1⟩ (by omega) hmp hok (by omega) hl0 (by omega) (60 - (stepN T xs seed i).1.length) 0 (by omega)
          · skip
            exfalso; omega
theorem m_step3 {scr : Scr} {l : Launch} {S : Sto} {t a b : Nat} {T : TabV} {xs : List Nat} {seed : Int32} {q : Int32 × Int32 × Int32 × Int32 × Int32 × Int32} (ht : t < 3) (hne : b ≠ 105 ∧ b ≠ 106 ∧ b ≠ a) (hna : a ≠ 105) (h2 : St3 S a b t T xs q [] seed) : ((stepW T xs seed).length ≤ 60 → ∃ S3, (∀ d, MetA scr l (d + 4) M_Md_step3 [.ref 105, .int (nI t), .ref a, .ref b] S (.inl (some (.int (nI 1))), S3)) ∧ (∃ x, St3 S3 a b t T xs q [] x) ∧ (∃ G, S3.1[b]? = some (aI 61 G) ∧ RowW G 0 (stepW T xs seed)) ∧ Fr [105, b] S S3) ∧ (60 < (stepW T xs seed).length → ∃ S3, (∀ d, MetA scr l (d + 4) M_Md_step3 [.ref 105, .int (nI t), .ref a, .ref b] S (.inl (some (.int (nI 0))), S3)) ∧ (∃ x, St3 S3 a b t T xs q [] x) ∧ Fr [105, b] S S3) := by
  refine ⟨fun hl => ?_, fun hl => ?_⟩
  · obtain ⟨S3, m3, ⟨x, e1, e2, e3, G, b1, b2⟩, r3⟩ := lp_step3 (scr := scr) (l := l) ht hne hna hl xs.length 0 (by omega) none none S h2 (Fr.rf _ _)
    refine ⟨S3, fun d => ?_, ⟨x, e1, e2, e3, G, b1, fun j hj => absurd hj (by show ¬ j < 0; omega)⟩, r3⟩
    refine MetA.of rfl (by decide +kernel) (Nat.le_of_ble_eq_true rfl) ?_
    refine ev_iconstN (v := 0) i_Md_step3_0 (by decide) ?_
    refine ev_ist_4 i_Md_step3_1 rfl ?_
    refine ev_iconstN (v := 1) i_Md_step3_3 (by decide) ?_
    refine ev_ist_5 i_Md_step3_4 rfl ?_
    exact m3 d
  · obtain ⟨S3, m3, r3⟩ := lp_step3_no (scr := scr) (l := l) ht hne hna hl xs.length 0 (by omega) none none S h2 (by show 0 ≤ 60; omega) (Fr.rf _ _)
    refine ⟨S3, fun d => ?_, r3⟩
    refine MetA.of rfl (by decide +kernel) (Nat.le_of_ble_eq_true rfl) ?_
    refine ev_iconstN (v := 0) i_Md_step3_0 (by decide) ?_
    refine ev_ist_4 i_Md_step3_1 rfl ?_
    refine ev_iconstN (v := 1) i_Md_step3_3 (by decide) ?_
    refine ev_ist_5 i_Md_step3_4 rfl ?_
    exact m3 d

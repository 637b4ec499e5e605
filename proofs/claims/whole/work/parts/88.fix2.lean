/-! the class Figure 2 -/
theorem g_draw {scr : Scr} {l : Launch} {S : Sto} {pts i : Nat} {F : Fig} {p : Nat → UInt64 × UInt64} (hS : FiS S pts F p) (hV : FigV F i) (hi : i ≤ 59) : ∃ S1, (∀ d, MetA scr l (d + 2) M_Fi_drawAhead [.ref 95] S (.inl none, S1)) ∧ FiS S1 pts (drawF F) p ∧ Fr fiK S S1 := by
  have hG := carry_ok (c := 1) (G := drawF F) hV (by omega) rfl
  obtain ⟨⟨x, y, st, h⟩, K, L, ink, de⟩ := F
  obtain ⟨o0, a1, a2, a3, a4⟩ := hS
  have o0 : S.1[95]? = some (fiO pts L.length ink K.length de x y st h) := o0
  have a3 : ArS S 98 L := a3
  have a4 : ArK S K := a4
  have hax := ax_ok hV.1 (show i ≤ 60 by omega)
  have nx : vf_n64 (aheadX (x, y, st, h)) := hax.1.1.n64
  have ny : vf_n64 (aheadY (x, y, st, h)) := hax.2.1.1.n64
  have hh : h < 4 := hV.1.2.2.2
  have hL0 : L.length ≤ i := hV.2.2.2.1
  have hL : L.length ≤ 60 := by omega
  have o1 : (S.put 95 (fiO pts L.length ink K.length de (aheadX (x, y, st, h)) (aheadY (x, y, st, h)) st h)).1[95]? = _ := put_self o0
  have F1 : Fr [95] S (S.put 95 (fiO pts L.length ink K.length de (aheadX (x, y, st, h)) (aheadY (x, y, st, h)) st h)) := Fr.put _ _ (by simp)
  have s1 := a3.fr F1 (by decide)
  cases hq : isSg L x y (aheadX (x, y, st, h)) (aheadY (x, y, st, h)) with
  | true =>
    refine ⟨(S.put 95 (fiO pts L.length ink K.length de (aheadX (x, y, st, h)) (aheadY (x, y, st, h)) st h)), fun d => ?_, ?_, F1.mono (by simp)⟩
    · refine MetA.of rfl (by decide +kernel) (Nat.le_of_ble_eq_true rfl) ?_
      refine ev_aload_n i_Fi_drawAhead_0 rfl ?_
      refine ev_get i_Fi_drawAhead_1 o0 rfl ?_
      refine ev_dst_n_1 i_Fi_drawAhead_4 rfl ?_
      refine ev_aload_n i_Fi_drawAhead_5 rfl ?_
      refine ev_get i_Fi_drawAhead_6 o0 rfl ?_
      refine ev_dst_n_3 i_Fi_drawAhead_9 rfl ?_
      refine ev_aload_n i_Fi_drawAhead_10 rfl ?_
      refine ev_callV0 i_Fi_drawAhead_11 rfl o0 (Nat.le_of_ble_eq_true rfl) (g_go o0 hh nx ny) ?_
      refine ev_aload_n i_Fi_drawAhead_14 rfl ?_
      refine ev_dload_n i_Fi_drawAhead_15 rfl ?_
      refine ev_dload_n i_Fi_drawAhead_16 rfl ?_
      refine ev_callV2 i_Fi_drawAhead_17 rfl o1 (Nat.le_of_ble_eq_true rfl) (g_isDrawn o1 s1 hL) ?_
      rw [hq, show bI true = 1 from rfl]
      refine ev_if_neN i_Fi_drawAhead_20 (by omega) (fun hc_20 => ?_) (fun hc_20 => ?_)
      · skip
        exact ev_vret i_Fi_drawAhead_122 rfl
      · skip
        exfalso; omega
    · unfold drawF
      rw [if_pos hq]
      exact ⟨o1, a1.fr F1 (by decide), a2.fr F1 (by decide), s1, a4.fr F1 ⟨by decide, by decide⟩⟩
  | false =>
    have hd : drawF ((x, y, st, h), K, L, ink, de) = (goP (x, y, st, h), K, L ++ [(x, y, (aheadX (x, y, st, h)), (aheadY (x, y, st, h)))], FP.dadd ink st, de) := by
      unfold drawF
      rw [if_neg (by show ¬ isSg L x y (aheadX (x, y, st, h)) (aheadY (x, y, st, h)) = true; rw [hq]; decide)]
    rw [hd] at hG ⊢
    have nk : vf_n64 (FP.dadd ink st) := hG.2.2.2.2.2.1.1.n64
    obtain ⟨f, h1, hv⟩ := id s1
    have oa1 : ((S.put 95 (fiO pts L.length ink K.length de (aheadX (x, y, st, h)) (aheadY (x, y, st, h)) st h)).put 98 (aD 240 (vf_upd f (4 * L.length) x))).1[95]? = _ := put_at o1 (by decide)
    have ha1 : ((S.put 95 (fiO pts L.length ink K.length de (aheadX (x, y, st, h)) (aheadY (x, y, st, h)) st h)).put 98 (aD 240 (vf_upd f (4 * L.length) x))).1[98]? = _ := put_self h1
    have oa2 : ((S.put 95 (fiO pts L.length ink K.length de (aheadX (x, y, st, h)) (aheadY (x, y, st, h)) st h)).put 98 (aD 240 (vf_upd (vf_upd f (4 * L.length) x) (4 * L.length + 1) y))).1[95]? = _ := put_at o1 (by decide)
    have ha2 : ((S.put 95 (fiO pts L.length ink K.length de (aheadX (x, y, st, h)) (aheadY (x, y, st, h)) st h)).put 98 (aD 240 (vf_upd (vf_upd f (4 * L.length) x) (4 * L.length + 1) y))).1[98]? = _ := put_self h1
    have oa3 : ((S.put 95 (fiO pts L.length ink K.length de (aheadX (x, y, st, h)) (aheadY (x, y, st, h)) st h)).put 98 (aD 240 (vf_upd (vf_upd (vf_upd f (4 * L.length) x) (4 * L.length + 1) y) (4 * L.length + 2) (aheadX (x, y, st, h))))).1[95]? = _ := put_at o1 (by decide)
    have ha3 : ((S.put 95 (fiO pts L.length ink K.length de (aheadX (x, y, st, h)) (aheadY (x, y, st, h)) st h)).put 98 (aD 240 (vf_upd (vf_upd (vf_upd f (4 * L.length) x) (4 * L.length + 1) y) (4 * L.length + 2) (aheadX (x, y, st, h))))).1[98]? = _ := put_self h1
    have oa4 : ((S.put 95 (fiO pts L.length ink K.length de (aheadX (x, y, st, h)) (aheadY (x, y, st, h)) st h)).put 98 (aD 240 (vf_upd (vf_upd (vf_upd (vf_upd f (4 * L.length) x) (4 * L.length + 1) y) (4 * L.length + 2) (aheadX (x, y, st, h))) (4 * L.length + 3) (aheadY (x, y, st, h))))).1[95]? = _ := put_at o1 (by decide)
    have ob : (((S.put 95 (fiO pts L.length ink K.length de (aheadX (x, y, st, h)) (aheadY (x, y, st, h)) st h)).put 98 (aD 240 (vf_upd (vf_upd (vf_upd (vf_upd f (4 * L.length) x) (4 * L.length + 1) y) (4 * L.length + 2) (aheadX (x, y, st, h))) (4 * L.length + 3) (aheadY (x, y, st, h))))).put 95 (fiO pts (L.length + 1) ink K.length de (aheadX (x, y, st, h)) (aheadY (x, y, st, h)) st h)).1[95]? = _ := put_self oa4
    have FF : Fr [95, 98] S (((S.put 95 (fiO pts L.length ink K.length de (aheadX (x, y, st, h)) (aheadY (x, y, st, h)) st h)).put 98 (aD 240 (vf_upd (vf_upd (vf_upd (vf_upd f (4 * L.length) x) (4 * L.length + 1) y) (4 * L.length + 2) (aheadX (x, y, st, h))) (4 * L.length + 3) (aheadY (x, y, st, h))))).put 95 (fiO pts (L.length + 1) (FP.dadd ink st) K.length de (aheadX (x, y, st, h)) (aheadY (x, y, st, h)) st h)) := ((F1.mono (by simp)).tr (Fr.put _ _ (by simp))).tr (Fr.put _ _ (by simp))
    refine ⟨(((S.put 95 (fiO pts L.length ink K.length de (aheadX (x, y, st, h)) (aheadY (x, y, st, h)) st h)).put 98 (aD 240 (vf_upd (vf_upd (vf_upd (vf_upd f (4 * L.length) x) (4 * L.length + 1) y) (4 * L.length + 2) (aheadX (x, y, st, h))) (4 * L.length + 3) (aheadY (x, y, st, h))))).put 95 (fiO pts (L.length + 1) (FP.dadd ink st) K.length de (aheadX (x, y, st, h)) (aheadY (x, y, st, h)) st h)), fun d => ?_, ⟨?_, a1.fr FF (by decide), a2.fr FF (by decide), ⟨_, put_at (put_self h1) (by decide), fun j hj => ?_⟩, a4.fr FF ⟨by decide, by decide⟩⟩, FF.mono (by simp)⟩
    · refine MetA.of rfl (by decide +kernel) (Nat.le_of_ble_eq_true rfl) ?_
      refine ev_aload_n i_Fi_drawAhead_0 rfl ?_
      refine ev_get i_Fi_drawAhead_1 o0 rfl ?_
      refine ev_dst_n_1 i_Fi_drawAhead_4 rfl ?_
      refine ev_aload_n i_Fi_drawAhead_5 rfl ?_
      refine ev_get i_Fi_drawAhead_6 o0 rfl ?_
      refine ev_dst_n_3 i_Fi_drawAhead_9 rfl ?_
      refine ev_aload_n i_Fi_drawAhead_10 rfl ?_
      refine ev_callV0 i_Fi_drawAhead_11 rfl o0 (Nat.le_of_ble_eq_true rfl) (g_go o0 hh nx ny) ?_
      refine ev_aload_n i_Fi_drawAhead_14 rfl ?_
      refine ev_dload_n i_Fi_drawAhead_15 rfl ?_
      refine ev_dload_n i_Fi_drawAhead_16 rfl ?_
      refine ev_callV2 i_Fi_drawAhead_17 rfl o1 (Nat.le_of_ble_eq_true rfl) (g_isDrawn o1 s1 hL) ?_
      rw [hq, show bI false = 0 from rfl]
      refine ev_if_neN i_Fi_drawAhead_20 (by omega) (fun hc_20 => ?_) (fun hc_20 => ?_)
      · skip
        exfalso; omega
      · skip
        refine ev_iconstN (v := 4) i_Fi_drawAhead_23 (by decide) ?_
        refine ev_aload_n i_Fi_drawAhead_24 rfl ?_
        refine ev_get i_Fi_drawAhead_25 o1 rfl ?_
        first | refine ev_imulN i_Fi_drawAhead_28 ?_ | refine ev_imul i_Fi_drawAhead_28 ?_
        refine ev_iconstN (v := 3) i_Fi_drawAhead_29 (by decide) ?_
        first | refine ev_iaddN i_Fi_drawAhead_30 ?_ | refine ev_iadd i_Fi_drawAhead_30 ?_
        refine ev_aload_n i_Fi_drawAhead_31 rfl ?_
        refine ev_get i_Fi_drawAhead_32 o1 rfl ?_
        refine ev_alenN i_Fi_drawAhead_35 h1 ?_
        refine ev_icmp_geN i_Fi_drawAhead_36 (by omega) (by omega) (fun hc_36 => ?_) (fun hc_36 => ?_)
        · skip
          exfalso; omega
        · skip
          refine ev_aload_n i_Fi_drawAhead_39 rfl ?_
          refine ev_get i_Fi_drawAhead_40 o1 rfl ?_
          refine ev_iconstN (v := 4) i_Fi_drawAhead_43 (by decide) ?_
          refine ev_aload_n i_Fi_drawAhead_44 rfl ?_
          refine ev_get i_Fi_drawAhead_45 o1 rfl ?_
          first | refine ev_imulN i_Fi_drawAhead_48 ?_ | refine ev_imul i_Fi_drawAhead_48 ?_
          refine ev_dload_n i_Fi_drawAhead_49 rfl ?_
          refine ev_dastN i_Fi_drawAhead_50 h1 (by omega) (by decide) ?_
          refine ev_eqS (S1 := ((S.put 95 (fiO pts L.length ink K.length de (aheadX (x, y, st, h)) (aheadY (x, y, st, h)) st h)).put 98 (aD 240 (vf_upd f (4 * L.length) x)))) (by first | rfl | rw [put_put]) ?_
          refine ev_aload_n i_Fi_drawAhead_51 rfl ?_
          refine ev_get i_Fi_drawAhead_52 oa1 rfl ?_
          refine ev_iconstN (v := 4) i_Fi_drawAhead_55 (by decide) ?_
          refine ev_aload_n i_Fi_drawAhead_56 rfl ?_
          refine ev_get i_Fi_drawAhead_57 oa1 rfl ?_
          first | refine ev_imulN i_Fi_drawAhead_60 ?_ | refine ev_imul i_Fi_drawAhead_60 ?_
          refine ev_iconstN (v := 1) i_Fi_drawAhead_61 (by decide) ?_
          first | refine ev_iaddN i_Fi_drawAhead_62 ?_ | refine ev_iadd i_Fi_drawAhead_62 ?_
          refine ev_dload_n i_Fi_drawAhead_63 rfl ?_
          refine ev_dastN i_Fi_drawAhead_64 ha1 (by omega) (by decide) ?_
          refine ev_eqS (S1 := ((S.put 95 (fiO pts L.length ink K.length de (aheadX (x, y, st, h)) (aheadY (x, y, st, h)) st h)).put 98 (aD 240 (vf_upd (vf_upd f (4 * L.length) x) (4 * L.length + 1) y)))) (by first | rfl | rw [put_put]) ?_
          refine ev_aload_n i_Fi_drawAhead_65 rfl ?_
          refine ev_get i_Fi_drawAhead_66 oa2 rfl ?_
          refine ev_iconstN (v := 4) i_Fi_drawAhead_69 (by decide) ?_
          refine ev_aload_n i_Fi_drawAhead_70 rfl ?_
          refine ev_get i_Fi_drawAhead_71 oa2 rfl ?_
          first | refine ev_imulN i_Fi_drawAhead_74 ?_ | refine ev_imul i_Fi_drawAhead_74 ?_
          refine ev_iconstN (v := 2) i_Fi_drawAhead_75 (by decide) ?_
          first | refine ev_iaddN i_Fi_drawAhead_76 ?_ | refine ev_iadd i_Fi_drawAhead_76 ?_
          refine ev_aload_n i_Fi_drawAhead_77 rfl ?_
          refine ev_get i_Fi_drawAhead_78 oa2 rfl ?_
          refine ev_dastN i_Fi_drawAhead_81 ha2 (by omega) (by decide) ?_
          refine ev_eqS (S1 := ((S.put 95 (fiO pts L.length ink K.length de (aheadX (x, y, st, h)) (aheadY (x, y, st, h)) st h)).put 98 (aD 240 (vf_upd (vf_upd (vf_upd f (4 * L.length) x) (4 * L.length + 1) y) (4 * L.length + 2) (aheadX (x, y, st, h)))))) (by first | rfl | rw [put_put]) ?_
          refine ev_aload_n i_Fi_drawAhead_82 rfl ?_
          refine ev_get i_Fi_drawAhead_83 oa3 rfl ?_
          refine ev_iconstN (v := 4) i_Fi_drawAhead_86 (by decide) ?_
          refine ev_aload_n i_Fi_drawAhead_87 rfl ?_
          refine ev_get i_Fi_drawAhead_88 oa3 rfl ?_
          first | refine ev_imulN i_Fi_drawAhead_91 ?_ | refine ev_imul i_Fi_drawAhead_91 ?_
          refine ev_iconstN (v := 3) i_Fi_drawAhead_92 (by decide) ?_
          first | refine ev_iaddN i_Fi_drawAhead_93 ?_ | refine ev_iadd i_Fi_drawAhead_93 ?_
          refine ev_aload_n i_Fi_drawAhead_94 rfl ?_
          refine ev_get i_Fi_drawAhead_95 oa3 rfl ?_
          refine ev_dastN i_Fi_drawAhead_98 ha3 (by omega) (by decide) ?_
          refine ev_eqS (S1 := ((S.put 95 (fiO pts L.length ink K.length de (aheadX (x, y, st, h)) (aheadY (x, y, st, h)) st h)).put 98 (aD 240 (vf_upd (vf_upd (vf_upd (vf_upd f (4 * L.length) x) (4 * L.length + 1) y) (4 * L.length + 2) (aheadX (x, y, st, h))) (4 * L.length + 3) (aheadY (x, y, st, h)))))) (by first | rfl | rw [put_put]) ?_
          refine ev_aload_n i_Fi_drawAhead_99 rfl ?_
          refine ev_dup i_Fi_drawAhead_100 rfl ?_
          refine ev_get i_Fi_drawAhead_101 oa4 rfl ?_
          refine ev_iconstN (v := 1) i_Fi_drawAhead_104 (by decide) ?_
          first | refine ev_iaddN i_Fi_drawAhead_105 ?_ | refine ev_iadd i_Fi_drawAhead_105 ?_
          refine ev_put i_Fi_drawAhead_106 oa4 (Nat.le_of_ble_eq_true rfl) rfl rfl ?_
          refine ev_eqS (S1 := ((S.put 95 (fiO pts L.length ink K.length de (aheadX (x, y, st, h)) (aheadY (x, y, st, h)) st h)).put 98 (aD 240 (vf_upd (vf_upd (vf_upd (vf_upd f (4 * L.length) x) (4 * L.length + 1) y) (4 * L.length + 2) (aheadX (x, y, st, h))) (4 * L.length + 3) (aheadY (x, y, st, h))))).put 95 (fiO pts (L.length + 1) ink K.length de (aheadX (x, y, st, h)) (aheadY (x, y, st, h)) st h)) (by first | rfl | (rw [put_put]; rfl)) ?_
          refine ev_aload_n i_Fi_drawAhead_109 rfl ?_
          refine ev_dup i_Fi_drawAhead_110 rfl ?_
          refine ev_get i_Fi_drawAhead_111 ob rfl ?_
          refine ev_aload_n i_Fi_drawAhead_114 rfl ?_
          refine ev_get i_Fi_drawAhead_115 ob rfl ?_
          refine ev_dadd i_Fi_drawAhead_118 nk ?_
          refine ev_put i_Fi_drawAhead_119 ob (Nat.le_of_ble_eq_true rfl) rfl rfl ?_
          refine ev_eqS (S1 := ((S.put 95 (fiO pts L.length ink K.length de (aheadX (x, y, st, h)) (aheadY (x, y, st, h)) st h)).put 98 (aD 240 (vf_upd (vf_upd (vf_upd (vf_upd f (4 * L.length) x) (4 * L.length + 1) y) (4 * L.length + 2) (aheadX (x, y, st, h))) (4 * L.length + 3) (aheadY (x, y, st, h))))).put 95 (fiO pts (L.length + 1) (FP.dadd ink st) K.length de (aheadX (x, y, st, h)) (aheadY (x, y, st, h)) st h)) (by first | rfl | (rw [put_put]; rfl)) ?_
          exact ev_vret i_Fi_drawAhead_122 rfl
    · have := put_self (c := fiO pts (L.length + 1) (FP.dadd ink st) K.length de (aheadX (x, y, st, h)) (aheadY (x, y, st, h)) st h) oa4
      rw [show L.length + 1 = (L ++ [(x, y, (aheadX (x, y, st, h)), (aheadY (x, y, st, h)))]).length from by rw [List.length_append]; rfl] at this ⊢
      exact this
    · have hj : j < (L ++ [(x, y, (aheadX (x, y, st, h)), (aheadY (x, y, st, h)))]).length := hj
      rw [List.length_append] at hj
      have hj : j < L.length + 1 := hj
      show (vf_upd (vf_upd (vf_upd (vf_upd f (4 * L.length) x) (4 * L.length + 1) y) (4 * L.length + 2) (aheadX (x, y, st, h))) (4 * L.length + 3) (aheadY (x, y, st, h))) (4 * j) = ((L ++ [(x, y, (aheadX (x, y, st, h)), (aheadY (x, y, st, h)))]).getD j sg0).1 ∧ (vf_upd (vf_upd (vf_upd (vf_upd f (4 * L.length) x) (4 * L.length + 1) y) (4 * L.length + 2) (aheadX (x, y, st, h))) (4 * L.length + 3) (aheadY (x, y, st, h))) (4 * j + 1) = ((L ++ [(x, y, (aheadX (x, y, st, h)), (aheadY (x, y, st, h)))]).getD j sg0).2.1 ∧ (vf_upd (vf_upd (vf_upd (vf_upd f (4 * L.length) x) (4 * L.length + 1) y) (4 * L.length + 2) (aheadX (x, y, st, h))) (4 * L.length + 3) (aheadY (x, y, st, h))) (4 * j + 2) = ((L ++ [(x, y, (aheadX (x, y, st, h)), (aheadY (x, y, st, h)))]).getD j sg0).2.2.1 ∧ (vf_upd (vf_upd (vf_upd (vf_upd f (4 * L.length) x) (4 * L.length + 1) y) (4 * L.length + 2) (aheadX (x, y, st, h))) (4 * L.length + 3) (aheadY (x, y, st, h))) (4 * j + 3) = ((L ++ [(x, y, (aheadX (x, y, st, h)), (aheadY (x, y, st, h)))]).getD j sg0).2.2.2
      rw [getD_ap]
      by_cases z : j < L.length
      · rw [if_pos z]
        have e : ∀ k, k < 4 * L.length → (vf_upd (vf_upd (vf_upd (vf_upd f (4 * L.length) x) (4 * L.length + 1) y) (4 * L.length + 2) (aheadX (x, y, st, h))) (4 * L.length + 3) (aheadY (x, y, st, h))) k = f k := fun k hk => by rw [updD_ne (by omega), updD_ne (by omega), updD_ne (by omega), updD_ne (by omega)]
        rw [e _ (by omega), e _ (by omega), e _ (by omega), e _ (by omega)]
        exact hv j z
      · have zj : j = L.length := by omega
        subst zj
        rw [if_neg (by omega), if_pos rfl]
        refine ⟨?_, ?_, ?_, updD_at _ _ _⟩
        · rw [updD_ne (by omega), updD_ne (by omega), updD_ne (by omega), updD_at]
        · rw [updD_ne (by omega), updD_ne (by omega), updD_at]
        · rw [updD_ne (by omega), updD_at]
theorem g_open {scr : Scr} {l : Launch} {S : Sto} {pts i : Nat} {F : Fig} {p : Nat → UInt64 × UInt64} (hS : FiS S pts F p) (hV : FigV F i) (hi : i ≤ 59) (hk : F.2.1.length < 20) : ∃ S1, (∀ d, MetA scr l (d + 1) M_Fi_open [.ref 95] S (.inl (some (.int (nI 1))), S1)) ∧ FiS S1 pts (openF F) p ∧ Fr fiK S S1 := by
  have hG := carry_ok (c := 5) (G := openF F) hV (by omega) (by unfold carry; rw [if_neg (by decide), if_neg (by decide), if_neg (by decide), if_neg (by decide), if_pos rfl, if_neg (by omega)])
  obtain ⟨⟨x, y, st, h⟩, K, L, ink, de⟩ := F
  obtain ⟨o0, a1, a2, a3, f, g, h1, h2, hv⟩ := hS
  have o0 : S.1[95]? = some (fiO pts L.length ink K.length de x y st h) := o0
  have a3 : ArS S 98 L := a3
  have hk : K.length < 20 := hk
  have hde : de ≤ 20 := hV.2.2.2.2.2.2
  have hv : ∀ j, j < K.length → f (3 * j) = (K.getD j pen0).1 ∧ f (3 * j + 1) = (K.getD j pen0).2.1 ∧ f (3 * j + 2) = (K.getD j pen0).2.2.1 ∧ g j = nI (K.getD j pen0).2.2.2 := hv
  have nd : vf_n64 (FP.ddiv st d2) := hG.1.2.2.1.n64
  have p1 : (S.put 99 (aD 60 (vf_upd f (3 * K.length) x))).1[95]? = _ := put_at o0 (by decide)
  have h11 : (S.put 99 (aD 60 (vf_upd f (3 * K.length) x))).1[99]? = _ := put_self h1
  have p2 : (S.put 99 (aD 60 (vf_upd (vf_upd f (3 * K.length) x) (3 * K.length + 1) y))).1[95]? = _ := put_at o0 (by decide)
  have h12 : (S.put 99 (aD 60 (vf_upd (vf_upd f (3 * K.length) x) (3 * K.length + 1) y))).1[99]? = _ := put_self h1
  have p3 : (S.put 99 (aD 60 (vf_upd (vf_upd (vf_upd f (3 * K.length) x) (3 * K.length + 1) y) (3 * K.length + 2) st))).1[95]? = _ := put_at o0 (by decide)
  have g3 : (S.put 99 (aD 60 (vf_upd (vf_upd (vf_upd f (3 * K.length) x) (3 * K.length + 1) y) (3 * K.length + 2) st))).1[100]? = _ := put_at h2 (by decide)
  have p4 : ((S.put 99 (aD 60 (vf_upd (vf_upd (vf_upd f (3 * K.length) x) (3 * K.length + 1) y) (3 * K.length + 2) st))).put 100 (aI 20 (upd g K.length (nI h)))).1[95]? = _ := put_at p3 (by decide)
  have q1 : (((S.put 99 (aD 60 (vf_upd (vf_upd (vf_upd f (3 * K.length) x) (3 * K.length + 1) y) (3 * K.length + 2) st))).put 100 (aI 20 (upd g K.length (nI h)))).put 95 (fiO pts L.length ink (K.length + 1) de x y st h)).1[95]? = _ := put_self p4
  have q2 : (((S.put 99 (aD 60 (vf_upd (vf_upd (vf_upd f (3 * K.length) x) (3 * K.length + 1) y) (3 * K.length + 2) st))).put 100 (aI 20 (upd g K.length (nI h)))).put 95 (fiO pts L.length ink (K.length + 1) (max de (K.length + 1)) x y st h)).1[95]? = _ := put_self p4
  have FF : Fr [95, 99, 100] S (((S.put 99 (aD 60 (vf_upd (vf_upd (vf_upd f (3 * K.length) x) (3 * K.length + 1) y) (3 * K.length + 2) st))).put 100 (aI 20 (upd g K.length (nI h)))).put 95 (fiO pts L.length ink (K.length + 1) (max de (K.length + 1)) x y (FP.ddiv st d2) h)) := ((Fr.put _ _ (by simp)).tr (Fr.put _ _ (by simp))).tr (Fr.put _ _ (by simp))
  have hl : (K ++ [(x, y, st, h)]).length = K.length + 1 := by rw [List.length_append]; rfl
  refine ⟨(((S.put 99 (aD 60 (vf_upd (vf_upd (vf_upd f (3 * K.length) x) (3 * K.length + 1) y) (3 * K.length + 2) st))).put 100 (aI 20 (upd g K.length (nI h)))).put 95 (fiO pts L.length ink (K.length + 1) (max de (K.length + 1)) x y (FP.ddiv st d2) h)), fun d => ?_, ⟨?_, a1.fr FF (by decide), a2.fr FF (by decide), a3.fr FF (by decide), _, _, put_at (put_at (put_self h1) (by decide)) (by decide), put_at (put_self g3) (by decide), fun j hj => ?_⟩, FF.mono (by simp)⟩
  · refine MetA.of rfl (by decide +kernel) (Nat.le_of_ble_eq_true rfl) ?_
    refine ev_aload_n i_Fi_open_0 rfl ?_
    refine ev_get i_Fi_open_1 o0 rfl ?_
    refine ev_bipushN (v := 20) i_Fi_open_4 (by decide) ?_
    refine ev_icmp_ltN i_Fi_open_6 (by omega) (by omega) (fun hc_6 => ?_) (fun hc_6 => ?_)
    · skip
      refine ev_aload_n i_Fi_open_11 rfl ?_
      refine ev_get i_Fi_open_12 o0 rfl ?_
      refine ev_iconstN (v := 3) i_Fi_open_15 (by decide) ?_
      refine ev_aload_n i_Fi_open_16 rfl ?_
      refine ev_get i_Fi_open_17 o0 rfl ?_
      first | refine ev_imulN i_Fi_open_20 ?_ | refine ev_imul i_Fi_open_20 ?_
      refine ev_aload_n i_Fi_open_21 rfl ?_
      refine ev_get i_Fi_open_22 o0 rfl ?_
      refine ev_dastN i_Fi_open_25 h1 (by omega) (by decide) ?_
      refine ev_eqS (S1 := (S.put 99 (aD 60 (vf_upd f (3 * K.length) x)))) (by first | rfl | rw [put_put]) ?_
      refine ev_aload_n i_Fi_open_26 rfl ?_
      refine ev_get i_Fi_open_27 p1 rfl ?_
      refine ev_iconstN (v := 3) i_Fi_open_30 (by decide) ?_
      refine ev_aload_n i_Fi_open_31 rfl ?_
      refine ev_get i_Fi_open_32 p1 rfl ?_
      first | refine ev_imulN i_Fi_open_35 ?_ | refine ev_imul i_Fi_open_35 ?_
      refine ev_iconstN (v := 1) i_Fi_open_36 (by decide) ?_
      first | refine ev_iaddN i_Fi_open_37 ?_ | refine ev_iadd i_Fi_open_37 ?_
      refine ev_aload_n i_Fi_open_38 rfl ?_
      refine ev_get i_Fi_open_39 p1 rfl ?_
      refine ev_dastN i_Fi_open_42 h11 (by omega) (by decide) ?_
      refine ev_eqS (S1 := (S.put 99 (aD 60 (vf_upd (vf_upd f (3 * K.length) x) (3 * K.length + 1) y)))) (by first | rfl | rw [put_put]) ?_
      refine ev_aload_n i_Fi_open_43 rfl ?_
      refine ev_get i_Fi_open_44 p2 rfl ?_
      refine ev_iconstN (v := 3) i_Fi_open_47 (by decide) ?_
      refine ev_aload_n i_Fi_open_48 rfl ?_
      refine ev_get i_Fi_open_49 p2 rfl ?_
      first | refine ev_imulN i_Fi_open_52 ?_ | refine ev_imul i_Fi_open_52 ?_
      refine ev_iconstN (v := 2) i_Fi_open_53 (by decide) ?_
      first | refine ev_iaddN i_Fi_open_54 ?_ | refine ev_iadd i_Fi_open_54 ?_
      refine ev_aload_n i_Fi_open_55 rfl ?_
      refine ev_get i_Fi_open_56 p2 rfl ?_
      refine ev_dastN i_Fi_open_59 h12 (by omega) (by decide) ?_
      refine ev_eqS (S1 := (S.put 99 (aD 60 (vf_upd (vf_upd (vf_upd f (3 * K.length) x) (3 * K.length + 1) y) (3 * K.length + 2) st)))) (by first | rfl | rw [put_put]) ?_
      refine ev_aload_n i_Fi_open_60 rfl ?_
      refine ev_get i_Fi_open_61 p3 rfl ?_
      refine ev_aload_n i_Fi_open_64 rfl ?_
      refine ev_get i_Fi_open_65 p3 rfl ?_
      refine ev_aload_n i_Fi_open_68 rfl ?_
      refine ev_get i_Fi_open_69 p3 rfl ?_
      refine ev_iastN i_Fi_open_72 g3 (by omega) (by decide) ?_
      refine ev_aload_n i_Fi_open_73 rfl ?_
      refine ev_dup i_Fi_open_74 rfl ?_
      refine ev_get i_Fi_open_75 p4 rfl ?_
      refine ev_iconstN (v := 1) i_Fi_open_78 (by decide) ?_
      first | refine ev_iaddN i_Fi_open_79 ?_ | refine ev_iadd i_Fi_open_79 ?_
      refine ev_put i_Fi_open_80 p4 (Nat.le_of_ble_eq_true rfl) rfl rfl ?_
      refine ev_eqS (S1 := ((S.put 99 (aD 60 (vf_upd (vf_upd (vf_upd f (3 * K.length) x) (3 * K.length + 1) y) (3 * K.length + 2) st))).put 100 (aI 20 (upd g K.length (nI h)))).put 95 (fiO pts L.length ink (K.length + 1) de x y st h)) (by first | rfl | (rw [put_put]; rfl)) ?_
      refine ev_aload_n i_Fi_open_83 rfl ?_
      refine ev_aload_n i_Fi_open_84 rfl ?_
      refine ev_get i_Fi_open_85 q1 rfl ?_
      refine ev_aload_n i_Fi_open_88 rfl ?_
      refine ev_get i_Fi_open_89 q1 rfl ?_
      refine ev_callS2 i_Fi_open_92 rfl (Nat.le_of_ble_eq_true rfl) (c_Ma_maxI (by omega) (by omega)) ?_
      refine ev_put i_Fi_open_95 q1 (Nat.le_of_ble_eq_true rfl) rfl rfl ?_
      refine ev_eqS (S1 := ((S.put 99 (aD 60 (vf_upd (vf_upd (vf_upd f (3 * K.length) x) (3 * K.length + 1) y) (3 * K.length + 2) st))).put 100 (aI 20 (upd g K.length (nI h)))).put 95 (fiO pts L.length ink (K.length + 1) (max de (K.length + 1)) x y st h)) (by first | rfl | (rw [put_put]; rfl)) ?_
      refine ev_aload_n i_Fi_open_98 rfl ?_
      refine ev_dup i_Fi_open_99 rfl ?_
      refine ev_get i_Fi_open_100 q2 rfl ?_
      refine ev_LdcD i_Fi_open_103 ?_
      refine ev_ddiv i_Fi_open_106 nd ?_
      refine ev_put i_Fi_open_107 q2 (Nat.le_of_ble_eq_true rfl) rfl rfl ?_
      refine ev_eqS (S1 := ((S.put 99 (aD 60 (vf_upd (vf_upd (vf_upd f (3 * K.length) x) (3 * K.length + 1) y) (3 * K.length + 2) st))).put 100 (aI 20 (upd g K.length (nI h)))).put 95 (fiO pts L.length ink (K.length + 1) (max de (K.length + 1)) x y (FP.ddiv st d2) h)) (by first | rfl | (rw [put_put]; rfl)) ?_
      refine ev_iconstN (v := 1) i_Fi_open_110 (by decide) ?_
      exact ev_iret i_Fi_open_111 rfl (by first | rfl | decide)
    · skip
      exfalso; omega
  · have := put_self (c := fiO pts L.length ink (K.length + 1) (max de (K.length + 1)) x y (FP.ddiv st d2) h) p4
    show _ = some (fiO pts L.length ink (K ++ [(x, y, st, h)]).length (max de (K.length + 1)) x y (FP.ddiv st d2) h)
    rw [hl]
    exact this
  · have hj : j < (K ++ [(x, y, st, h)]).length := hj
    rw [hl] at hj
    show (vf_upd (vf_upd (vf_upd f (3 * K.length) x) (3 * K.length + 1) y) (3 * K.length + 2) st) (3 * j) = ((K ++ [(x, y, st, h)]).getD j pen0).1 ∧ (vf_upd (vf_upd (vf_upd f (3 * K.length) x) (3 * K.length + 1) y) (3 * K.length + 2) st) (3 * j + 1) = ((K ++ [(x, y, st, h)]).getD j pen0).2.1 ∧ (vf_upd (vf_upd (vf_upd f (3 * K.length) x) (3 * K.length + 1) y) (3 * K.length + 2) st) (3 * j + 2) = ((K ++ [(x, y, st, h)]).getD j pen0).2.2.1 ∧ upd g K.length (nI h) j = nI ((K ++ [(x, y, st, h)]).getD j pen0).2.2.2
    rw [getD_ap]
    by_cases z : j < K.length
    · rw [if_pos z]
      have e : ∀ k, k < 3 * K.length → (vf_upd (vf_upd (vf_upd f (3 * K.length) x) (3 * K.length + 1) y) (3 * K.length + 2) st) k = f k := fun k hk => by rw [updD_ne (by omega), updD_ne (by omega), updD_ne (by omega)]
      rw [e _ (by omega), e _ (by omega), e _ (by omega), updN_ne (by omega)]
      exact hv j z
    · have zj : j = K.length := by omega
      subst zj
      rw [if_neg (by omega), if_pos rfl]
      refine ⟨?_, ?_, updD_at _ _ _, updN_at _ _ _⟩
      · rw [updD_ne (by omega), updD_ne (by omega), updD_at]
      · rw [updD_ne (by omega), updD_at]
theorem g_open_no {scr : Scr} {l : Launch} {S : Sto} {d pts : Nat} {F : Fig} {p : Nat → UInt64 × UInt64} (hS : FiS S pts F p) (hk : 20 ≤ F.2.1.length) (hk2 : F.2.1.length ≤ 20) : MetA scr l (d + 1) M_Fi_open [.ref 95] S (.inl (some (.int (nI 0))), S) := by
  have o0 := hS.1
  refine MetA.of rfl (by decide +kernel) (Nat.le_of_ble_eq_true rfl) ?_
  refine ev_aload_n i_Fi_open_0 rfl ?_
  refine ev_get i_Fi_open_1 o0 rfl ?_
  refine ev_bipushN (v := 20) i_Fi_open_4 (by decide) ?_
  refine ev_icmp_ltN i_Fi_open_6 (by omega) (by omega) (fun hc_6 => ?_) (fun hc_6 => ?_)
  · skip
    exfalso; omega
  · skip
    refine ev_iconstN (v := 0) i_Fi_open_9 (by decide) ?_
    exact ev_iret i_Fi_open_10 rfl (by first | rfl | decide)
theorem g_close {scr : Scr} {l : Launch} {S : Sto} {pts i : Nat} {F : Fig} {p : Nat → UInt64 × UInt64} (hS : FiS S pts F p) (hV : FigV F i) (hi : i ≤ 59) (hk : F.2.1.length ≠ 0) : ∃ S1, (∀ d, MetA scr l (d + 1) M_Fi_close [.ref 95] S (.inl (some (.int (nI 1))), S1)) ∧ FiS S1 pts (closeF F) p ∧ Fr fiK S S1 := by
  obtain ⟨⟨x, y, st, h⟩, K, L, ink, de⟩ := F
  obtain ⟨o0, a1, a2, a3, f, g, h1, h2, hv0⟩ := hS
  have o0 : S.1[95]? = some (fiO pts L.length ink K.length de x y st h) := o0
  have a3 : ArS S 98 L := a3
  have hk : K.length ≠ 0 := hk
  have hK20 : K.length ≤ 20 := hV.2.1
  have hv0 : ∀ j, j < K.length → f (3 * j) = (K.getD j pen0).1 ∧ f (3 * j + 1) = (K.getD j pen0).2.1 ∧ f (3 * j + 2) = (K.getD j pen0).2.2.1 ∧ g j = nI (K.getD j pen0).2.2.2 := hv0
  have hv := hv0 (K.length - 1) (by omega)
  have r0 : (S.put 95 (fiO pts L.length ink (K.length - 1) de x y st h)).1[95]? = _ := put_self o0
  have r1 : (S.put 95 (fiO pts L.length ink (K.length - 1) de (K.getD (K.length - 1) pen0).1 y st h)).1[95]? = _ := put_self o0
  have r2 : (S.put 95 (fiO pts L.length ink (K.length - 1) de (K.getD (K.length - 1) pen0).1 (K.getD (K.length - 1) pen0).2.1 st h)).1[95]? = _ := put_self o0
  have r3 : (S.put 95 (fiO pts L.length ink (K.length - 1) de (K.getD (K.length - 1) pen0).1 (K.getD (K.length - 1) pen0).2.1 (K.getD (K.length - 1) pen0).2.2.1 h)).1[95]? = _ := put_self o0
  have f0 : (S.put 95 (fiO pts L.length ink (K.length - 1) de x y st h)).1[99]? = _ := put_at h1 (by decide)
  have f1 : (S.put 95 (fiO pts L.length ink (K.length - 1) de (K.getD (K.length - 1) pen0).1 y st h)).1[99]? = _ := put_at h1 (by decide)
  have f2 : (S.put 95 (fiO pts L.length ink (K.length - 1) de (K.getD (K.length - 1) pen0).1 (K.getD (K.length - 1) pen0).2.1 st h)).1[99]? = _ := put_at h1 (by decide)
  have g3 : (S.put 95 (fiO pts L.length ink (K.length - 1) de (K.getD (K.length - 1) pen0).1 (K.getD (K.length - 1) pen0).2.1 (K.getD (K.length - 1) pen0).2.2.1 h)).1[100]? = _ := put_at h2 (by decide)
  have FF : Fr [95] S (S.put 95 (fiO pts L.length ink (K.length - 1) de (K.getD (K.length - 1) pen0).1 (K.getD (K.length - 1) pen0).2.1 (K.getD (K.length - 1) pen0).2.2.1 (K.getD (K.length - 1) pen0).2.2.2)) := Fr.put _ _ (by simp)
  have hl : K.dropLast.length = K.length - 1 := List.length_dropLast
  refine ⟨(S.put 95 (fiO pts L.length ink (K.length - 1) de (K.getD (K.length - 1) pen0).1 (K.getD (K.length - 1) pen0).2.1 (K.getD (K.length - 1) pen0).2.2.1 (K.getD (K.length - 1) pen0).2.2.2)), fun d => ?_, ⟨?_, a1.fr FF (by decide), a2.fr FF (by decide), a3.fr FF (by decide), f, g, put_at h1 (by decide), put_at h2 (by decide), fun j hj => ?_⟩, FF.mono (by simp)⟩
  · refine MetA.of rfl (by decide +kernel) (Nat.le_of_ble_eq_true rfl) ?_
    refine ev_aload_n i_Fi_close_0 rfl ?_
    refine ev_get i_Fi_close_1 o0 rfl ?_
    refine ev_if_neN i_Fi_close_4 (by omega) (fun hc_4 => ?_) (fun hc_4 => ?_)
    · skip
      refine ev_aload_n i_Fi_close_9 rfl ?_
      refine ev_dup i_Fi_close_10 rfl ?_
      refine ev_get i_Fi_close_11 o0 rfl ?_
      refine ev_iconstN (v := 1) i_Fi_close_14 (by decide) ?_
      refine ev_isubN i_Fi_close_15 (by omega) ?_
      refine ev_put i_Fi_close_16 o0 (Nat.le_of_ble_eq_true rfl) rfl rfl ?_
      refine ev_eqS (S1 := S.put 95 (fiO pts L.length ink (K.length - 1) de x y st h)) (by first | rfl | (rw [put_put]; rfl)) ?_
      refine ev_aload_n i_Fi_close_19 rfl ?_
      refine ev_aload_n i_Fi_close_20 rfl ?_
      refine ev_get i_Fi_close_21 r0 rfl ?_
      refine ev_iconstN (v := 3) i_Fi_close_24 (by decide) ?_
      refine ev_aload_n i_Fi_close_25 rfl ?_
      refine ev_get i_Fi_close_26 r0 rfl ?_
      first | refine ev_imulN i_Fi_close_29 ?_ | refine ev_imul i_Fi_close_29 ?_
      refine ev_daldN i_Fi_close_30 f0 (by omega) (by decide) ?_
      rw [hv.1]
      refine ev_put i_Fi_close_31 r0 (Nat.le_of_ble_eq_true rfl) rfl rfl ?_
      refine ev_eqS (S1 := S.put 95 (fiO pts L.length ink (K.length - 1) de (K.getD (K.length - 1) pen0).1 y st h)) (by first | rfl | (rw [put_put]; rfl)) ?_
      refine ev_aload_n i_Fi_close_34 rfl ?_
      refine ev_aload_n i_Fi_close_35 rfl ?_
      refine ev_get i_Fi_close_36 r1 rfl ?_
      refine ev_iconstN (v := 3) i_Fi_close_39 (by decide) ?_
      refine ev_aload_n i_Fi_close_40 rfl ?_
      refine ev_get i_Fi_close_41 r1 rfl ?_
      first | refine ev_imulN i_Fi_close_44 ?_ | refine ev_imul i_Fi_close_44 ?_
      refine ev_iconstN (v := 1) i_Fi_close_45 (by decide) ?_
      first | refine ev_iaddN i_Fi_close_46 ?_ | refine ev_iadd i_Fi_close_46 ?_
      refine ev_daldN i_Fi_close_47 f1 (by omega) (by decide) ?_
      rw [hv.2.1]
      refine ev_put i_Fi_close_48 r1 (Nat.le_of_ble_eq_true rfl) rfl rfl ?_
      refine ev_eqS (S1 := S.put 95 (fiO pts L.length ink (K.length - 1) de (K.getD (K.length - 1) pen0).1 (K.getD (K.length - 1) pen0).2.1 st h)) (by first | rfl | (rw [put_put]; rfl)) ?_
      refine ev_aload_n i_Fi_close_51 rfl ?_
      refine ev_aload_n i_Fi_close_52 rfl ?_
      refine ev_get i_Fi_close_53 r2 rfl ?_
      refine ev_iconstN (v := 3) i_Fi_close_56 (by decide) ?_
      refine ev_aload_n i_Fi_close_57 rfl ?_
      refine ev_get i_Fi_close_58 r2 rfl ?_
      first | refine ev_imulN i_Fi_close_61 ?_ | refine ev_imul i_Fi_close_61 ?_
      refine ev_iconstN (v := 2) i_Fi_close_62 (by decide) ?_
      first | refine ev_iaddN i_Fi_close_63 ?_ | refine ev_iadd i_Fi_close_63 ?_
      refine ev_daldN i_Fi_close_64 f2 (by omega) (by decide) ?_
      rw [hv.2.2.1]
      refine ev_put i_Fi_close_65 r2 (Nat.le_of_ble_eq_true rfl) rfl rfl ?_
      refine ev_eqS (S1 := S.put 95 (fiO pts L.length ink (K.length - 1) de (K.getD (K.length - 1) pen0).1 (K.getD (K.length - 1) pen0).2.1 (K.getD (K.length - 1) pen0).2.2.1 h)) (by first | rfl | (rw [put_put]; rfl)) ?_
      refine ev_aload_n i_Fi_close_68 rfl ?_
      refine ev_aload_n i_Fi_close_69 rfl ?_
      refine ev_get i_Fi_close_70 r3 rfl ?_
      refine ev_aload_n i_Fi_close_73 rfl ?_
      refine ev_get i_Fi_close_74 r3 rfl ?_
      refine ev_ialdN i_Fi_close_77 g3 (by omega) (by decide) ?_
      rw [hv.2.2.2]
      refine ev_put i_Fi_close_78 r3 (Nat.le_of_ble_eq_true rfl) rfl rfl ?_
      refine ev_eqS (S1 := S.put 95 (fiO pts L.length ink (K.length - 1) de (K.getD (K.length - 1) pen0).1 (K.getD (K.length - 1) pen0).2.1 (K.getD (K.length - 1) pen0).2.2.1 (K.getD (K.length - 1) pen0).2.2.2)) (by first | rfl | (rw [put_put]; rfl)) ?_
      refine ev_iconstN (v := 1) i_Fi_close_81 (by decide) ?_
      exact ev_iret i_Fi_close_82 rfl (by first | rfl | decide)
    · skip
      exfalso; omega
  · have := put_self (c := fiO pts L.length ink (K.length - 1) de (K.getD (K.length - 1) pen0).1 (K.getD (K.length - 1) pen0).2.1 (K.getD (K.length - 1) pen0).2.2.1 (K.getD (K.length - 1) pen0).2.2.2) o0
    show _ = some (fiO pts L.length ink K.dropLast.length de (K.getD (K.length - 1) pen0).1 (K.getD (K.length - 1) pen0).2.1 (K.getD (K.length - 1) pen0).2.2.1 (K.getD (K.length - 1) pen0).2.2.2)
    rw [hl]
    exact this
  · have hj : j < K.dropLast.length := hj
    show f (3 * j) = (K.dropLast.getD j pen0).1 ∧ f (3 * j + 1) = (K.dropLast.getD j pen0).2.1 ∧ f (3 * j + 2) = (K.dropLast.getD j pen0).2.2.1 ∧ g j = nI (K.dropLast.getD j pen0).2.2.2
    rw [getD_drop (by omega)]
    exact hv0 j (by omega)
theorem g_close_no {scr : Scr} {l : Launch} {S : Sto} {d pts : Nat} {F : Fig} {p : Nat → UInt64 × UInt64} (hS : FiS S pts F p) (hk : F.2.1.length = 0) : MetA scr l (d + 1) M_Fi_close [.ref 95] S (.inl (some (.int (nI 0))), S) := by
  have o0 := hS.1

  refine MetA.of rfl (by decide +kernel) (Nat.le_of_ble_eq_true rfl) ?_
  refine ev_aload_n i_Fi_close_0 rfl ?_
  refine ev_get i_Fi_close_1 o0 rfl ?_
  refine ev_if_neN i_Fi_close_4 (by omega) (fun hc_4 => ?_) (fun hc_4 => ?_)
  · skip
    exfalso; omega
  · skip
    refine ev_iconstN (v := 0) i_Fi_close_7 (by decide) ?_
    exact ev_iret i_Fi_close_8 rfl (by first | rfl | decide)
theorem FiS.set {S S1 : Sto} {pts : Nat} {F : Fig} {q : Pen} {p : Nat → UInt64 × UInt64} (h : FiS S pts F p) (hF : Fr [95] S S1) (h0 : S1.1[95]? = some (fiF pts (q, F.2))) : FiS S1 pts (q, F.2) p := ⟨h0, h.2.1.fr hF (by decide), h.2.2.1.fr hF (by decide), h.2.2.2.1.fr hF (by decide), h.2.2.2.2.fr hF ⟨by decide, by decide⟩⟩
theorem g_carry {scr : Scr} {l : Launch} {S : Sto} {pts i : Nat} {F : Fig} {p : Nat → UInt64 × UInt64} (hS : FiS S pts F p) (hV : FigV F i) (hi : i ≤ 59) {c : Nat} (hc : c < 7) : (∀ G, carry c F = some G → ∃ S1, (∀ d, MetA scr l (d + 3) M_Fi_carryOut [.ref 95, .int (nI c)] S (.inl (some (.int (nI 1))), S1)) ∧ FiS S1 pts G p ∧ Fr fiK S S1) ∧ (carry c F = none → ∀ d, MetA scr l (d + 3) M_Fi_carryOut [.ref 95, .int (nI c)] S (.inl (some (.int (nI 0))), S)) := by
  have o0 := hS.1
  have hh : F.1.2.2.2 < 4 := hV.1.2.2.2
  have hK20 := hV.2.1
  rcases (show c = 0 ∨ c = 1 ∨ c = 2 ∨ c = 3 ∨ c = 4 ∨ c = 5 ∨ c = 6 by omega) with rfl | rfl | rfl | rfl | rfl | rfl | rfl
  · refine ⟨fun G hG => ?_, fun hG => by cases hG⟩
    cases hG
    refine ⟨S, fun d => ?_, hS, Fr.rf _ _⟩
    refine MetA.of rfl (by decide +kernel) (Nat.le_of_ble_eq_true rfl) ?_
    refine ev_iload_n i_Fi_carryOut_0 rfl ?_
    refine ev_switch (tgt := 90) ⟨_, _, _, _, _, i_Fi_carryOut_1, Or.inr ⟨Or.inl (by decide), rfl⟩⟩ ?_
    refine ev_iconstN (v := 1) i_Fi_carryOut_90 (by decide) ?_
    exact ev_iret i_Fi_carryOut_91 rfl (by first | rfl | decide)
  · refine ⟨fun G hG => ?_, fun hG => by cases hG⟩
    cases hG
    obtain ⟨S1, m1, s1, f1⟩ := g_draw (scr := scr) (l := l) hS hV hi
    refine ⟨S1, fun d => ?_, s1, f1⟩
    refine MetA.of rfl (by decide +kernel) (Nat.le_of_ble_eq_true rfl) ?_
    refine ev_iload_n i_Fi_carryOut_0 rfl ?_
    refine ev_switch (tgt := 40) ⟨_, _, _, _, _, i_Fi_carryOut_1, Or.inl ⟨by decide, by decide, _, rfl, rfl⟩⟩ ?_
    refine ev_aload_n i_Fi_carryOut_40 rfl ?_
    refine ev_callV0 i_Fi_carryOut_41 rfl o0 (Nat.le_of_ble_eq_true rfl) (m1 _) ?_
    refine ev_iconstN (v := 1) i_Fi_carryOut_44 (by decide) ?_
    exact ev_iret i_Fi_carryOut_45 rfl (by first | rfl | decide)
  · refine ⟨fun G hG => ?_, fun hG => by cases hG⟩
    cases hG
    have hax := ax_ok hV.1 (show i ≤ 60 by omega)
    have m1 := fun d => g_go (scr := scr) (l := l) (d := d) o0 hh hax.1.1.n64 hax.2.1.1.n64
    refine ⟨_, fun d => ?_, hS.set (q := goP F.1) (Fr.put _ _ (by simp)) (put_self o0), Fr.put _ _ (by simp)⟩
    refine MetA.of rfl (by decide +kernel) (Nat.le_of_ble_eq_true rfl) ?_
    refine ev_iload_n i_Fi_carryOut_0 rfl ?_
    refine ev_switch (tgt := 46) ⟨_, _, _, _, _, i_Fi_carryOut_1, Or.inl ⟨by decide, by decide, _, rfl, rfl⟩⟩ ?_
    refine ev_aload_n i_Fi_carryOut_46 rfl ?_
    refine ev_callV0 i_Fi_carryOut_47 rfl o0 (Nat.le_of_ble_eq_true rfl) (m1 _) ?_
    refine ev_iconstN (v := 1) i_Fi_carryOut_50 (by decide) ?_
    exact ev_iret i_Fi_carryOut_51 rfl (by first | rfl | decide)
  · refine ⟨fun G hG => ?_, fun hG => by cases hG⟩
    cases hG
    refine ⟨(S.put 95 (fiO pts F.2.2.1.length F.2.2.2.1 F.2.1.length F.2.2.2.2 F.1.1 F.1.2.1 F.1.2.2.1 ((F.1.2.2.2 + 1) % 4))), fun d => ?_, hS.set (q := (F.1.1, F.1.2.1, F.1.2.2.1, (F.1.2.2.2 + 1) % 4)) (Fr.put _ _ (by simp)) (put_self o0), Fr.put _ _ (by simp)⟩
    refine MetA.of rfl (by decide +kernel) (Nat.le_of_ble_eq_true rfl) ?_
    refine ev_iload_n i_Fi_carryOut_0 rfl ?_
    refine ev_switch (tgt := 52) ⟨_, _, _, _, _, i_Fi_carryOut_1, Or.inl ⟨by decide, by decide, _, rfl, rfl⟩⟩ ?_
    refine ev_aload_n i_Fi_carryOut_52 rfl ?_
    refine ev_aload_n i_Fi_carryOut_53 rfl ?_
    refine ev_get i_Fi_carryOut_54 o0 rfl ?_
    refine ev_iconstN (v := 1) i_Fi_carryOut_57 (by decide) ?_
    first | refine ev_iaddN i_Fi_carryOut_58 ?_ | refine ev_iadd i_Fi_carryOut_58 ?_
    refine ev_iconstN (v := 4) i_Fi_carryOut_59 (by decide) ?_
    refine ev_iremN i_Fi_carryOut_60 (by decide) (by omega) (by decide) ?_
    refine ev_put i_Fi_carryOut_61 o0 (Nat.le_of_ble_eq_true rfl) rfl rfl ?_
    refine ev_eqS (S1 := S.put 95 (fiO pts F.2.2.1.length F.2.2.2.1 F.2.1.length F.2.2.2.2 F.1.1 F.1.2.1 F.1.2.2.1 ((F.1.2.2.2 + 1) % 4))) (by first | rfl | (rw [put_put]; rfl)) ?_
    refine ev_iconstN (v := 1) i_Fi_carryOut_64 (by decide) ?_
    exact ev_iret i_Fi_carryOut_65 rfl (by first | rfl | decide)
  · refine ⟨fun G hG => ?_, fun hG => by cases hG⟩
    cases hG
    refine ⟨(S.put 95 (fiO pts F.2.2.1.length F.2.2.2.1 F.2.1.length F.2.2.2.2 F.1.1 F.1.2.1 F.1.2.2.1 ((F.1.2.2.2 + 3) % 4))), fun d => ?_, hS.set (q := (F.1.1, F.1.2.1, F.1.2.2.1, (F.1.2.2.2 + 3) % 4)) (Fr.put _ _ (by simp)) (put_self o0), Fr.put _ _ (by simp)⟩
    refine MetA.of rfl (by decide +kernel) (Nat.le_of_ble_eq_true rfl) ?_
    refine ev_iload_n i_Fi_carryOut_0 rfl ?_
    refine ev_switch (tgt := 66) ⟨_, _, _, _, _, i_Fi_carryOut_1, Or.inl ⟨by decide, by decide, _, rfl, rfl⟩⟩ ?_
    refine ev_aload_n i_Fi_carryOut_66 rfl ?_
    refine ev_aload_n i_Fi_carryOut_67 rfl ?_
    refine ev_get i_Fi_carryOut_68 o0 rfl ?_
    refine ev_iconstN (v := 3) i_Fi_carryOut_71 (by decide) ?_
    first | refine ev_iaddN i_Fi_carryOut_72 ?_ | refine ev_iadd i_Fi_carryOut_72 ?_
    refine ev_iconstN (v := 4) i_Fi_carryOut_73 (by decide) ?_
    refine ev_iremN i_Fi_carryOut_74 (by decide) (by omega) (by decide) ?_
    refine ev_put i_Fi_carryOut_75 o0 (Nat.le_of_ble_eq_true rfl) rfl rfl ?_
    refine ev_eqS (S1 := S.put 95 (fiO pts F.2.2.1.length F.2.2.2.1 F.2.1.length F.2.2.2.2 F.1.1 F.1.2.1 F.1.2.2.1 ((F.1.2.2.2 + 3) % 4))) (by first | rfl | (rw [put_put]; rfl)) ?_
    refine ev_iconstN (v := 1) i_Fi_carryOut_78 (by decide) ?_
    exact ev_iret i_Fi_carryOut_79 rfl (by first | rfl | decide)
  · have hce : carry 5 F = if 20 ≤ F.2.1.length then none else some (openF F) := rfl
    rw [hce]
    by_cases hq : 20 ≤ F.2.1.length
    · rw [if_pos hq]
      refine ⟨fun G hG => by (cases hG), fun _ d => ?_⟩
      refine MetA.of rfl (by decide +kernel) (Nat.le_of_ble_eq_true rfl) ?_
      refine ev_iload_n i_Fi_carryOut_0 rfl ?_
      refine ev_switch (tgt := 80) ⟨_, _, _, _, _, i_Fi_carryOut_1, Or.inl ⟨by decide, by decide, _, rfl, rfl⟩⟩ ?_
      refine ev_aload_n i_Fi_carryOut_80 rfl ?_
      refine ev_callV0 i_Fi_carryOut_81 rfl o0 (Nat.le_of_ble_eq_true rfl) (g_open_no hS hq hK20) ?_
      exact ev_iret i_Fi_carryOut_84 rfl (by first | rfl | decide)
    · rw [if_neg hq]
      refine ⟨fun G hG => ?_, fun hG => by cases hG⟩
      cases hG
      obtain ⟨S1, m1, s1, f1⟩ := g_open (scr := scr) (l := l) hS hV hi (by omega)
      refine ⟨S1, fun d => ?_, s1, f1⟩
      refine MetA.of rfl (by decide +kernel) (Nat.le_of_ble_eq_true rfl) ?_
      refine ev_iload_n i_Fi_carryOut_0 rfl ?_
      refine ev_switch (tgt := 80) ⟨_, _, _, _, _, i_Fi_carryOut_1, Or.inl ⟨by decide, by decide, _, rfl, rfl⟩⟩ ?_
      refine ev_aload_n i_Fi_carryOut_80 rfl ?_
      refine ev_callV0 i_Fi_carryOut_81 rfl o0 (Nat.le_of_ble_eq_true rfl) (m1 _) ?_
      exact ev_iret i_Fi_carryOut_84 rfl (by first | rfl | decide)
  · have hce : carry 6 F = if F.2.1.length = 0 then none else some (closeF F) := rfl
    rw [hce]
    by_cases hq : F.2.1.length = 0
    · rw [if_pos hq]
      refine ⟨fun G hG => by (cases hG), fun _ d => ?_⟩
      refine MetA.of rfl (by decide +kernel) (Nat.le_of_ble_eq_true rfl) ?_
      refine ev_iload_n i_Fi_carryOut_0 rfl ?_
      refine ev_switch (tgt := 85) ⟨_, _, _, _, _, i_Fi_carryOut_1, Or.inl ⟨by decide, by decide, _, rfl, rfl⟩⟩ ?_
      refine ev_aload_n i_Fi_carryOut_85 rfl ?_
      refine ev_callV0 i_Fi_carryOut_86 rfl o0 (Nat.le_of_ble_eq_true rfl) (g_close_no hS hq) ?_
      exact ev_iret i_Fi_carryOut_89 rfl (by first | rfl | decide)
    · rw [if_neg hq]
      refine ⟨fun G hG => ?_, fun hG => by cases hG⟩
      cases hG
      obtain ⟨S1, m1, s1, f1⟩ := g_close (scr := scr) (l := l) hS hV hi hq
      refine ⟨S1, fun d => ?_, s1, f1⟩
      refine MetA.of rfl (by decide +kernel) (Nat.le_of_ble_eq_true rfl) ?_
      refine ev_iload_n i_Fi_carryOut_0 rfl ?_
      refine ev_switch (tgt := 85) ⟨_, _, _, _, _, i_Fi_carryOut_1, Or.inl ⟨by decide, by decide, _, rfl, rfl⟩⟩ ?_
      refine ev_aload_n i_Fi_carryOut_85 rfl ?_
      refine ev_callV0 i_Fi_carryOut_86 rfl o0 (Nat.le_of_ble_eq_true rfl) (m1 _) ?_
      exact ev_iret i_Fi_carryOut_89 rfl (by first | rfl | decide)

/-! the model m: ways, its face -/
theorem Bk_at {T : TabV} {xs ys : List Nat} {i a : Nat} (hi : i < xs.length) : Bk T xs ys (xs.length - i) a = (sumN (fun u => if stB ys ((prodsOf T xs i).getD u []) a = true then Bk T xs ys (xs.length - (i + 1)) (a + ((prodsOf T xs i).getD u []).length) else 0) (prodsOf T xs i).length) := by
  rw [show xs.length - i = (xs.length - (i + 1)) + 1 from by omega]
  show sumN (fun u => if stB ys ((prodsOf T xs (xs.length - (xs.length - (i + 1) + 1))).getD u []) a = true then Bk T xs ys (xs.length - (i + 1)) (a + ((prodsOf T xs (xs.length - (xs.length - (i + 1) + 1))).getD u []).length) else 0) (prodsOf T xs (xs.length - (xs.length - (i + 1) + 1))).length = _
  rw [show xs.length - (xs.length - (i + 1) + 1) = i from by omega]
theorem lp_cell_end {scr : Scr} {l : Launch} {S : Sto} {t a d : Nat} {T : TabV} {xs ys : List Nat} {g gt gw : Nat → Int32} {f : Nat → Int64} {q1 q2 q3 q4 q5 q6 q7 : Int32} {r : Res} (ht3 : t < 3) (h0 : S.1[105]? = some (mObj q1 q2 q3 q4 q5 q6 q7)) (hg : S.1[106]? = some (aI 417 g)) (hT : MTab g t T) (hwd : S.1[107]? = some (aI 61 gw)) (hx : RowW gw 0 xs) (ht : S.1[108]? = some (aI 61 gt)) (hy : RowW gt 0 ys) (hw : S.1[126]? = some (aJ 3721 f)) (ha : a ≤ ys.length) (hk : ∀ u4 u5 u6 u7 u8 u9 u10 u11 u12, Ev scr l (d + 4) M_Md_ways 38 [some (.ref 105), some (.int (nI t)), some (.int (nI xs.length)), some (.int (nI (a + 1))), u4, u5, u6, u7, u8, u9, u10, u11, u12] [] (S.put 126 (aJ 3721 (vp_updL f (61 * xs.length + a) (enc (Bk T xs ys (xs.length - xs.length) a))))) r) : ∀ u4 u5 u6 u7 u8 u9 u10 u11 u12, Ev scr l (d + 4) M_Md_ways 38 [some (.ref 105), some (.int (nI t)), some (.int (nI xs.length)), some (.int (nI a)), u4, u5, u6, u7, u8, u9, u10, u11, u12] [] S r := by
  have h60 := hx.2.1
  have h60y := hy.2.1
  intro u4 u5 u6 u7 u8 u9 u10 u11 u12
  by_cases he : a = ys.length
  · have eB : enc (Bk T xs ys (xs.length - xs.length) a) = 1 := by
      rw [Nat.sub_self]
      show enc (if a = ys.length then 1 else 0) = 1
      rw [if_pos he]; rfl
    refine ev_iload_n i_Md_ways_38 rfl ?_
    refine ev_aload_n i_Md_ways_39 rfl ?_
    refine ev_get i_Md_ways_40 h0 rfl ?_
    refine ev_iconstN (v := 0) i_Md_ways_43 (by decide) ?_
    refine ev_ialdN i_Md_ways_44 ht (by decide) (by decide) ?_
    rw [hy.1]
    refine ev_icmp_gtN i_Md_ways_45 (by omega) (by omega) (fun hc_45 => ?_) (fun hc_45 => ?_)
    · skip
      exfalso; omega
    · skip
      refine ev_iload_n i_Md_ways_48 rfl ?_
      refine ev_aload_n i_Md_ways_49 rfl ?_
      refine ev_get i_Md_ways_50 h0 rfl ?_
      refine ev_iconstN (v := 0) i_Md_ways_53 (by decide) ?_
      refine ev_ialdN i_Md_ways_54 hwd (by decide) (by decide) ?_
      rw [hx.1]
      refine ev_icmp_neN i_Md_ways_55 (by omega) (by omega) (fun hc_55 => ?_) (fun hc_55 => ?_)
      · skip
        exfalso; omega
      · skip
        refine ev_iload_n i_Md_ways_58 rfl ?_
        refine ev_aload_n i_Md_ways_59 rfl ?_
        refine ev_get i_Md_ways_60 h0 rfl ?_
        refine ev_iconstN (v := 0) i_Md_ways_63 (by decide) ?_
        refine ev_ialdN i_Md_ways_64 ht (by decide) (by decide) ?_
        rw [hy.1]
        refine ev_icmp_neN i_Md_ways_65 (by omega) (by omega) (fun hc_65 => ?_) (fun hc_65 => ?_)
        · skip
          exfalso; omega
        · skip
          refine ev_lconst (v := 1) i_Md_ways_68 (by decide) ?_
          refine ev_goto i_Md_ways_69 ?_
          refine ev_lst_4 i_Md_ways_73 rfl ?_
          refine ev_iload_n i_Md_ways_75 rfl ?_
          refine ev_aload_n i_Md_ways_76 rfl ?_
          refine ev_get i_Md_ways_77 h0 rfl ?_
          refine ev_iconstN (v := 0) i_Md_ways_80 (by decide) ?_
          refine ev_ialdN i_Md_ways_81 hwd (by decide) (by decide) ?_
          rw [hx.1]
          refine ev_icmp_neN i_Md_ways_82 (by omega) (by omega) (fun hc_82 => ?_) (fun hc_82 => ?_)
          · skip
            exfalso; omega
          · skip
            refine ev_iconst (v := -1) i_Md_ways_85 (by decide) ?_
            refine ev_goto i_Md_ways_86 ?_
            refine ev_ist_6 i_Md_ways_101 rfl ?_
            refine ev_iload_n i_Md_ways_103 rfl ?_
            refine ev_aload_n i_Md_ways_104 rfl ?_
            refine ev_get i_Md_ways_105 h0 rfl ?_
            refine ev_iconstN (v := 0) i_Md_ways_108 (by decide) ?_
            refine ev_ialdN i_Md_ways_109 hwd (by decide) (by decide) ?_
            rw [hx.1]
            refine ev_icmp_neN i_Md_ways_110 (by omega) (by omega) (fun hc_110 => ?_) (fun hc_110 => ?_)
            · skip
              exfalso; omega
            · skip
              refine ev_iconstN (v := 0) i_Md_ways_113 (by decide) ?_
              refine ev_goto i_Md_ways_114 ?_
              refine ev_ist_7 i_Md_ways_129 rfl ?_
              refine ev_iload_n i_Md_ways_131 rfl ?_
              refine ev_aload_n i_Md_ways_132 rfl ?_
              refine ev_get i_Md_ways_133 h0 rfl ?_
              refine ev_iconstN (v := 0) i_Md_ways_136 (by decide) ?_
              refine ev_ialdN i_Md_ways_137 hwd (by decide) (by decide) ?_
              rw [hx.1]
              refine ev_icmp_neN i_Md_ways_138 (by omega) (by omega) (fun hc_138 => ?_) (fun hc_138 => ?_)
              · skip
                exfalso; omega
              · skip
                refine ev_iconstN (v := 0) i_Md_ways_141 (by decide) ?_
                refine ev_goto i_Md_ways_142 ?_
                refine ev_ist_8 i_Md_ways_161 rfl ?_
                refine ev_iconstN (v := 0) i_Md_ways_163 (by decide) ?_
                refine ev_ist_9 i_Md_ways_164 rfl ?_
                refine ev_iload i_Md_ways_166 rfl ?_
                refine ev_iload i_Md_ways_168 rfl ?_
                refine ev_icmp_geN i_Md_ways_170 (by omega) (by omega) (fun hc_170 => ?_) (fun hc_170 => ?_)
                · skip
                  refine ev_aload_n i_Md_ways_262 rfl ?_
                  refine ev_get i_Md_ways_263 h0 rfl ?_
                  refine ev_bipushN (v := 61) i_Md_ways_266 (by decide) ?_
                  refine ev_iload_n i_Md_ways_268 rfl ?_
                  first | refine ev_imulN i_Md_ways_269 ?_ | refine ev_imul i_Md_ways_269 ?_
                  refine ev_iload_n i_Md_ways_270 rfl ?_
                  first | refine ev_iaddN i_Md_ways_271 ?_ | refine ev_iadd i_Md_ways_271 ?_
                  refine ev_lload i_Md_ways_272 rfl ?_
                  refine ev_lconst (v := 0) i_Md_ways_274 (by decide) ?_
                  refine ev_lif_ge i_Md_ways_275 i_Md_ways_276 (fun hc_276 => ?_) (fun hc_276 => ?_)
                  · skip
                    refine ev_lload i_Md_ways_285 rfl ?_
                    refine ev_lastN i_Md_ways_287 hw (by omega) (by decide) ?_
                    rw [eB] at hk
                    refine ev_iincN_3 (c := 1) i_Md_ways_288 (by decide) rfl ?_
                    refine ev_goto i_Md_ways_291 ?_
                    exact hk _ _ _ _ _ _ _ _ _
                  · skip
                    exact absurd hc_276 (by decide)
                · skip
                  exfalso; omega
  · have eB : enc (Bk T xs ys (xs.length - xs.length) a) = 0 := by
      rw [Nat.sub_self]
      show enc (if a = ys.length then 1 else 0) = 0
      rw [if_neg he]; rfl
    refine ev_iload_n i_Md_ways_38 rfl ?_
    refine ev_aload_n i_Md_ways_39 rfl ?_
    refine ev_get i_Md_ways_40 h0 rfl ?_
    refine ev_iconstN (v := 0) i_Md_ways_43 (by decide) ?_
    refine ev_ialdN i_Md_ways_44 ht (by decide) (by decide) ?_
    rw [hy.1]
    refine ev_icmp_gtN i_Md_ways_45 (by omega) (by omega) (fun hc_45 => ?_) (fun hc_45 => ?_)
    · skip
      exfalso; omega
    · skip
      refine ev_iload_n i_Md_ways_48 rfl ?_
      refine ev_aload_n i_Md_ways_49 rfl ?_
      refine ev_get i_Md_ways_50 h0 rfl ?_
      refine ev_iconstN (v := 0) i_Md_ways_53 (by decide) ?_
      refine ev_ialdN i_Md_ways_54 hwd (by decide) (by decide) ?_
      rw [hx.1]
      refine ev_icmp_neN i_Md_ways_55 (by omega) (by omega) (fun hc_55 => ?_) (fun hc_55 => ?_)
      · skip
        exfalso; omega
      · skip
        refine ev_iload_n i_Md_ways_58 rfl ?_
        refine ev_aload_n i_Md_ways_59 rfl ?_
        refine ev_get i_Md_ways_60 h0 rfl ?_
        refine ev_iconstN (v := 0) i_Md_ways_63 (by decide) ?_
        refine ev_ialdN i_Md_ways_64 ht (by decide) (by decide) ?_
        rw [hy.1]
        refine ev_icmp_neN i_Md_ways_65 (by omega) (by omega) (fun hc_65 => ?_) (fun hc_65 => ?_)
        · skip
          refine ev_lconst (v := 0) i_Md_ways_72 (by decide) ?_
          refine ev_lst_4 i_Md_ways_73 rfl ?_
          refine ev_iload_n i_Md_ways_75 rfl ?_
          refine ev_aload_n i_Md_ways_76 rfl ?_
          refine ev_get i_Md_ways_77 h0 rfl ?_
          refine ev_iconstN (v := 0) i_Md_ways_80 (by decide) ?_
          refine ev_ialdN i_Md_ways_81 hwd (by decide) (by decide) ?_
          rw [hx.1]
          refine ev_icmp_neN i_Md_ways_82 (by omega) (by omega) (fun hc_82 => ?_) (fun hc_82 => ?_)
          · skip
            exfalso; omega
          · skip
            refine ev_iconst (v := -1) i_Md_ways_85 (by decide) ?_
            refine ev_goto i_Md_ways_86 ?_
            refine ev_ist_6 i_Md_ways_101 rfl ?_
            refine ev_iload_n i_Md_ways_103 rfl ?_
            refine ev_aload_n i_Md_ways_104 rfl ?_
            refine ev_get i_Md_ways_105 h0 rfl ?_
            refine ev_iconstN (v := 0) i_Md_ways_108 (by decide) ?_
            refine ev_ialdN i_Md_ways_109 hwd (by decide) (by decide) ?_
            rw [hx.1]
            refine ev_icmp_neN i_Md_ways_110 (by omega) (by omega) (fun hc_110 => ?_) (fun hc_110 => ?_)
            · skip
              exfalso; omega
            · skip
              refine ev_iconstN (v := 0) i_Md_ways_113 (by decide) ?_
              refine ev_goto i_Md_ways_114 ?_
              refine ev_ist_7 i_Md_ways_129 rfl ?_
              refine ev_iload_n i_Md_ways_131 rfl ?_
              refine ev_aload_n i_Md_ways_132 rfl ?_
              refine ev_get i_Md_ways_133 h0 rfl ?_
              refine ev_iconstN (v := 0) i_Md_ways_136 (by decide) ?_
              refine ev_ialdN i_Md_ways_137 hwd (by decide) (by decide) ?_
              rw [hx.1]
              refine ev_icmp_neN i_Md_ways_138 (by omega) (by omega) (fun hc_138 => ?_) (fun hc_138 => ?_)
              · skip
                exfalso; omega
              · skip
                refine ev_iconstN (v := 0) i_Md_ways_141 (by decide) ?_
                refine ev_goto i_Md_ways_142 ?_
                refine ev_ist_8 i_Md_ways_161 rfl ?_
                refine ev_iconstN (v := 0) i_Md_ways_163 (by decide) ?_
                refine ev_ist_9 i_Md_ways_164 rfl ?_
                refine ev_iload i_Md_ways_166 rfl ?_
                refine ev_iload i_Md_ways_168 rfl ?_
                refine ev_icmp_geN i_Md_ways_170 (by omega) (by omega) (fun hc_170 => ?_) (fun hc_170 => ?_)
                · skip
                  refine ev_aload_n i_Md_ways_262 rfl ?_
                  refine ev_get i_Md_ways_263 h0 rfl ?_
                  refine ev_bipushN (v := 61) i_Md_ways_266 (by decide) ?_
                  refine ev_iload_n i_Md_ways_268 rfl ?_
                  first | refine ev_imulN i_Md_ways_269 ?_ | refine ev_imul i_Md_ways_269 ?_
                  refine ev_iload_n i_Md_ways_270 rfl ?_
                  first | refine ev_iaddN i_Md_ways_271 ?_ | refine ev_iadd i_Md_ways_271 ?_
                  refine ev_lload i_Md_ways_272 rfl ?_
                  refine ev_lconst (v := 0) i_Md_ways_274 (by decide) ?_
                  refine ev_lif_ge i_Md_ways_275 i_Md_ways_276 (fun hc_276 => ?_) (fun hc_276 => ?_)
                  · skip
                    refine ev_lload i_Md_ways_285 rfl ?_
                    refine ev_lastN i_Md_ways_287 hw (by omega) (by decide) ?_
                    rw [eB] at hk
                    refine ev_iincN_3 (c := 1) i_Md_ways_288 (by decide) rfl ?_
                    refine ev_goto i_Md_ways_291 ?_
                    exact hk _ _ _ _ _ _ _ _ _
                  · skip
                    exact absurd hc_276 (by decide)
                · skip
                  exfalso; omega
        · skip
          exfalso; omega
theorem lp_cell {scr : Scr} {l : Launch} {S : Sto} {i : Nat} {t a d : Nat} {T : TabV} {xs ys : List Nat} {g gt gw : Nat → Int32} {f : Nat → Int64} {q1 q2 q3 q4 q5 q6 q7 : Int32} {r : Res} (ht3 : t < 3) (h0 : S.1[105]? = some (mObj q1 q2 q3 q4 q5 q6 q7)) (hg : S.1[106]? = some (aI 417 g)) (hT : MTab g t T) (hwd : S.1[107]? = some (aI 61 gw)) (hx : RowW gw 0 xs) (ht : S.1[108]? = some (aI 61 gt)) (hy : RowW gt 0 ys) (hw : S.1[126]? = some (aJ 3721 f)) (ha : a ≤ ys.length) (hi : i < xs.length) (hf : ∀ b, b ≤ ys.length → f (61 * (i + 1) + b) = enc (Bk T xs ys (xs.length - (i + 1)) b)) (hk : ∀ u4 u5 u6 u7 u8 u9 u10 u11 u12, Ev scr l (d + 4) M_Md_ways 38 [some (.ref 105), some (.int (nI t)), some (.int (nI i)), some (.int (nI (a + 1))), u4, u5, u6, u7, u8, u9, u10, u11, u12] [] (S.put 126 (aJ 3721 (vp_updL f (61 * i + a) (enc (Bk T xs ys (xs.length - i) a))))) r) : ∀ u4 u5 u6 u7 u8 u9 u10 u11 u12, Ev scr l (d + 4) M_Md_ways 38 [some (.ref 105), some (.int (nI t)), some (.int (nI i)), some (.int (nI a)), u4, u5, u6, u7, u8, u9, u10, u11, u12] [] S r := by
  have h60 := hx.2.1
  have h60y := hy.2.1
  have hru := m_ruled (scr := scr) (l := l) h0 hg hT ht3 hwd hx hi
  obtain ⟨ex0, h6⟩ := hx.2.2 i hi
  have ex : gw (i + 1) = nI (xs.getD i 0) := by rw [show i + 1 = 0 + 1 + i from by omega]; exact ex0
  intro u4 u5 u6 u7 u8 u9 u10 u11 u12
  cases hr : ruleAt T xs i with
  | some p =>
    have hpr : prodsOf T xs i = [p] := by unfold prodsOf; rw [hr]
    obtain ⟨o, ho, hmp, hok, mr⟩ := hru.2 p hr
    have hps : (prodsOf T xs i).length ≤ 3 := by rw [hpr]; simp
    have hP : ∀ u, u < (prodsOf T xs i).length → ∃ o', o' + 5 ≤ 417 ∧ MProd g o' ((prodsOf T xs i).getD u []) ∧ PrOK ((prodsOf T xs i).getD u []) ∧ ((¬ nI o < 0 ∧ nI o = nI o') ∨ (nI o < 0 ∧ ∃ ll, nI (139 * t + 16 * xs.getD i 0) = nI ll ∧ o' = ll + 1 + 5 * u)) := fun u hu => by
      rw [hpr] at hu ⊢
      have z : u = 0 := by simp at hu; exact hu
      subst z
      exact ⟨o, ho, hmp, hok, Or.inl ⟨nI_pos (by omega), rfl⟩⟩
    refine ev_iload_n i_Md_ways_38 rfl ?_
    refine ev_aload_n i_Md_ways_39 rfl ?_
    refine ev_get i_Md_ways_40 h0 rfl ?_
    refine ev_iconstN (v := 0) i_Md_ways_43 (by decide) ?_
    refine ev_ialdN i_Md_ways_44 ht (by decide) (by decide) ?_
    rw [hy.1]
    refine ev_icmp_gtN i_Md_ways_45 (by omega) (by omega) (fun hc_45 => ?_) (fun hc_45 => ?_)
    · skip
      exfalso; omega
    · skip
      refine ev_iload_n i_Md_ways_48 rfl ?_
      refine ev_aload_n i_Md_ways_49 rfl ?_
      refine ev_get i_Md_ways_50 h0 rfl ?_
      refine ev_iconstN (v := 0) i_Md_ways_53 (by decide) ?_
      refine ev_ialdN i_Md_ways_54 hwd (by decide) (by decide) ?_
      rw [hx.1]
      refine ev_icmp_neN i_Md_ways_55 (by omega) (by omega) (fun hc_55 => ?_) (fun hc_55 => ?_)
      · skip
        refine ev_lconst (v := 0) i_Md_ways_72 (by decide) ?_
        refine ev_lst_4 i_Md_ways_73 rfl ?_
        refine ev_iload_n i_Md_ways_75 rfl ?_
        refine ev_aload_n i_Md_ways_76 rfl ?_
        refine ev_get i_Md_ways_77 h0 rfl ?_
        refine ev_iconstN (v := 0) i_Md_ways_80 (by decide) ?_
        refine ev_ialdN i_Md_ways_81 hwd (by decide) (by decide) ?_
        rw [hx.1]
        refine ev_icmp_neN i_Md_ways_82 (by omega) (by omega) (fun hc_82 => ?_) (fun hc_82 => ?_)
        · skip
          refine ev_aload_n i_Md_ways_89 rfl ?_
          refine ev_iload_n i_Md_ways_90 rfl ?_
          refine ev_aload_n i_Md_ways_91 rfl ?_
          refine ev_get i_Md_ways_92 h0 rfl ?_
          refine ev_iload_n i_Md_ways_95 rfl ?_
          refine ev_iconstN (v := 1) i_Md_ways_96 (by decide) ?_
          first | refine ev_iaddN i_Md_ways_97 ?_ | refine ev_iadd i_Md_ways_97 ?_
          refine ev_callV3 i_Md_ways_98 rfl h0 (Nat.le_of_ble_eq_true rfl) (mr _) ?_
          refine ev_ist_6 i_Md_ways_101 rfl ?_
          refine ev_iload_n i_Md_ways_103 rfl ?_
          refine ev_aload_n i_Md_ways_104 rfl ?_
          refine ev_get i_Md_ways_105 h0 rfl ?_
          refine ev_iconstN (v := 0) i_Md_ways_108 (by decide) ?_
          refine ev_ialdN i_Md_ways_109 hwd (by decide) (by decide) ?_
          rw [hx.1]
          refine ev_icmp_neN i_Md_ways_110 (by omega) (by omega) (fun hc_110 => ?_) (fun hc_110 => ?_)
          · skip
            refine ev_iload_n i_Md_ways_117 rfl ?_
            refine ev_aload_n i_Md_ways_118 rfl ?_
            refine ev_get i_Md_ways_119 h0 rfl ?_
            refine ev_iload_n i_Md_ways_122 rfl ?_
            refine ev_iconstN (v := 1) i_Md_ways_123 (by decide) ?_
            first | refine ev_iaddN i_Md_ways_124 ?_ | refine ev_iadd i_Md_ways_124 ?_
            refine ev_ialdN i_Md_ways_125 hwd (by omega) (by decide) ?_
            rw [ex]
            refine ev_callS2 i_Md_ways_126 rfl (Nat.le_of_ble_eq_true rfl) m_listAt ?_
            refine ev_ist_7 i_Md_ways_129 rfl ?_
            refine ev_iload_n i_Md_ways_131 rfl ?_
            refine ev_aload_n i_Md_ways_132 rfl ?_
            refine ev_get i_Md_ways_133 h0 rfl ?_
            refine ev_iconstN (v := 0) i_Md_ways_136 (by decide) ?_
            refine ev_ialdN i_Md_ways_137 hwd (by decide) (by decide) ?_
            rw [hx.1]
            refine ev_icmp_neN i_Md_ways_138 (by omega) (by omega) (fun hc_138 => ?_) (fun hc_138 => ?_)
            · skip
              refine ev_iload i_Md_ways_145 rfl ?_
              refine ev_if_lt i_Md_ways_147 (fun hc_147 => ?_) (fun hc_147 => ?_)
              · skip
                exact absurd hc_147 (nI_pos (by omega))
              · skip
                refine ev_iconstN (v := (prodsOf T xs i).length) i_Md_ways_150 (by rw [hpr]; rfl) ?_
                refine ev_goto i_Md_ways_151 ?_
                refine ev_ist_8 i_Md_ways_161 rfl ?_
                refine ev_iconstN (v := 0) i_Md_ways_163 (by decide) ?_
                refine ev_ist_9 i_Md_ways_164 rfl ?_
                rcases first_or (fun c => decide (¬ (sumN (fun u => if stB ys ((prodsOf T xs i).getD u []) a = true then Bk T xs ys (xs.length - (i + 1)) (a + ((prodsOf T xs i).getD u []).length) else 0) (c + 1)) < 2 ^ 63)) (prodsOf T xs i).length with hall | ⟨m0, hm0, hov, hall⟩
                · have hall : ∀ c, c ≤ (prodsOf T xs i).length → (sumN (fun u => if stB ys ((prodsOf T xs i).getD u []) a = true then Bk T xs ys (xs.length - (i + 1)) (a + ((prodsOf T xs i).getD u []).length) else 0) c) < 2 ^ 63 := fun c hc => by
                    cases c with
                    | zero => exact Nat.two_pow_pos 63
                    | succ c => simpa using hall c (by omega)
                  have hN := hall (prodsOf T xs i).length (Nat.le_refl _)
                  exact lp_wk h0 hg ht hy hw hi h60 ha hf hps hP hall (fun u10 u11 u12 => by
                    refine ev_aload_n i_Md_ways_262 rfl ?_
                    refine ev_get i_Md_ways_263 h0 rfl ?_
                    refine ev_bipushN (v := 61) i_Md_ways_266 (by decide) ?_
                    refine ev_iload_n i_Md_ways_268 rfl ?_
                    first | refine ev_imulN i_Md_ways_269 ?_ | refine ev_imul i_Md_ways_269 ?_
                    refine ev_iload_n i_Md_ways_270 rfl ?_
                    first | refine ev_iaddN i_Md_ways_271 ?_ | refine ev_iadd i_Md_ways_271 ?_
                    refine ev_lload i_Md_ways_272 rfl ?_
                    refine ev_lconst (v := 0) i_Md_ways_274 (by decide) ?_
                    refine ev_lif_ge i_Md_ways_275 i_Md_ways_276 (fun hc_276 => ?_) (fun hc_276 => ?_)
                    · skip
                      refine ev_lload i_Md_ways_285 rfl ?_
                      refine ev_lastN i_Md_ways_287 hw (by omega) (by decide) ?_
                      rw [Bk_at hi, enc_lt hN] at hk
                      refine ev_iincN_3 (c := 1) i_Md_ways_288 (by decide) rfl ?_
                      refine ev_goto i_Md_ways_291 ?_
                      exact hk _ _ _ _ _ _ _ _ _
                    · skip
                      exact absurd hc_276 (nL_pos hN)) (prodsOf T xs i).length 0 (by omega) (by omega) _ _ _
                · have hov : ¬ (sumN (fun u => if stB ys ((prodsOf T xs i).getD u []) a = true then Bk T xs ys (xs.length - (i + 1)) (a + ((prodsOf T xs i).getD u []).length) else 0) (m0 + 1)) < 2 ^ 63 := by simpa using hov
                  have hall : ∀ c, c ≤ m0 → (sumN (fun u => if stB ys ((prodsOf T xs i).getD u []) a = true then Bk T xs ys (xs.length - (i + 1)) (a + ((prodsOf T xs i).getD u []).length) else 0) c) < 2 ^ 63 := fun c hc => by
                    cases c with
                    | zero => exact Nat.two_pow_pos 63
                    | succ c => simpa using hall c (by omega)
                  have hbig : ¬ (sumN (fun u => if stB ys ((prodsOf T xs i).getD u []) a = true then Bk T xs ys (xs.length - (i + 1)) (a + ((prodsOf T xs i).getD u []).length) else 0) (prodsOf T xs i).length) < 2 ^ 63 := fun q => hov (Nat.lt_of_le_of_lt (sumN_mono (by omega)) q)
                  exact lp_wk_over h0 hg ht hy hw hi h60 ha hf hps hP hm0 hall hov (fun sm hsm u10 u11 u12 => by
                    refine ev_aload_n i_Md_ways_262 rfl ?_
                    refine ev_get i_Md_ways_263 h0 rfl ?_
                    refine ev_bipushN (v := 61) i_Md_ways_266 (by decide) ?_
                    refine ev_iload_n i_Md_ways_268 rfl ?_
                    first | refine ev_imulN i_Md_ways_269 ?_ | refine ev_imul i_Md_ways_269 ?_
                    refine ev_iload_n i_Md_ways_270 rfl ?_
                    first | refine ev_iaddN i_Md_ways_271 ?_ | refine ev_iadd i_Md_ways_271 ?_
                    refine ev_lload i_Md_ways_272 rfl ?_
                    refine ev_lconst (v := 0) i_Md_ways_274 (by decide) ?_
                    refine ev_lif_ge i_Md_ways_275 i_Md_ways_276 (fun hc_276 => ?_) (fun hc_276 => ?_)
                    · skip
                      exact absurd hsm hc_276
                    · skip
                      refine ev_LdcL i_Md_ways_279 ?_
                      refine ev_goto i_Md_ways_282 ?_
                      refine ev_lastN i_Md_ways_287 hw (by omega) (by decide) ?_
                      rw [Bk_at hi, enc_ge hbig] at hk
                      refine ev_iincN_3 (c := 1) i_Md_ways_288 (by decide) rfl ?_
                      refine ev_goto i_Md_ways_291 ?_
                      exact hk _ _ _ _ _ _ _ _ _) m0 0 (by omega) (by omega) _ _ _
            · skip
              exfalso; omega
          · skip
            exfalso; omega
        · skip
          exfalso; omega
      · skip
        exfalso; omega
  | none =>
    have hpr : prodsOf T xs i = T.1 (xs.getD i 0) := by unfold prodsOf; rw [hr]
    have mr := hru.1 hr
    have hL := hT.1 _ h6
    have hpl : (prodsOf T xs i).length = (T.1 (xs.getD i 0)).length := by rw [hpr]
    have hps : (prodsOf T xs i).length ≤ 3 := by rw [hpr]; exact hL.2.2.1
    have hP : ∀ u, u < (prodsOf T xs i).length → ∃ o', o' + 5 ≤ 417 ∧ MProd g o' ((prodsOf T xs i).getD u []) ∧ PrOK ((prodsOf T xs i).getD u []) ∧ ((¬ (-1 : Int32) < 0 ∧ (-1 : Int32) = nI o') ∨ ((-1 : Int32) < 0 ∧ ∃ ll, nI (139 * t + 16 * xs.getD i 0) = nI ll ∧ o' = ll + 1 + 5 * u)) := fun u hu => by
      rw [hpr] at hu ⊢
      have := hL.2.2.1
      exact ⟨139 * t + 16 * xs.getD i 0 + 1 + 5 * u, by omega, (hL.2.2.2 u hu).1, (hL.2.2.2 u hu).2, Or.inr ⟨by decide, _, rfl, rfl⟩⟩
    refine ev_iload_n i_Md_ways_38 rfl ?_
    refine ev_aload_n i_Md_ways_39 rfl ?_
    refine ev_get i_Md_ways_40 h0 rfl ?_
    refine ev_iconstN (v := 0) i_Md_ways_43 (by decide) ?_
    refine ev_ialdN i_Md_ways_44 ht (by decide) (by decide) ?_
    rw [hy.1]
    refine ev_icmp_gtN i_Md_ways_45 (by omega) (by omega) (fun hc_45 => ?_) (fun hc_45 => ?_)
    · skip
      exfalso; omega
    · skip
      refine ev_iload_n i_Md_ways_48 rfl ?_
      refine ev_aload_n i_Md_ways_49 rfl ?_
      refine ev_get i_Md_ways_50 h0 rfl ?_
      refine ev_iconstN (v := 0) i_Md_ways_53 (by decide) ?_
      refine ev_ialdN i_Md_ways_54 hwd (by decide) (by decide) ?_
      rw [hx.1]
      refine ev_icmp_neN i_Md_ways_55 (by omega) (by omega) (fun hc_55 => ?_) (fun hc_55 => ?_)
      · skip
        refine ev_lconst (v := 0) i_Md_ways_72 (by decide) ?_
        refine ev_lst_4 i_Md_ways_73 rfl ?_
        refine ev_iload_n i_Md_ways_75 rfl ?_
        refine ev_aload_n i_Md_ways_76 rfl ?_
        refine ev_get i_Md_ways_77 h0 rfl ?_
        refine ev_iconstN (v := 0) i_Md_ways_80 (by decide) ?_
        refine ev_ialdN i_Md_ways_81 hwd (by decide) (by decide) ?_
        rw [hx.1]
        refine ev_icmp_neN i_Md_ways_82 (by omega) (by omega) (fun hc_82 => ?_) (fun hc_82 => ?_)
        · skip
          refine ev_aload_n i_Md_ways_89 rfl ?_
          refine ev_iload_n i_Md_ways_90 rfl ?_
          refine ev_aload_n i_Md_ways_91 rfl ?_
          refine ev_get i_Md_ways_92 h0 rfl ?_
          refine ev_iload_n i_Md_ways_95 rfl ?_
          refine ev_iconstN (v := 1) i_Md_ways_96 (by decide) ?_
          first | refine ev_iaddN i_Md_ways_97 ?_ | refine ev_iadd i_Md_ways_97 ?_
          refine ev_callV3 i_Md_ways_98 rfl h0 (Nat.le_of_ble_eq_true rfl) (mr _) ?_
          refine ev_ist_6 i_Md_ways_101 rfl ?_
          refine ev_iload_n i_Md_ways_103 rfl ?_
          refine ev_aload_n i_Md_ways_104 rfl ?_
          refine ev_get i_Md_ways_105 h0 rfl ?_
          refine ev_iconstN (v := 0) i_Md_ways_108 (by decide) ?_
          refine ev_ialdN i_Md_ways_109 hwd (by decide) (by decide) ?_
          rw [hx.1]
          refine ev_icmp_neN i_Md_ways_110 (by omega) (by omega) (fun hc_110 => ?_) (fun hc_110 => ?_)
          · skip
            refine ev_iload_n i_Md_ways_117 rfl ?_
            refine ev_aload_n i_Md_ways_118 rfl ?_
            refine ev_get i_Md_ways_119 h0 rfl ?_
            refine ev_iload_n i_Md_ways_122 rfl ?_
            refine ev_iconstN (v := 1) i_Md_ways_123 (by decide) ?_
            first | refine ev_iaddN i_Md_ways_124 ?_ | refine ev_iadd i_Md_ways_124 ?_
            refine ev_ialdN i_Md_ways_125 hwd (by omega) (by decide) ?_
            rw [ex]
            refine ev_callS2 i_Md_ways_126 rfl (Nat.le_of_ble_eq_true rfl) m_listAt ?_
            refine ev_ist_7 i_Md_ways_129 rfl ?_
            refine ev_iload_n i_Md_ways_131 rfl ?_
            refine ev_aload_n i_Md_ways_132 rfl ?_
            refine ev_get i_Md_ways_133 h0 rfl ?_
            refine ev_iconstN (v := 0) i_Md_ways_136 (by decide) ?_
            refine ev_ialdN i_Md_ways_137 hwd (by decide) (by decide) ?_
            rw [hx.1]
            refine ev_icmp_neN i_Md_ways_138 (by omega) (by omega) (fun hc_138 => ?_) (fun hc_138 => ?_)
            · skip
              refine ev_iload i_Md_ways_145 rfl ?_
              refine ev_if_lt i_Md_ways_147 (fun hc_147 => ?_) (fun hc_147 => ?_)
              · skip
                refine ev_aload_n i_Md_ways_154 rfl ?_
                refine ev_get i_Md_ways_155 h0 rfl ?_
                refine ev_iload i_Md_ways_158 rfl ?_
                refine ev_ialdN i_Md_ways_160 hg (by omega) (by decide) ?_
                rw [hL.1, ← hpl]
                refine ev_ist_8 i_Md_ways_161 rfl ?_
                refine ev_iconstN (v := 0) i_Md_ways_163 (by decide) ?_
                refine ev_ist_9 i_Md_ways_164 rfl ?_
                rcases first_or (fun c => decide (¬ (sumN (fun u => if stB ys ((prodsOf T xs i).getD u []) a = true then Bk T xs ys (xs.length - (i + 1)) (a + ((prodsOf T xs i).getD u []).length) else 0) (c + 1)) < 2 ^ 63)) (prodsOf T xs i).length with hall | ⟨m0, hm0, hov, hall⟩
                · have hall : ∀ c, c ≤ (prodsOf T xs i).length → (sumN (fun u => if stB ys ((prodsOf T xs i).getD u []) a = true then Bk T xs ys (xs.length - (i + 1)) (a + ((prodsOf T xs i).getD u []).length) else 0) c) < 2 ^ 63 := fun c hc => by
                    cases c with
                    | zero => exact Nat.two_pow_pos 63
                    | succ c => simpa using hall c (by omega)
                  have hN := hall (prodsOf T xs i).length (Nat.le_refl _)
                  exact lp_wk h0 hg ht hy hw hi h60 ha hf hps hP hall (fun u10 u11 u12 => by
                    refine ev_aload_n i_Md_ways_262 rfl ?_
                    refine ev_get i_Md_ways_263 h0 rfl ?_
                    refine ev_bipushN (v := 61) i_Md_ways_266 (by decide) ?_
                    refine ev_iload_n i_Md_ways_268 rfl ?_
                    first | refine ev_imulN i_Md_ways_269 ?_ | refine ev_imul i_Md_ways_269 ?_
                    refine ev_iload_n i_Md_ways_270 rfl ?_
                    first | refine ev_iaddN i_Md_ways_271 ?_ | refine ev_iadd i_Md_ways_271 ?_
                    refine ev_lload i_Md_ways_272 rfl ?_
                    refine ev_lconst (v := 0) i_Md_ways_274 (by decide) ?_
                    refine ev_lif_ge i_Md_ways_275 i_Md_ways_276 (fun hc_276 => ?_) (fun hc_276 => ?_)
                    · skip
                      refine ev_lload i_Md_ways_285 rfl ?_
                      refine ev_lastN i_Md_ways_287 hw (by omega) (by decide) ?_
                      rw [Bk_at hi, enc_lt hN] at hk
                      refine ev_iincN_3 (c := 1) i_Md_ways_288 (by decide) rfl ?_
                      refine ev_goto i_Md_ways_291 ?_
                      exact hk _ _ _ _ _ _ _ _ _
                    · skip
                      exact absurd hc_276 (nL_pos hN)) (prodsOf T xs i).length 0 (by omega) (by omega) _ _ _
                · have hov : ¬ (sumN (fun u => if stB ys ((prodsOf T xs i).getD u []) a = true then Bk T xs ys (xs.length - (i + 1)) (a + ((prodsOf T xs i).getD u []).length) else 0) (m0 + 1)) < 2 ^ 63 := by simpa using hov
                  have hall : ∀ c, c ≤ m0 → (sumN (fun u => if stB ys ((prodsOf T xs i).getD u []) a = true then Bk T xs ys (xs.length - (i + 1)) (a + ((prodsOf T xs i).getD u []).length) else 0) c) < 2 ^ 63 := fun c hc => by
                    cases c with
                    | zero => exact Nat.two_pow_pos 63
                    | succ c => simpa using hall c (by omega)
                  have hbig : ¬ (sumN (fun u => if stB ys ((prodsOf T xs i).getD u []) a = true then Bk T xs ys (xs.length - (i + 1)) (a + ((prodsOf T xs i).getD u []).length) else 0) (prodsOf T xs i).length) < 2 ^ 63 := fun q => hov (Nat.lt_of_le_of_lt (sumN_mono (by omega)) q)
                  exact lp_wk_over h0 hg ht hy hw hi h60 ha hf hps hP hm0 hall hov (fun sm hsm u10 u11 u12 => by
                    refine ev_aload_n i_Md_ways_262 rfl ?_
                    refine ev_get i_Md_ways_263 h0 rfl ?_
                    refine ev_bipushN (v := 61) i_Md_ways_266 (by decide) ?_
                    refine ev_iload_n i_Md_ways_268 rfl ?_
                    first | refine ev_imulN i_Md_ways_269 ?_ | refine ev_imul i_Md_ways_269 ?_
                    refine ev_iload_n i_Md_ways_270 rfl ?_
                    first | refine ev_iaddN i_Md_ways_271 ?_ | refine ev_iadd i_Md_ways_271 ?_
                    refine ev_lload i_Md_ways_272 rfl ?_
                    refine ev_lconst (v := 0) i_Md_ways_274 (by decide) ?_
                    refine ev_lif_ge i_Md_ways_275 i_Md_ways_276 (fun hc_276 => ?_) (fun hc_276 => ?_)
                    · skip
                      exact absurd hsm hc_276
                    · skip
                      refine ev_LdcL i_Md_ways_279 ?_
                      refine ev_goto i_Md_ways_282 ?_
                      refine ev_lastN i_Md_ways_287 hw (by omega) (by decide) ?_
                      rw [Bk_at hi, enc_ge hbig] at hk
                      refine ev_iincN_3 (c := 1) i_Md_ways_288 (by decide) rfl ?_
                      refine ev_goto i_Md_ways_291 ?_
                      exact hk _ _ _ _ _ _ _ _ _) m0 0 (by omega) (by omega) _ _ _
              · skip
                exact absurd (by decide) hc_147
            · skip
              exfalso; omega
          · skip
            exfalso; omega
        · skip
          exfalso; omega
      · skip
        exfalso; omega
theorem lp_row {scr : Scr} {l : Launch} {S : Sto} {i : Nat} {t d : Nat} {T : TabV} {xs ys : List Nat} {g gt gw : Nat → Int32} {q1 q2 q3 q4 q5 q6 q7 : Int32} {r : Res} (ht3 : t < 3) (h0 : S.1[105]? = some (mObj q1 q2 q3 q4 q5 q6 q7)) (hg : S.1[106]? = some (aI 417 g)) (hT : MTab g t T) (hwd : S.1[107]? = some (aI 61 gw)) (hx : RowW gw 0 xs) (ht : S.1[108]? = some (aI 61 gt)) (hy : RowW gt 0 ys) {g0 : Nat → Int64} {f0 : Nat → Int64} (hw0 : S.1[126]? = some (aJ 3721 f0)) (hi : i ≤ xs.length) (hk : ∀ u3 u4 u5 u6 u7 u8 u9 u10 u11 u12, Ev scr l (d + 4) M_Md_ways 32 [some (.ref 105), some (.int (nI t)), some (.int (nI i - nI 1)), u3, u4, u5, u6, u7, u8, u9, u10, u11, u12] [] (S.put 126 (aJ 3721 (wF T xs ys g0 i (ys.length + 1)))) r) : ∀ (k a : Nat), a + k = ys.length + 1 → ∀ u4 u5 u6 u7 u8 u9 u10 u11 u12, Ev scr l (d + 4) M_Md_ways 38 [some (.ref 105), some (.int (nI t)), some (.int (nI i)), some (.int (nI a)), u4, u5, u6, u7, u8, u9, u10, u11, u12] [] (S.put 126 (aJ 3721 (wF T xs ys g0 i a))) r := by
  have h60 := hx.2.1
  have h60y := hy.2.1
  intro k
  induction k with
  | zero =>
    intro a hak u4 u5 u6 u7 u8 u9 u10 u11 u12
    have z : a = ys.length + 1 := by omega
    subst z
    have o1 : (S.put 126 (aJ 3721 (wF T xs ys g0 i (ys.length + 1)))).1[105]? = _ := put_at h0 (by decide)
    have g1 : (S.put 126 (aJ 3721 (wF T xs ys g0 i (ys.length + 1)))).1[106]? = _ := put_at hg (by decide)
    have wd1 : (S.put 126 (aJ 3721 (wF T xs ys g0 i (ys.length + 1)))).1[107]? = _ := put_at hwd (by decide)
    have t1 : (S.put 126 (aJ 3721 (wF T xs ys g0 i (ys.length + 1)))).1[108]? = _ := put_at ht (by decide)
    have w1 : (S.put 126 (aJ 3721 (wF T xs ys g0 i (ys.length + 1)))).1[126]? = _ := put_self hw0
    refine ev_iload_n i_Md_ways_38 rfl ?_
    refine ev_aload_n i_Md_ways_39 rfl ?_
    refine ev_get i_Md_ways_40 o1 rfl ?_
    refine ev_iconstN (v := 0) i_Md_ways_43 (by decide) ?_
    refine ev_ialdN i_Md_ways_44 t1 (by decide) (by decide) ?_
    rw [hy.1]
    refine ev_icmp_gtN i_Md_ways_45 (by omega) (by omega) (fun hc_45 => ?_) (fun hc_45 => ?_)
    · skip
      refine ev_iinc_2 i_Md_ways_294 rfl ?_
      rw [nI_m1]
      refine ev_goto i_Md_ways_297 ?_
      exact hk _ _ _ _ _ _ _ _ _ _
    · skip
      exfalso; omega
  | succ k ih =>
    intro a hak
    have o1 : (S.put 126 (aJ 3721 (wF T xs ys g0 i a))).1[105]? = _ := put_at h0 (by decide)
    have g1 : (S.put 126 (aJ 3721 (wF T xs ys g0 i a))).1[106]? = _ := put_at hg (by decide)
    have wd1 : (S.put 126 (aJ 3721 (wF T xs ys g0 i a))).1[107]? = _ := put_at hwd (by decide)
    have t1 : (S.put 126 (aJ 3721 (wF T xs ys g0 i a))).1[108]? = _ := put_at ht (by decide)
    have w1 : (S.put 126 (aJ 3721 (wF T xs ys g0 i a))).1[126]? = _ := put_self hw0
    have ih2 := ih (a + 1) (by omega)
    rw [← wF_upd hi (show a ≤ ys.length by omega) h60y, ← put_put (S := S) (k := 126) (c := aJ 3721 (wF T xs ys g0 i a))] at ih2
    by_cases he : i = xs.length
    · subst he
      exact lp_cell_end ht3 o1 g1 hT wd1 hx t1 hy w1 (by omega) ih2
    · exact lp_cell ht3 o1 g1 hT wd1 hx t1 hy w1 (by omega) (by omega) (fun b hb => wF_get h60y (by omega) hb (Or.inl (by omega))) ih2
theorem lp_rows {scr : Scr} {l : Launch} {S : Sto} {t d : Nat} {T : TabV} {xs ys : List Nat} {g gt gw : Nat → Int32} {q1 q2 q3 q4 q5 q6 q7 : Int32} {r : Res} (ht3 : t < 3) (h0 : S.1[105]? = some (mObj q1 q2 q3 q4 q5 q6 q7)) (hg : S.1[106]? = some (aI 417 g)) (hT : MTab g t T) (hwd : S.1[107]? = some (aI 61 gw)) (hx : RowW gw 0 xs) (ht : S.1[108]? = some (aI 61 gt)) (hy : RowW gt 0 ys) {g0 f0 : Nat → Int64} (hw0 : S.1[126]? = some (aJ 3721 f0)) (hk : ∀ u2 u3 u4 u5 u6 u7 u8 u9 u10 u11 u12, Ev scr l (d + 4) M_Md_ways 300 [some (.ref 105), some (.int (nI t)), u2, u3, u4, u5, u6, u7, u8, u9, u10, u11, u12] [] (S.put 126 (aJ 3721 (wF T xs ys g0 0 (ys.length + 1)))) r) : ∀ (i : Nat), i ≤ xs.length → ∀ u3 u4 u5 u6 u7 u8 u9 u10 u11 u12, Ev scr l (d + 4) M_Md_ways 32 [some (.ref 105), some (.int (nI t)), some (.int (nI i)), u3, u4, u5, u6, u7, u8, u9, u10, u11, u12] [] (S.put 126 (aJ 3721 (wF T xs ys g0 i 0))) r := by
  have h60 := hx.2.1
  intro i
  induction i with
  | zero =>
    intro hi u3 u4 u5 u6 u7 u8 u9 u10 u11 u12
    have hrow := lp_row (scr := scr) (l := l) (d := d) (r := r) (g0 := g0) (i := 0) ht3 h0 hg hT hwd hx ht hy hw0 hi (fun u3 u4 u5 u6 u7 u8 u9 u10 u11 u12 => by
      refine ev_iload_n i_Md_ways_32 rfl ?_
      refine ev_if_lt i_Md_ways_33 (fun hc_33 => ?_) (fun hc_33 => ?_)
      · skip
        exact hk _ _ _ _ _ _ _ _ _ _ _
      · skip
        exact absurd (show nI 0 - nI 1 < 0 by decide) hc_33) (ys.length + 1) 0 (by omega)
    refine ev_iload_n i_Md_ways_32 rfl ?_
    refine ev_if_lt i_Md_ways_33 (fun hc_33 => ?_) (fun hc_33 => ?_)
    · skip
      exact absurd hc_33 (nI_pos (by omega))
    · skip
      refine ev_iconstN (v := 0) i_Md_ways_36 (by decide) ?_
      refine ev_ist_n_3 i_Md_ways_37 rfl ?_
      exact hrow _ _ _ _ _ _ _ _ _
  | succ i ih =>
    intro hi u3 u4 u5 u6 u7 u8 u9 u10 u11 u12
    have hrow := lp_row (scr := scr) (l := l) (d := d) (r := r) (g0 := g0) (i := i + 1) ht3 h0 hg hT hwd hx ht hy hw0 hi (fun u3 u4 u5 u6 u7 u8 u9 u10 u11 u12 => by
      rw [wF_next, nI_sub (show 1 ≤ i + 1 by omega), Nat.add_sub_cancel]
      exact ih (by omega) _ _ _ _ _ _ _ _ _ _) (ys.length + 1) 0 (by omega)
    refine ev_iload_n i_Md_ways_32 rfl ?_
    refine ev_if_lt i_Md_ways_33 (fun hc_33 => ?_) (fun hc_33 => ?_)
    · skip
      exact absurd hc_33 (nI_pos (by omega))
    · skip
      refine ev_iconstN (v := 0) i_Md_ways_36 (by decide) ?_
      refine ev_ist_n_3 i_Md_ways_37 rfl ?_
      exact hrow _ _ _ _ _ _ _ _ _
theorem m_ways_1 {scr : Scr} {l : Launch} {S : Sto} {σ : Sg} {th : Nat} {x : Int32} (h : MInv th σ S) (hx : ¬ inR 3 x) : MRun scr l 5 M_Md_ways [.ref 105, .int x] S (some (.long 0)) 1 σ := by
  refine MRun.th h (fun dr mo sc h0 d => ?_)
  have o1 : (S.put 105 (mO 1 σ dr mo sc)).1[105]? = _ := put_self h0
  refine MetA.of rfl (by decide +kernel) (Nat.le_of_ble_eq_true rfl) ?_
  refine ev_aload_n i_Md_ways_0 rfl ?_
  refine ev_iload_n i_Md_ways_1 rfl ?_
  refine ev_callS1 i_Md_ways_2 rfl (Nat.le_of_ble_eq_true rfl) (m_isTable.2 hx) ?_
  refine ev_if_eqN i_Md_ways_5 (by omega) (fun hc_5 => ?_) (fun hc_5 => ?_)
  · skip
    refine ev_iconstN (v := 1) i_Md_ways_12 (by decide) ?_
    refine ev_mput_thrown i_Md_ways_13 h0 ?_
    refine ev_aload_n i_Md_ways_16 rfl ?_
    refine ev_get i_Md_ways_17 o1 rfl ?_
    refine ev_if_leN i_Md_ways_20 (by omega) (fun hc_20 => ?_) (fun hc_20 => ?_)
    · skip
      exfalso; omega
    · skip
      refine ev_lconst (v := 0) i_Md_ways_23 (by decide) ?_
      exact ev_lret i_Md_ways_24 rfl
  · skip
    exfalso; omega
theorem m_ways {scr : Scr} {l : Launch} {S : Sto} {σ : Sg} {th : Nat} {t : Nat} (h : MInv th σ S) (ht : t < 3) : ((Fw (σ.2.1.1 t) σ.2.1.2.1 σ.2.1.2.2.1 σ.2.1.2.1.length σ.2.1.2.2.1.length) < 2 ^ 63 → MRun scr l 5 M_Md_ways [.ref 105, .int (nI t)] S (some (.long (nL (Fw (σ.2.1.1 t) σ.2.1.2.1 σ.2.1.2.2.1 σ.2.1.2.1.length σ.2.1.2.2.1.length)))) 0 σ) ∧ (¬ (Fw (σ.2.1.1 t) σ.2.1.2.1 σ.2.1.2.2.1 σ.2.1.2.1.length σ.2.1.2.2.1.length) < 2 ^ 63 → MRun scr l 5 M_Md_ways [.ref 105, .int (nI t)] S (some (.long 0)) 2 σ) := by
  obtain ⟨dr, mo, sc, h0⟩ := h.get
  obtain ⟨⟨g, tb, t2⟩, ⟨gw, wd, hx⟩, ⟨gt, tt, hy⟩, -⟩ := h.2.2.1
  obtain ⟨fw, hw⟩ : ∃ fw, S.1[126]? = some (aJ 3721 fw) := by
    obtain ⟨f1, f5, f6, f7, f8, f9, f3, f4, l1, l2, l3, e1, e2, e3, e4, h1, h2, h3, h4, h5, h6, h7, h8, h9, h10, h11, hrest⟩ := h.2.2.2.2.2
    exact ⟨l3, h11⟩
  have o1 : (S.put 105 (mO 0 σ dr mo sc)).1[105]? = _ := put_self h0
  have g1 : (S.put 105 (mO 0 σ dr mo sc)).1[106]? = _ := put_at tb (by decide)
  have wd1 : (S.put 105 (mO 0 σ dr mo sc)).1[107]? = _ := put_at wd (by decide)
  have t1 : (S.put 105 (mO 0 σ dr mo sc)).1[108]? = _ := put_at tt (by decide)
  have w1 : (S.put 105 (mO 0 σ dr mo sc)).1[126]? = _ := put_at hw (by decide)
  have w2 : ((S.put 105 (mO 0 σ dr mo sc)).put 126 (aJ 3721 (wF (σ.2.1.1 t) σ.2.1.2.1 σ.2.1.2.2.1 fw 0 (σ.2.1.2.2.1.length + 1)))).1[126]? = _ := put_self w1
  have o2 : ((S.put 105 (mO 0 σ dr mo sc)).put 126 (aJ 3721 (wF (σ.2.1.1 t) σ.2.1.2.1 σ.2.1.2.2.1 fw 0 (σ.2.1.2.2.1.length + 1)))).1[105]? = _ := put_at o1 (by decide)
  have h60y := hy.2.1
  have ew : (wF (σ.2.1.1 t) σ.2.1.2.1 σ.2.1.2.2.1 fw 0 (σ.2.1.2.2.1.length + 1)) 0 = enc (Fw (σ.2.1.1 t) σ.2.1.2.1 σ.2.1.2.2.1 σ.2.1.2.1.length σ.2.1.2.2.1.length) := by
    rw [← fw_bk]
    exact wF_get (j := 0) (b := 0) h60y (by omega) (by omega) (Or.inr ⟨rfl, by omega⟩)
  have hF : Fr [105, 126] S ((S.put 105 (mO 0 σ dr mo sc)).put 126 (aJ 3721 (wF (σ.2.1.1 t) σ.2.1.2.1 σ.2.1.2.2.1 fw 0 (σ.2.1.2.2.1.length + 1)))) := (Fr.put _ _ (by simp)).tr (Fr.put _ _ (by simp))
  have h2 : MInv 0 σ ((S.put 105 (mO 0 σ dr mo sc)).put 126 (aJ 3721 (wF (σ.2.1.1 t) σ.2.1.2.1 σ.2.1.2.2.1 fw 0 (σ.2.1.2.2.1.length + 1)))) := h.scr hF (by simp) ⟨dr, mo, sc, o2⟩ (h.2.2.2.2.2.up hF (Or.inl (by decide)) (Or.inl (by decide)) (Or.inl (by decide)) (Or.inl (by decide)) (Or.inl (by decide)) (Or.inl (by decide)) (Or.inl (by decide)) (Or.inl (by decide)) (Or.inl (by decide)) (Or.inl (by decide)) (Or.inr ⟨_, w2⟩) (Or.inl (by decide)) (Or.inl (by decide)) (Or.inl (by decide)) (Or.inl (by decide)))
  refine ⟨fun hn => ?_, fun hn => ?_⟩
  · rw [enc_lt hn] at ew
    refine ⟨((S.put 105 (mO 0 σ dr mo sc)).put 126 (aJ 3721 (wF (σ.2.1.1 t) σ.2.1.2.1 σ.2.1.2.2.1 fw 0 (σ.2.1.2.2.1.length + 1)))), fun d => ?_, h2, hF.m (by decide)⟩
    refine MetA.of rfl (by decide +kernel) (Nat.le_of_ble_eq_true rfl) ?_
    refine ev_aload_n i_Md_ways_0 rfl ?_
    refine ev_iload_n i_Md_ways_1 rfl ?_
    refine ev_callS1 i_Md_ways_2 rfl (Nat.le_of_ble_eq_true rfl) (m_isTable.1 (inR.of (by decide) ht)) ?_
    refine ev_if_eqN i_Md_ways_5 (by omega) (fun hc_5 => ?_) (fun hc_5 => ?_)
    · skip
      exfalso; omega
    · skip
      refine ev_iconstN (v := 0) i_Md_ways_8 (by decide) ?_
      refine ev_goto i_Md_ways_9 ?_
      refine ev_mput_thrown i_Md_ways_13 h0 ?_
      refine ev_aload_n i_Md_ways_16 rfl ?_
      refine ev_get i_Md_ways_17 o1 rfl ?_
      refine ev_if_leN i_Md_ways_20 (by omega) (fun hc_20 => ?_) (fun hc_20 => ?_)
      · skip
        refine ev_aload_n i_Md_ways_25 rfl ?_
        refine ev_get i_Md_ways_26 o1 rfl ?_
        refine ev_iconstN (v := 0) i_Md_ways_29 (by decide) ?_
        refine ev_ialdN i_Md_ways_30 wd1 (by decide) (by decide) ?_
        rw [hx.1]
        refine ev_ist_n_2 i_Md_ways_31 rfl ?_
        refine ev_eqS (S1 := (S.put 105 (mO 0 σ dr mo sc)).put 126 (aJ 3721 (wF (σ.2.1.1 t) σ.2.1.2.1 σ.2.1.2.2.1 fw σ.2.1.2.1.length 0))) (by rw [wF_start]; exact put_same w1) ?_
        exact lp_rows ht o1 g1 (t2 t ht) wd1 hx t1 hy w1 (fun u2 u3 u4 u5 u6 u7 u8 u9 u10 u11 u12 => by
          refine ev_aload_n i_Md_ways_300 rfl ?_
          refine ev_get i_Md_ways_301 o2 rfl ?_
          refine ev_iconstN (v := 0) i_Md_ways_304 (by decide) ?_
          refine ev_laldN i_Md_ways_305 w2 (by decide) (by decide) ?_
          rw [ew]
          refine ev_lconst (v := 0) i_Md_ways_306 (by decide) ?_
          refine ev_lif_ge i_Md_ways_307 i_Md_ways_308 (fun hc_308 => ?_) (fun hc_308 => ?_)
          · skip
            refine ev_aload_n i_Md_ways_320 rfl ?_
            refine ev_get i_Md_ways_321 o2 rfl ?_
            refine ev_iconstN (v := 0) i_Md_ways_324 (by decide) ?_
            refine ev_laldN i_Md_ways_325 w2 (by decide) (by decide) ?_
            rw [ew]
            exact ev_lret i_Md_ways_326 rfl
          · skip
            exact absurd hc_308 (nL_pos hn)) _ (Nat.le_refl _) _ _ _ _ _ _ _ _ _ _
      · skip
        exfalso; omega
  · rw [enc_ge hn] at ew
    obtain ⟨S3, mf, i3, f3⟩ := m_fails (scr := scr) (l := l) (k := 2) h2
    refine ⟨S3, fun d => ?_, i3, (hF.m (by decide)).tr (f3.m (by decide))⟩
    refine MetA.of rfl (by decide +kernel) (Nat.le_of_ble_eq_true rfl) ?_
    refine ev_aload_n i_Md_ways_0 rfl ?_
    refine ev_iload_n i_Md_ways_1 rfl ?_
    refine ev_callS1 i_Md_ways_2 rfl (Nat.le_of_ble_eq_true rfl) (m_isTable.1 (inR.of (by decide) ht)) ?_
    refine ev_if_eqN i_Md_ways_5 (by omega) (fun hc_5 => ?_) (fun hc_5 => ?_)
    · skip
      exfalso; omega
    · skip
      refine ev_iconstN (v := 0) i_Md_ways_8 (by decide) ?_
      refine ev_goto i_Md_ways_9 ?_
      refine ev_mput_thrown i_Md_ways_13 h0 ?_
      refine ev_aload_n i_Md_ways_16 rfl ?_
      refine ev_get i_Md_ways_17 o1 rfl ?_
      refine ev_if_leN i_Md_ways_20 (by omega) (fun hc_20 => ?_) (fun hc_20 => ?_)
      · skip
        refine ev_aload_n i_Md_ways_25 rfl ?_
        refine ev_get i_Md_ways_26 o1 rfl ?_
        refine ev_iconstN (v := 0) i_Md_ways_29 (by decide) ?_
        refine ev_ialdN i_Md_ways_30 wd1 (by decide) (by decide) ?_
        rw [hx.1]
        refine ev_ist_n_2 i_Md_ways_31 rfl ?_
        refine ev_eqS (S1 := (S.put 105 (mO 0 σ dr mo sc)).put 126 (aJ 3721 (wF (σ.2.1.1 t) σ.2.1.2.1 σ.2.1.2.2.1 fw σ.2.1.2.1.length 0))) (by rw [wF_start]; exact put_same w1) ?_
        exact lp_rows ht o1 g1 (t2 t ht) wd1 hx t1 hy w1 (fun u2 u3 u4 u5 u6 u7 u8 u9 u10 u11 u12 => by
          refine ev_aload_n i_Md_ways_300 rfl ?_
          refine ev_get i_Md_ways_301 o2 rfl ?_
          refine ev_iconstN (v := 0) i_Md_ways_304 (by decide) ?_
          refine ev_laldN i_Md_ways_305 w2 (by decide) (by decide) ?_
          rw [ew]
          refine ev_lconst (v := 0) i_Md_ways_306 (by decide) ?_
          refine ev_lif_ge i_Md_ways_307 i_Md_ways_308 (fun hc_308 => ?_) (fun hc_308 => ?_)
          · skip
            exact absurd (by decide) hc_308
          · skip
            refine ev_aload_n i_Md_ways_311 rfl ?_
            refine ev_iconstN (v := 2) i_Md_ways_312 (by decide) ?_
            refine ev_callV1 i_Md_ways_313 rfl o2 (Nat.le_of_ble_eq_true rfl) (mf _) ?_
            refine ev_i2l i_Md_ways_316 ?_
            refine ev_goto i_Md_ways_317 ?_
            exact ev_lret i_Md_ways_326 rfl) _ (Nat.le_refl _) _ _ _ _ _ _ _ _ _ _
      · skip
        exfalso; omega

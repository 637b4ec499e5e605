/-! the model: carryOut -/
def ArM (S : Sto) (K : List Pen) : Prop := ∃ f, S.1[129]? = some (aD 80 f) ∧ ∀ j, j < K.length → f (4 * j) = (K.getD j pen0).1 ∧ f (4 * j + 1) = (K.getD j pen0).2.1 ∧ f (4 * j + 2) = FP.i2d (nI (K.getD j pen0).2.2.2) ∧ f (4 * j + 3) = (K.getD j pen0).2.2.1
theorem ArM.fr {S S1 : Sto} {K : List Nat} {L : List Pen} (h : ArM S L) (hF : Fr K S S1) (hk : 129 ∉ K) : ArM S1 L := by
  obtain ⟨f, h1, h2⟩ := h
  exact ⟨f, hF.at h1 hk, h2⟩
theorem head_rt : ∀ h, h < 4 → FP.d2i (FP.i2d (nI h)) = nI h := by decide +kernel
/-- the model's figure behind some letters: what lies in the store -/
def CaS (S : Sto) (q1 q2 q3 q4 q5 : Int32) (pts : Nat) (F : Fig) (p : Nat → UInt64 × UInt64) : Prop := S.1[105]? = some (mObj q1 q2 q3 q4 q5 (nI F.2.2.2.2) (nI F.2.2.1.length)) ∧ ArP S 127 pts (fun j => (p j).1) ∧ ArP S 128 pts (fun j => (p j).2) ∧ ArS S 130 F.2.2.1 ∧ ArM S F.2.1
abbrev caK : List Nat := [105, 127, 128, 129, 130]
theorem lp_ahead {scr : Scr} {l : Launch} {S : Sto} {d h op i : Nat} {x y st : UInt64} {c : Int32} {r : Res} {u11 u12 u13 u14 : Option Value} (hh : h < 4) (nx : vf_n64 (aheadX (x, y, st, h))) (ny : vf_n64 (aheadY (x, y, st, h))) (k : Ev scr l d M_Md_carryOut 134 [some (.ref 105), some (.double x), none, some (.double y), none, some (.double st), none, some (.int (nI h)), some (.int (nI op)), some (.int (nI i)), some (.int c), some (.double (aheadX (x, y, st, h))), none, some (.double (aheadY (x, y, st, h))), none] [] S r) : Ev scr l d M_Md_carryOut 77 [some (.ref 105), some (.double x), none, some (.double y), none, some (.double st), none, some (.int (nI h)), some (.int (nI op)), some (.int (nI i)), some (.int c), u11, u12, u13, u14] [] S r := by
  rcases (show h = 0 ∨ h = 1 ∨ h = 2 ∨ h = 3 by omega) with rfl | rfl | rfl | rfl
  · skip
    refine ev_iload i_Md_carryOut_77 rfl ?_
    refine ev_if_neN i_Md_carryOut_79 (by omega) (fun hc_79 => ?_) (fun hc_79 => ?_)
    · skip
      exfalso; omega
    · skip
      refine ev_dload_n i_Md_carryOut_82 rfl ?_
      refine ev_dload i_Md_carryOut_83 rfl ?_
      refine ev_dadd i_Md_carryOut_85 nx ?_
      refine ev_goto i_Md_carryOut_86 ?_
      refine ev_dst_11 i_Md_carryOut_103 rfl ?_
      refine ev_iload i_Md_carryOut_105 rfl ?_
      refine ev_iconstN (v := 1) i_Md_carryOut_107 (by decide) ?_
      refine ev_icmp_neN i_Md_carryOut_108 (by omega) (by omega) (fun hc_108 => ?_) (fun hc_108 => ?_)
      · skip
        refine ev_iload i_Md_carryOut_118 rfl ?_
        refine ev_iconstN (v := 3) i_Md_carryOut_120 (by decide) ?_
        refine ev_icmp_neN i_Md_carryOut_121 (by omega) (by omega) (fun hc_121 => ?_) (fun hc_121 => ?_)
        · skip
          refine ev_dload_n i_Md_carryOut_131 rfl ?_
          refine ev_dst_13 i_Md_carryOut_132 rfl ?_
          exact k
        · skip
          exfalso; omega
      · skip
        exfalso; omega
  · skip
    refine ev_iload i_Md_carryOut_77 rfl ?_
    refine ev_if_neN i_Md_carryOut_79 (by omega) (fun hc_79 => ?_) (fun hc_79 => ?_)
    · skip
      refine ev_iload i_Md_carryOut_89 rfl ?_
      refine ev_iconstN (v := 2) i_Md_carryOut_91 (by decide) ?_
      refine ev_icmp_neN i_Md_carryOut_92 (by omega) (by omega) (fun hc_92 => ?_) (fun hc_92 => ?_)
      · skip
        refine ev_dload_n i_Md_carryOut_102 rfl ?_
        refine ev_dst_11 i_Md_carryOut_103 rfl ?_
        refine ev_iload i_Md_carryOut_105 rfl ?_
        refine ev_iconstN (v := 1) i_Md_carryOut_107 (by decide) ?_
        refine ev_icmp_neN i_Md_carryOut_108 (by omega) (by omega) (fun hc_108 => ?_) (fun hc_108 => ?_)
        · skip
          exfalso; omega
        · skip
          refine ev_dload_n i_Md_carryOut_111 rfl ?_
          refine ev_dload i_Md_carryOut_112 rfl ?_
          refine ev_dadd i_Md_carryOut_114 ny ?_
          refine ev_goto i_Md_carryOut_115 ?_
          refine ev_dst_13 i_Md_carryOut_132 rfl ?_
          exact k
      · skip
        exfalso; omega
    · skip
      exfalso; omega
  · skip
    refine ev_iload i_Md_carryOut_77 rfl ?_
    refine ev_if_neN i_Md_carryOut_79 (by omega) (fun hc_79 => ?_) (fun hc_79 => ?_)
    · skip
      refine ev_iload i_Md_carryOut_89 rfl ?_
      refine ev_iconstN (v := 2) i_Md_carryOut_91 (by decide) ?_
      refine ev_icmp_neN i_Md_carryOut_92 (by omega) (by omega) (fun hc_92 => ?_) (fun hc_92 => ?_)
      · skip
        exfalso; omega
      · skip
        refine ev_dload_n i_Md_carryOut_95 rfl ?_
        refine ev_dload i_Md_carryOut_96 rfl ?_
        refine ev_dsub i_Md_carryOut_98 nx ?_
        refine ev_goto i_Md_carryOut_99 ?_
        refine ev_dst_11 i_Md_carryOut_103 rfl ?_
        refine ev_iload i_Md_carryOut_105 rfl ?_
        refine ev_iconstN (v := 1) i_Md_carryOut_107 (by decide) ?_
        refine ev_icmp_neN i_Md_carryOut_108 (by omega) (by omega) (fun hc_108 => ?_) (fun hc_108 => ?_)
        · skip
          refine ev_iload i_Md_carryOut_118 rfl ?_
          refine ev_iconstN (v := 3) i_Md_carryOut_120 (by decide) ?_
          refine ev_icmp_neN i_Md_carryOut_121 (by omega) (by omega) (fun hc_121 => ?_) (fun hc_121 => ?_)
          · skip
            refine ev_dload_n i_Md_carryOut_131 rfl ?_
            refine ev_dst_13 i_Md_carryOut_132 rfl ?_
            exact k
          · skip
            exfalso; omega
        · skip
          exfalso; omega
    · skip
      exfalso; omega
  · skip
    refine ev_iload i_Md_carryOut_77 rfl ?_
    refine ev_if_neN i_Md_carryOut_79 (by omega) (fun hc_79 => ?_) (fun hc_79 => ?_)
    · skip
      refine ev_iload i_Md_carryOut_89 rfl ?_
      refine ev_iconstN (v := 2) i_Md_carryOut_91 (by decide) ?_
      refine ev_icmp_neN i_Md_carryOut_92 (by omega) (by omega) (fun hc_92 => ?_) (fun hc_92 => ?_)
      · skip
        refine ev_dload_n i_Md_carryOut_102 rfl ?_
        refine ev_dst_11 i_Md_carryOut_103 rfl ?_
        refine ev_iload i_Md_carryOut_105 rfl ?_
        refine ev_iconstN (v := 1) i_Md_carryOut_107 (by decide) ?_
        refine ev_icmp_neN i_Md_carryOut_108 (by omega) (by omega) (fun hc_108 => ?_) (fun hc_108 => ?_)
        · skip
          refine ev_iload i_Md_carryOut_118 rfl ?_
          refine ev_iconstN (v := 3) i_Md_carryOut_120 (by decide) ?_
          refine ev_icmp_neN i_Md_carryOut_121 (by omega) (by omega) (fun hc_121 => ?_) (fun hc_121 => ?_)
          · skip
            exfalso; omega
          · skip
            refine ev_dload_n i_Md_carryOut_124 rfl ?_
            refine ev_dload i_Md_carryOut_125 rfl ?_
            refine ev_dsub i_Md_carryOut_127 ny ?_
            refine ev_goto i_Md_carryOut_128 ?_
            refine ev_dst_13 i_Md_carryOut_132 rfl ?_
            exact k
        · skip
          exfalso; omega
      · skip
        exfalso; omega
    · skip
      exfalso; omega
theorem CaS.keep {scr : Scr} {l : Launch} {S : Sto} {i : Nat} {q1 q2 q3 q4 q5 : Int32} {G : Fig} {p : Nat → UInt64 × UInt64} (h : CaS S q1 q2 q3 q4 q5 (i + 1) G p) (hi : i < 60) (he : p (i + 1) = (G.1.1, G.1.2.1)) : ∃ S1, CaS S1 q1 q2 q3 q4 q5 (i + 1 + 1) G p ∧ Fr caK S S1 ∧ ∀ d u10 u11 u12 u13 u14 r, Ev scr l d M_Md_carryOut 40 [some (.ref 105), some (.double G.1.1), none, some (.double G.1.2.1), none, some (.double G.1.2.2.1), none, some (.int (nI G.1.2.2.2)), some (.int (nI G.2.1.length)), some (.int (nI (i + 1 + 1))), u10, u11, u12, u13, u14] [] S1 r → Ev scr l d M_Md_carryOut 349 [some (.ref 105), some (.double G.1.1), none, some (.double G.1.2.1), none, some (.double G.1.2.2.1), none, some (.int (nI G.1.2.2.2)), some (.int (nI G.2.1.length)), some (.int (nI (i + 1))), u10, u11, u12, u13, u14] [] S r := by
  obtain ⟨o0, ⟨f1, h1, v1⟩, ⟨f2, h2, v2⟩, a3, a4⟩ := id h
  have hF : Fr [127, 128] S ((S.put 127 (aD 61 (vf_upd f1 (i + 1) G.1.1))).put 128 (aD 61 (vf_upd f2 (i + 1) G.1.2.1))) := (Fr.put _ _ (by simp)).tr (Fr.put _ _ (by simp))
  have o1 : (S.put 127 (aD 61 (vf_upd f1 (i + 1) G.1.1))).1[105]? = _ := put_at o0 (by decide)
  have h21 : (S.put 127 (aD 61 (vf_upd f1 (i + 1) G.1.1))).1[128]? = _ := put_at h2 (by decide)
  refine ⟨((S.put 127 (aD 61 (vf_upd f1 (i + 1) G.1.1))).put 128 (aD 61 (vf_upd f2 (i + 1) G.1.2.1))), ⟨hF.at o0 (by decide), ⟨_, put_at (put_self h1) (by decide), fun j hj => ?_⟩, ⟨_, put_self h21, fun j hj => ?_⟩, a3.fr hF (by decide), a4.fr hF (by decide)⟩, hF.mono (by simp), fun d u10 u11 u12 u13 u14 r kx => ?_⟩
  · by_cases z : j = i + 1
    · rw [z, updD_at]; exact (congrArg Prod.fst he).symm
    · rw [updD_ne z]; exact v1 j (by omega)
  · by_cases z : j = i + 1
    · rw [z, updD_at]; exact (congrArg Prod.snd he).symm
    · rw [updD_ne z]; exact v2 j (by omega)
  refine ev_aload_n i_Md_carryOut_349 rfl ?_
  refine ev_get i_Md_carryOut_350 h.1 rfl ?_
  refine ev_iload i_Md_carryOut_353 rfl ?_
  refine ev_dload_n i_Md_carryOut_355 rfl ?_
  refine ev_dastN i_Md_carryOut_356 h1 (by omega) (by decide) ?_
  refine ev_aload_n i_Md_carryOut_357 rfl ?_
  refine ev_get i_Md_carryOut_358 o1 rfl ?_
  refine ev_iload i_Md_carryOut_361 rfl ?_
  refine ev_dload_n i_Md_carryOut_363 rfl ?_
  refine ev_dastN i_Md_carryOut_364 h21 (by omega) (by decide) ?_
  refine ev_iincN_9 (c := 1) i_Md_carryOut_365 (by decide) rfl ?_
  refine ev_goto i_Md_carryOut_368 ?_
  exact kx
theorem draw_eq (F : Fig) : (drawF F).1 = goP F.1 ∧ (drawF F).2.1 = F.2.1 ∧ (drawF F).2.2.1 = (if oldS F = true then F.2.2.1 else F.2.2.1 ++ [newS F]) ∧ (drawF F).2.2.2.2 = F.2.2.2.2 := by
  unfold drawF
  by_cases h : oldS F = true
  · rw [if_pos h, if_pos h]; exact ⟨rfl, rfl, rfl, rfl⟩
  · rw [if_neg h, if_neg h]; exact ⟨rfl, rfl, rfl, rfl⟩
theorem m_letter {scr : Scr} {l : Launch} {S : Sto} {i : Nat} {q1 q2 q3 q4 q5 : Int32} {F : Fig} {p : Nat → UInt64 × UInt64} (hS : CaS S q1 q2 q3 q4 q5 (i + 1) F p) (hV : FigV F i) (hi : i ≤ 59) {c : Nat} (hc : c < 7) : (∀ G, carry c F = some G → ∃ S1, CaS S1 q1 q2 q3 q4 q5 (i + 1) G p ∧ Fr caK S S1 ∧ ∀ d r, (∀ u11 u12 u13 u14, Ev scr l (d + 2) M_Md_carryOut 349 [some (.ref 105), some (.double G.1.1), none, some (.double G.1.2.1), none, some (.double G.1.2.2.1), none, some (.int (nI G.1.2.2.2)), some (.int (nI G.2.1.length)), some (.int (nI (i + 1))), some (.int (nI c)), u11, u12, u13, u14] [] S1 r) → ∀ w11 w12 w13 w14, Ev scr l (d + 2) M_Md_carryOut 65 [some (.ref 105), some (.double F.1.1), none, some (.double F.1.2.1), none, some (.double F.1.2.2.1), none, some (.int (nI F.1.2.2.2)), some (.int (nI F.2.1.length)), some (.int (nI (i + 1))), some (.int (nI c)), w11, w12, w13, w14] [] S r) ∧ (carry c F = none → ∀ d w11 w12 w13 w14, Ev scr l (d + 2) M_Md_carryOut 65 [some (.ref 105), some (.double F.1.1), none, some (.double F.1.2.1), none, some (.double F.1.2.2.1), none, some (.int (nI F.1.2.2.2)), some (.int (nI F.2.1.length)), some (.int (nI (i + 1))), some (.int (nI c)), w11, w12, w13, w14] [] S (.inl (some (.int (nI 0))), S)) := by
  have o0 := hS.1
  have hh : F.1.2.2.2 < 4 := hV.1.2.2.2
  have hK20 := hV.2.1
  have hL0 : F.2.2.1.length ≤ i := hV.2.2.2.1
  have hde : F.2.2.2.2 ≤ 20 := hV.2.2.2.2.2.2
  have hax := ax_ok hV.1 (show i ≤ 60 by omega)
  have nx : vf_n64 (aheadX (F.1.1, F.1.2.1, F.1.2.2.1, F.1.2.2.2)) := hax.1.1.n64
  have ny : vf_n64 (aheadY (F.1.1, F.1.2.1, F.1.2.2.1, F.1.2.2.2)) := hax.2.1.1.n64
  rcases (show c = 0 ∨ c = 1 ∨ c = 2 ∨ c = 3 ∨ c = 4 ∨ c = 5 ∨ c = 6 by omega) with rfl | rfl | rfl | rfl | rfl | rfl | rfl
  · refine ⟨fun G hG => ?_, fun hG => by cases hG⟩
    cases hG
    refine ⟨S, hS, Fr.rf _ _, fun d r kx w11 w12 w13 w14 => ?_⟩
    refine ev_iload i_Md_carryOut_65 rfl ?_
    refine ev_iconstN (v := 1) i_Md_carryOut_67 (by decide) ?_
    refine ev_icmp_eqN i_Md_carryOut_68 (by omega) (by omega) (fun hc_68 => ?_) (fun hc_68 => ?_)
    · skip
      exfalso; omega
    · skip
      refine ev_iload i_Md_carryOut_71 rfl ?_
      refine ev_iconstN (v := 2) i_Md_carryOut_73 (by decide) ?_
      refine ev_icmp_neN i_Md_carryOut_74 (by omega) (by omega) (fun hc_74 => ?_) (fun hc_74 => ?_)
      · skip
        refine ev_iload i_Md_carryOut_159 rfl ?_
        refine ev_iconstN (v := 3) i_Md_carryOut_161 (by decide) ?_
        refine ev_icmp_eqN i_Md_carryOut_162 (by omega) (by omega) (fun hc_162 => ?_) (fun hc_162 => ?_)
        · skip
          exfalso; omega
        · skip
          refine ev_iload i_Md_carryOut_165 rfl ?_
          refine ev_iconstN (v := 4) i_Md_carryOut_167 (by decide) ?_
          refine ev_icmp_neN i_Md_carryOut_168 (by omega) (by omega) (fun hc_168 => ?_) (fun hc_168 => ?_)
          · skip
            refine ev_iload i_Md_carryOut_192 rfl ?_
            refine ev_iconstN (v := 5) i_Md_carryOut_194 (by decide) ?_
            refine ev_icmp_neN i_Md_carryOut_195 (by omega) (by omega) (fun hc_195 => ?_) (fun hc_195 => ?_)
            · skip
              refine ev_iload i_Md_carryOut_283 rfl ?_
              refine ev_bipushN (v := 6) i_Md_carryOut_285 (by decide) ?_
              refine ev_icmp_neN i_Md_carryOut_287 (by omega) (by omega) (fun hc_287 => ?_) (fun hc_287 => ?_)
              · skip
                exact kx _ _ _ _
              · skip
                exfalso; omega
            · skip
              exfalso; omega
          · skip
            exfalso; omega
      · skip
        exfalso; omega
  · refine ⟨fun G hG => ?_, fun hG => by cases hG⟩
    cases hG
    obtain ⟨S1, m1, ⟨o1, a1⟩, f1⟩ := m_addSeg (scr := scr) (l := l) (x := F.1.1) (y := F.1.2.1) (u := aheadX F.1) (v := aheadY F.1) o0 hS.2.2.2.1 (by omega)
    obtain ⟨e1, e2, e3, e4⟩ := draw_eq F
    refine ⟨S1, ⟨?_, hS.2.1.fr f1 (by decide), hS.2.2.1.fr f1 (by decide), ?_, ?_⟩, f1.mono (by simp), fun d r kx w11 w12 w13 w14 => ?_⟩
    · rw [e4, e3]; exact o1
    · rw [e3]; exact a1
    · rw [e2]; exact hS.2.2.2.2.fr f1 (by decide)
    · rw [e1, e2] at kx
      refine ev_iload i_Md_carryOut_65 rfl ?_
      refine ev_iconstN (v := 1) i_Md_carryOut_67 (by decide) ?_
      refine ev_icmp_eqN i_Md_carryOut_68 (by omega) (by omega) (fun hc_68 => ?_) (fun hc_68 => ?_)
      · skip
        refine lp_ahead (S := S) hh nx ny ?_
        refine ev_iload i_Md_carryOut_134 rfl ?_
        refine ev_iconstN (v := 1) i_Md_carryOut_136 (by decide) ?_
        refine ev_icmp_neN i_Md_carryOut_137 (by omega) (by omega) (fun hc_137 => ?_) (fun hc_137 => ?_)
        · skip
          exfalso; omega
        · skip
          refine ev_aload_n i_Md_carryOut_140 rfl ?_
          refine ev_dload_n i_Md_carryOut_141 rfl ?_
          refine ev_dload_n i_Md_carryOut_142 rfl ?_
          refine ev_dload i_Md_carryOut_143 rfl ?_
          refine ev_dload i_Md_carryOut_145 rfl ?_
          refine ev_callV4 i_Md_carryOut_147 rfl o0 (Nat.le_of_ble_eq_true rfl) (m1 _) ?_
          refine ev_dload i_Md_carryOut_150 rfl ?_
          refine ev_dst_n_1 i_Md_carryOut_152 rfl ?_
          refine ev_dload i_Md_carryOut_153 rfl ?_
          refine ev_dst_n_3 i_Md_carryOut_155 rfl ?_
          refine ev_goto i_Md_carryOut_156 ?_
          exact kx _ _ _ _
      · skip
        exfalso; omega
  · refine ⟨fun G hG => ?_, fun hG => by cases hG⟩
    cases hG
    refine ⟨S, hS, Fr.rf _ _, fun d r kx w11 w12 w13 w14 => ?_⟩
    refine ev_iload i_Md_carryOut_65 rfl ?_
    refine ev_iconstN (v := 1) i_Md_carryOut_67 (by decide) ?_
    refine ev_icmp_eqN i_Md_carryOut_68 (by omega) (by omega) (fun hc_68 => ?_) (fun hc_68 => ?_)
    · skip
      exfalso; omega
    · skip
      refine ev_iload i_Md_carryOut_71 rfl ?_
      refine ev_iconstN (v := 2) i_Md_carryOut_73 (by decide) ?_
      refine ev_icmp_neN i_Md_carryOut_74 (by omega) (by omega) (fun hc_74 => ?_) (fun hc_74 => ?_)
      · skip
        exfalso; omega
      · skip
        refine lp_ahead (S := S) hh nx ny ?_
        refine ev_iload i_Md_carryOut_134 rfl ?_
        refine ev_iconstN (v := 1) i_Md_carryOut_136 (by decide) ?_
        refine ev_icmp_neN i_Md_carryOut_137 (by omega) (by omega) (fun hc_137 => ?_) (fun hc_137 => ?_)
        · skip
          refine ev_dload i_Md_carryOut_150 rfl ?_
          refine ev_dst_n_1 i_Md_carryOut_152 rfl ?_
          refine ev_dload i_Md_carryOut_153 rfl ?_
          refine ev_dst_n_3 i_Md_carryOut_155 rfl ?_
          refine ev_goto i_Md_carryOut_156 ?_
          exact kx _ _ _ _
        · skip
          exfalso; omega
  · refine ⟨fun G hG => ?_, fun hG => by cases hG⟩
    cases hG
    refine ⟨S, hS, Fr.rf _ _, fun d r kx w11 w12 w13 w14 => ?_⟩
    refine ev_iload i_Md_carryOut_65 rfl ?_
    refine ev_iconstN (v := 1) i_Md_carryOut_67 (by decide) ?_
    refine ev_icmp_eqN i_Md_carryOut_68 (by omega) (by omega) (fun hc_68 => ?_) (fun hc_68 => ?_)
    · skip
      exfalso; omega
    · skip
      refine ev_iload i_Md_carryOut_71 rfl ?_
      refine ev_iconstN (v := 2) i_Md_carryOut_73 (by decide) ?_
      refine ev_icmp_neN i_Md_carryOut_74 (by omega) (by omega) (fun hc_74 => ?_) (fun hc_74 => ?_)
      · skip
        refine ev_iload i_Md_carryOut_159 rfl ?_
        refine ev_iconstN (v := 3) i_Md_carryOut_161 (by decide) ?_
        refine ev_icmp_eqN i_Md_carryOut_162 (by omega) (by omega) (fun hc_162 => ?_) (fun hc_162 => ?_)
        · skip
          refine ev_iload i_Md_carryOut_171 rfl ?_
          refine ev_iload i_Md_carryOut_173 rfl ?_
          refine ev_iconstN (v := 3) i_Md_carryOut_175 (by decide) ?_
          refine ev_icmp_neN i_Md_carryOut_176 (by omega) (by omega) (fun hc_176 => ?_) (fun hc_176 => ?_)
          · skip
            exfalso; omega
          · skip
            refine ev_iconstN (v := 1) i_Md_carryOut_179 (by decide) ?_
            refine ev_goto i_Md_carryOut_180 ?_
            first | refine ev_iaddN i_Md_carryOut_184 ?_ | refine ev_iadd i_Md_carryOut_184 ?_
            refine ev_iconstN (v := 4) i_Md_carryOut_185 (by decide) ?_
            refine ev_iremN i_Md_carryOut_186 (by decide) (by omega) (by decide) ?_
            refine ev_ist_7 i_Md_carryOut_187 rfl ?_
            refine ev_goto i_Md_carryOut_189 ?_
            exact kx _ _ _ _
        · skip
          exfalso; omega
      · skip
        exfalso; omega
  · refine ⟨fun G hG => ?_, fun hG => by cases hG⟩
    cases hG
    refine ⟨S, hS, Fr.rf _ _, fun d r kx w11 w12 w13 w14 => ?_⟩
    refine ev_iload i_Md_carryOut_65 rfl ?_
    refine ev_iconstN (v := 1) i_Md_carryOut_67 (by decide) ?_
    refine ev_icmp_eqN i_Md_carryOut_68 (by omega) (by omega) (fun hc_68 => ?_) (fun hc_68 => ?_)
    · skip
      exfalso; omega
    · skip
      refine ev_iload i_Md_carryOut_71 rfl ?_
      refine ev_iconstN (v := 2) i_Md_carryOut_73 (by decide) ?_
      refine ev_icmp_neN i_Md_carryOut_74 (by omega) (by omega) (fun hc_74 => ?_) (fun hc_74 => ?_)
      · skip
        refine ev_iload i_Md_carryOut_159 rfl ?_
        refine ev_iconstN (v := 3) i_Md_carryOut_161 (by decide) ?_
        refine ev_icmp_eqN i_Md_carryOut_162 (by omega) (by omega) (fun hc_162 => ?_) (fun hc_162 => ?_)
        · skip
          exfalso; omega
        · skip
          refine ev_iload i_Md_carryOut_165 rfl ?_
          refine ev_iconstN (v := 4) i_Md_carryOut_167 (by decide) ?_
          refine ev_icmp_neN i_Md_carryOut_168 (by omega) (by omega) (fun hc_168 => ?_) (fun hc_168 => ?_)
          · skip
            exfalso; omega
          · skip
            refine ev_iload i_Md_carryOut_171 rfl ?_
            refine ev_iload i_Md_carryOut_173 rfl ?_
            refine ev_iconstN (v := 3) i_Md_carryOut_175 (by decide) ?_
            refine ev_icmp_neN i_Md_carryOut_176 (by omega) (by omega) (fun hc_176 => ?_) (fun hc_176 => ?_)
            · skip
              refine ev_iconstN (v := 3) i_Md_carryOut_183 (by decide) ?_
              first | refine ev_iaddN i_Md_carryOut_184 ?_ | refine ev_iadd i_Md_carryOut_184 ?_
              refine ev_iconstN (v := 4) i_Md_carryOut_185 (by decide) ?_
              refine ev_iremN i_Md_carryOut_186 (by decide) (by omega) (by decide) ?_
              refine ev_ist_7 i_Md_carryOut_187 rfl ?_
              refine ev_goto i_Md_carryOut_189 ?_
              exact kx _ _ _ _
            · skip
              exfalso; omega
      · skip
        exfalso; omega
  · have hce : carry 5 F = if 20 ≤ F.2.1.length then none else some (openF F) := rfl
    have hG5 := fun q => carry_ok (c := 5) (G := openF F) hV (by omega) (hce.trans q)
    rw [hce]
    by_cases hq : 20 ≤ F.2.1.length
    · rw [if_pos hq]
      refine ⟨fun G hG => by (cases hG), fun _ d w11 w12 w13 w14 => ?_⟩
      refine ev_iload i_Md_carryOut_65 rfl ?_
      refine ev_iconstN (v := 1) i_Md_carryOut_67 (by decide) ?_
      refine ev_icmp_eqN i_Md_carryOut_68 (by omega) (by omega) (fun hc_68 => ?_) (fun hc_68 => ?_)
      · skip
        exfalso; omega
      · skip
        refine ev_iload i_Md_carryOut_71 rfl ?_
        refine ev_iconstN (v := 2) i_Md_carryOut_73 (by decide) ?_
        refine ev_icmp_neN i_Md_carryOut_74 (by omega) (by omega) (fun hc_74 => ?_) (fun hc_74 => ?_)
        · skip
          refine ev_iload i_Md_carryOut_159 rfl ?_
          refine ev_iconstN (v := 3) i_Md_carryOut_161 (by decide) ?_
          refine ev_icmp_eqN i_Md_carryOut_162 (by omega) (by omega) (fun hc_162 => ?_) (fun hc_162 => ?_)
          · skip
            exfalso; omega
          · skip
            refine ev_iload i_Md_carryOut_165 rfl ?_
            refine ev_iconstN (v := 4) i_Md_carryOut_167 (by decide) ?_
            refine ev_icmp_neN i_Md_carryOut_168 (by omega) (by omega) (fun hc_168 => ?_) (fun hc_168 => ?_)
            · skip
              refine ev_iload i_Md_carryOut_192 rfl ?_
              refine ev_iconstN (v := 5) i_Md_carryOut_194 (by decide) ?_
              refine ev_icmp_neN i_Md_carryOut_195 (by omega) (by omega) (fun hc_195 => ?_) (fun hc_195 => ?_)
              · skip
                exfalso; omega
              · skip
                refine ev_iload i_Md_carryOut_198 rfl ?_
                refine ev_bipushN (v := 20) i_Md_carryOut_200 (by decide) ?_
                refine ev_icmp_neN i_Md_carryOut_202 (by omega) (by omega) (fun hc_202 => ?_) (fun hc_202 => ?_)
                · skip
                  exfalso; omega
                · skip
                  refine ev_iconstN (v := 0) i_Md_carryOut_205 (by decide) ?_
                  exact ev_iret i_Md_carryOut_206 rfl (by first | rfl | decide)
            · skip
              exfalso; omega
        · skip
          exfalso; omega
    · have nd : vf_n64 (FP.ddiv F.1.2.2.1 d2) := (hG5 (if_neg hq)).1.2.2.1.n64
      rw [if_neg hq]
      refine ⟨fun G hG => ?_, fun hG => by cases hG⟩
      cases hG
      obtain ⟨f, hf, hv⟩ := hS.2.2.2.2
      have p1 : (S.put 129 (aD 80 (vf_upd f (4 * F.2.1.length) F.1.1))).1[105]? = _ := put_at o0 (by decide)
      have g1 : (S.put 129 (aD 80 (vf_upd f (4 * F.2.1.length) F.1.1))).1[129]? = _ := put_self hf
      have p2 : (S.put 129 (aD 80 (vf_upd (vf_upd f (4 * F.2.1.length) F.1.1) (4 * F.2.1.length + 1) F.1.2.1))).1[105]? = _ := put_at o0 (by decide)
      have g2 : (S.put 129 (aD 80 (vf_upd (vf_upd f (4 * F.2.1.length) F.1.1) (4 * F.2.1.length + 1) F.1.2.1))).1[129]? = _ := put_self hf
      have p3 : (S.put 129 (aD 80 (vf_upd (vf_upd (vf_upd f (4 * F.2.1.length) F.1.1) (4 * F.2.1.length + 1) F.1.2.1) (4 * F.2.1.length + 2) (FP.i2d (nI F.1.2.2.2))))).1[105]? = _ := put_at o0 (by decide)
      have g3 : (S.put 129 (aD 80 (vf_upd (vf_upd (vf_upd f (4 * F.2.1.length) F.1.1) (4 * F.2.1.length + 1) F.1.2.1) (4 * F.2.1.length + 2) (FP.i2d (nI F.1.2.2.2))))).1[129]? = _ := put_self hf
      have p4 : (S.put 129 (aD 80 (vf_upd (vf_upd (vf_upd (vf_upd f (4 * F.2.1.length) F.1.1) (4 * F.2.1.length + 1) F.1.2.1) (4 * F.2.1.length + 2) (FP.i2d (nI F.1.2.2.2))) (4 * F.2.1.length + 3) F.1.2.2.1))).1[105]? = _ := put_at o0 (by decide)
      have FF : Fr [105, 129] S ((S.put 129 (aD 80 (vf_upd (vf_upd (vf_upd (vf_upd f (4 * F.2.1.length) F.1.1) (4 * F.2.1.length + 1) F.1.2.1) (4 * F.2.1.length + 2) (FP.i2d (nI F.1.2.2.2))) (4 * F.2.1.length + 3) F.1.2.2.1))).put 105 (mObj q1 q2 q3 q4 q5 (nI (max F.2.2.2.2 (F.2.1.length + 1))) (nI F.2.2.1.length))) := (Fr.put _ _ (by simp)).tr (Fr.put _ _ (by simp))
      have hl : (F.2.1 ++ [F.1]).length = F.2.1.length + 1 := by rw [List.length_append]; rfl
      refine ⟨((S.put 129 (aD 80 (vf_upd (vf_upd (vf_upd (vf_upd f (4 * F.2.1.length) F.1.1) (4 * F.2.1.length + 1) F.1.2.1) (4 * F.2.1.length + 2) (FP.i2d (nI F.1.2.2.2))) (4 * F.2.1.length + 3) F.1.2.2.1))).put 105 (mObj q1 q2 q3 q4 q5 (nI (max F.2.2.2.2 (F.2.1.length + 1))) (nI F.2.2.1.length))), ⟨put_self p4, hS.2.1.fr FF (by decide), hS.2.2.1.fr FF (by decide), hS.2.2.2.1.fr FF (by decide), ⟨_, put_at (put_self hf) (by decide), fun j hj => ?_⟩⟩, FF.mono (by simp), fun d r kx w11 w12 w13 w14 => ?_⟩
      · have hj : j < (F.2.1 ++ [F.1]).length := hj
        rw [hl] at hj
        show (vf_upd (vf_upd (vf_upd (vf_upd f (4 * F.2.1.length) F.1.1) (4 * F.2.1.length + 1) F.1.2.1) (4 * F.2.1.length + 2) (FP.i2d (nI F.1.2.2.2))) (4 * F.2.1.length + 3) F.1.2.2.1) (4 * j) = ((F.2.1 ++ [F.1]).getD j pen0).1 ∧ (vf_upd (vf_upd (vf_upd (vf_upd f (4 * F.2.1.length) F.1.1) (4 * F.2.1.length + 1) F.1.2.1) (4 * F.2.1.length + 2) (FP.i2d (nI F.1.2.2.2))) (4 * F.2.1.length + 3) F.1.2.2.1) (4 * j + 1) = ((F.2.1 ++ [F.1]).getD j pen0).2.1 ∧ (vf_upd (vf_upd (vf_upd (vf_upd f (4 * F.2.1.length) F.1.1) (4 * F.2.1.length + 1) F.1.2.1) (4 * F.2.1.length + 2) (FP.i2d (nI F.1.2.2.2))) (4 * F.2.1.length + 3) F.1.2.2.1) (4 * j + 2) = FP.i2d (nI ((F.2.1 ++ [F.1]).getD j pen0).2.2.2) ∧ (vf_upd (vf_upd (vf_upd (vf_upd f (4 * F.2.1.length) F.1.1) (4 * F.2.1.length + 1) F.1.2.1) (4 * F.2.1.length + 2) (FP.i2d (nI F.1.2.2.2))) (4 * F.2.1.length + 3) F.1.2.2.1) (4 * j + 3) = ((F.2.1 ++ [F.1]).getD j pen0).2.2.1
        rw [getD_ap]
        by_cases z : j < F.2.1.length
        · rw [if_pos z]
          have e : ∀ k, k < 4 * F.2.1.length → (vf_upd (vf_upd (vf_upd (vf_upd f (4 * F.2.1.length) F.1.1) (4 * F.2.1.length + 1) F.1.2.1) (4 * F.2.1.length + 2) (FP.i2d (nI F.1.2.2.2))) (4 * F.2.1.length + 3) F.1.2.2.1) k = f k := fun k hk => by rw [updD_ne (by omega), updD_ne (by omega), updD_ne (by omega), updD_ne (by omega)]
          rw [e _ (by omega), e _ (by omega), e _ (by omega), e _ (by omega)]
          exact hv j z
        · have zj : j = F.2.1.length := by omega
          subst zj
          rw [if_neg (by omega), if_pos rfl]
          refine ⟨?_, ?_, ?_, updD_at _ _ _⟩
          · rw [updD_ne (by omega), updD_ne (by omega), updD_ne (by omega), updD_at]
          · rw [updD_ne (by omega), updD_ne (by omega), updD_at]
          · rw [updD_ne (by omega), updD_at]
      · have kx : ∀ u11 u12 u13 u14, Ev scr l (d + 2) M_Md_carryOut 349 [some (.ref 105), some (.double F.1.1), none, some (.double F.1.2.1), none, some (.double (FP.ddiv F.1.2.2.1 d2)), none, some (.int (nI F.1.2.2.2)), some (.int (nI (F.2.1.length + 1))), some (.int (nI (i + 1))), some (.int (nI 5)), u11, u12, u13, u14] [] ((S.put 129 (aD 80 (vf_upd (vf_upd (vf_upd (vf_upd f (4 * F.2.1.length) F.1.1) (4 * F.2.1.length + 1) F.1.2.1) (4 * F.2.1.length + 2) (FP.i2d (nI F.1.2.2.2))) (4 * F.2.1.length + 3) F.1.2.2.1))).put 105 (mObj q1 q2 q3 q4 q5 (nI (max F.2.2.2.2 (F.2.1.length + 1))) (nI F.2.2.1.length))) r := by
          intro u11 u12 u13 u14
          have := kx u11 u12 u13 u14
          rw [show (openF F).2.1.length = F.2.1.length + 1 from hl] at this
          exact this
        refine ev_iload i_Md_carryOut_65 rfl ?_
        refine ev_iconstN (v := 1) i_Md_carryOut_67 (by decide) ?_
        refine ev_icmp_eqN i_Md_carryOut_68 (by omega) (by omega) (fun hc_68 => ?_) (fun hc_68 => ?_)
        · skip
          exfalso; omega
        · skip
          refine ev_iload i_Md_carryOut_71 rfl ?_
          refine ev_iconstN (v := 2) i_Md_carryOut_73 (by decide) ?_
          refine ev_icmp_neN i_Md_carryOut_74 (by omega) (by omega) (fun hc_74 => ?_) (fun hc_74 => ?_)
          · skip
            refine ev_iload i_Md_carryOut_159 rfl ?_
            refine ev_iconstN (v := 3) i_Md_carryOut_161 (by decide) ?_
            refine ev_icmp_eqN i_Md_carryOut_162 (by omega) (by omega) (fun hc_162 => ?_) (fun hc_162 => ?_)
            · skip
              exfalso; omega
            · skip
              refine ev_iload i_Md_carryOut_165 rfl ?_
              refine ev_iconstN (v := 4) i_Md_carryOut_167 (by decide) ?_
              refine ev_icmp_neN i_Md_carryOut_168 (by omega) (by omega) (fun hc_168 => ?_) (fun hc_168 => ?_)
              · skip
                refine ev_iload i_Md_carryOut_192 rfl ?_
                refine ev_iconstN (v := 5) i_Md_carryOut_194 (by decide) ?_
                refine ev_icmp_neN i_Md_carryOut_195 (by omega) (by omega) (fun hc_195 => ?_) (fun hc_195 => ?_)
                · skip
                  exfalso; omega
                · skip
                  refine ev_iload i_Md_carryOut_198 rfl ?_
                  refine ev_bipushN (v := 20) i_Md_carryOut_200 (by decide) ?_
                  refine ev_icmp_neN i_Md_carryOut_202 (by omega) (by omega) (fun hc_202 => ?_) (fun hc_202 => ?_)
                  · skip
                    refine ev_aload_n i_Md_carryOut_207 rfl ?_
                    refine ev_get i_Md_carryOut_208 o0 rfl ?_
                    refine ev_iconstN (v := 4) i_Md_carryOut_211 (by decide) ?_
                    refine ev_iload i_Md_carryOut_212 rfl ?_
                    first | refine ev_imulN i_Md_carryOut_214 ?_ | refine ev_imul i_Md_carryOut_214 ?_
                    refine ev_dload_n i_Md_carryOut_215 rfl ?_
                    refine ev_dastN i_Md_carryOut_216 hf (by omega) (by decide) ?_
                    refine ev_eqS (S1 := (S.put 129 (aD 80 (vf_upd f (4 * F.2.1.length) F.1.1)))) (by first | rfl | rw [put_put]) ?_
                    refine ev_aload_n i_Md_carryOut_217 rfl ?_
                    refine ev_get i_Md_carryOut_218 p1 rfl ?_
                    refine ev_iconstN (v := 4) i_Md_carryOut_221 (by decide) ?_
                    refine ev_iload i_Md_carryOut_222 rfl ?_
                    first | refine ev_imulN i_Md_carryOut_224 ?_ | refine ev_imul i_Md_carryOut_224 ?_
                    refine ev_iconstN (v := 1) i_Md_carryOut_225 (by decide) ?_
                    first | refine ev_iaddN i_Md_carryOut_226 ?_ | refine ev_iadd i_Md_carryOut_226 ?_
                    refine ev_dload_n i_Md_carryOut_227 rfl ?_
                    refine ev_dastN i_Md_carryOut_228 g1 (by omega) (by decide) ?_
                    refine ev_eqS (S1 := (S.put 129 (aD 80 (vf_upd (vf_upd f (4 * F.2.1.length) F.1.1) (4 * F.2.1.length + 1) F.1.2.1)))) (by first | rfl | rw [put_put]) ?_
                    refine ev_aload_n i_Md_carryOut_229 rfl ?_
                    refine ev_get i_Md_carryOut_230 p2 rfl ?_
                    refine ev_iconstN (v := 4) i_Md_carryOut_233 (by decide) ?_
                    refine ev_iload i_Md_carryOut_234 rfl ?_
                    first | refine ev_imulN i_Md_carryOut_236 ?_ | refine ev_imul i_Md_carryOut_236 ?_
                    refine ev_iconstN (v := 2) i_Md_carryOut_237 (by decide) ?_
                    first | refine ev_iaddN i_Md_carryOut_238 ?_ | refine ev_iadd i_Md_carryOut_238 ?_
                    refine ev_iload i_Md_carryOut_239 rfl ?_
                    refine ev_i2d i_Md_carryOut_241 ?_
                    refine ev_dastN i_Md_carryOut_242 g2 (by omega) (by decide) ?_
                    refine ev_eqS (S1 := (S.put 129 (aD 80 (vf_upd (vf_upd (vf_upd f (4 * F.2.1.length) F.1.1) (4 * F.2.1.length + 1) F.1.2.1) (4 * F.2.1.length + 2) (FP.i2d (nI F.1.2.2.2)))))) (by first | rfl | rw [put_put]) ?_
                    refine ev_aload_n i_Md_carryOut_243 rfl ?_
                    refine ev_get i_Md_carryOut_244 p3 rfl ?_
                    refine ev_iconstN (v := 4) i_Md_carryOut_247 (by decide) ?_
                    refine ev_iload i_Md_carryOut_248 rfl ?_
                    first | refine ev_imulN i_Md_carryOut_250 ?_ | refine ev_imul i_Md_carryOut_250 ?_
                    refine ev_iconstN (v := 3) i_Md_carryOut_251 (by decide) ?_
                    first | refine ev_iaddN i_Md_carryOut_252 ?_ | refine ev_iadd i_Md_carryOut_252 ?_
                    refine ev_dload i_Md_carryOut_253 rfl ?_
                    refine ev_dastN i_Md_carryOut_255 g3 (by omega) (by decide) ?_
                    refine ev_eqS (S1 := (S.put 129 (aD 80 (vf_upd (vf_upd (vf_upd (vf_upd f (4 * F.2.1.length) F.1.1) (4 * F.2.1.length + 1) F.1.2.1) (4 * F.2.1.length + 2) (FP.i2d (nI F.1.2.2.2))) (4 * F.2.1.length + 3) F.1.2.2.1)))) (by first | rfl | rw [put_put]) ?_
                    refine ev_iincN_8 (c := 1) i_Md_carryOut_256 (by decide) rfl ?_
                    refine ev_aload_n i_Md_carryOut_259 rfl ?_
                    refine ev_aload_n i_Md_carryOut_260 rfl ?_
                    refine ev_get i_Md_carryOut_261 p4 rfl ?_
                    refine ev_iload i_Md_carryOut_264 rfl ?_
                    refine ev_callS2 i_Md_carryOut_266 rfl (Nat.le_of_ble_eq_true rfl) (c_Ma_maxI (by omega) (by omega)) ?_
                    refine ev_mput_most i_Md_carryOut_269 p4 ?_
                    refine ev_dload i_Md_carryOut_272 rfl ?_
                    refine ev_LdcD i_Md_carryOut_274 ?_
                    refine ev_ddiv i_Md_carryOut_277 nd ?_
                    refine ev_dst_5 i_Md_carryOut_278 rfl ?_
                    refine ev_goto i_Md_carryOut_280 ?_
                    exact kx _ _ _ _
                  · skip
                    exfalso; omega
              · skip
                exfalso; omega
          · skip
            exfalso; omega
  · have hce : carry 6 F = if F.2.1.length = 0 then none else some (closeF F) := rfl
    rw [hce]
    by_cases hq : F.2.1.length = 0
    · rw [if_pos hq]
      refine ⟨fun G hG => by (cases hG), fun _ d w11 w12 w13 w14 => ?_⟩
      refine ev_iload i_Md_carryOut_65 rfl ?_
      refine ev_iconstN (v := 1) i_Md_carryOut_67 (by decide) ?_
      refine ev_icmp_eqN i_Md_carryOut_68 (by omega) (by omega) (fun hc_68 => ?_) (fun hc_68 => ?_)
      · skip
        exfalso; omega
      · skip
        refine ev_iload i_Md_carryOut_71 rfl ?_
        refine ev_iconstN (v := 2) i_Md_carryOut_73 (by decide) ?_
        refine ev_icmp_neN i_Md_carryOut_74 (by omega) (by omega) (fun hc_74 => ?_) (fun hc_74 => ?_)
        · skip
          refine ev_iload i_Md_carryOut_159 rfl ?_
          refine ev_iconstN (v := 3) i_Md_carryOut_161 (by decide) ?_
          refine ev_icmp_eqN i_Md_carryOut_162 (by omega) (by omega) (fun hc_162 => ?_) (fun hc_162 => ?_)
          · skip
            exfalso; omega
          · skip
            refine ev_iload i_Md_carryOut_165 rfl ?_
            refine ev_iconstN (v := 4) i_Md_carryOut_167 (by decide) ?_
            refine ev_icmp_neN i_Md_carryOut_168 (by omega) (by omega) (fun hc_168 => ?_) (fun hc_168 => ?_)
            · skip
              refine ev_iload i_Md_carryOut_192 rfl ?_
              refine ev_iconstN (v := 5) i_Md_carryOut_194 (by decide) ?_
              refine ev_icmp_neN i_Md_carryOut_195 (by omega) (by omega) (fun hc_195 => ?_) (fun hc_195 => ?_)
              · skip
                refine ev_iload i_Md_carryOut_283 rfl ?_
                refine ev_bipushN (v := 6) i_Md_carryOut_285 (by decide) ?_
                refine ev_icmp_neN i_Md_carryOut_287 (by omega) (by omega) (fun hc_287 => ?_) (fun hc_287 => ?_)
                · skip
                  exfalso; omega
                · skip
                  refine ev_iload i_Md_carryOut_290 rfl ?_
                  refine ev_if_neN i_Md_carryOut_292 (by omega) (fun hc_292 => ?_) (fun hc_292 => ?_)
                  · skip
                    exfalso; omega
                  · skip
                    refine ev_iconstN (v := 0) i_Md_carryOut_295 (by decide) ?_
                    exact ev_iret i_Md_carryOut_296 rfl (by first | rfl | decide)
              · skip
                exfalso; omega
            · skip
              exfalso; omega
        · skip
          exfalso; omega
    · rw [if_neg hq]
      refine ⟨fun G hG => ?_, fun hG => by cases hG⟩
      cases hG
      obtain ⟨f, hf, hv0⟩ := id hS.2.2.2.2
      have hv := hv0 (F.2.1.length - 1) (by omega)
      have hq4 : (F.2.1.getD (F.2.1.length - 1) pen0).2.2.2 < 4 := (hV.2.2.1 (F.2.1.length - 1) (by omega)).2.2.2
      have hl : F.2.1.dropLast.length = F.2.1.length - 1 := List.length_dropLast
      refine ⟨S, ⟨o0, hS.2.1, hS.2.2.1, hS.2.2.2.1, ⟨f, hf, fun j hj => ?_⟩⟩, Fr.rf _ _, fun d r kx w11 w12 w13 w14 => ?_⟩
      · have hj : j < F.2.1.dropLast.length := hj
        show f (4 * j) = (F.2.1.dropLast.getD j pen0).1 ∧ f (4 * j + 1) = (F.2.1.dropLast.getD j pen0).2.1 ∧ f (4 * j + 2) = FP.i2d (nI (F.2.1.dropLast.getD j pen0).2.2.2) ∧ f (4 * j + 3) = (F.2.1.dropLast.getD j pen0).2.2.1
        rw [getD_drop (by omega)]
        exact hv0 j (by omega)
      · have kx : ∀ u11 u12 u13 u14, Ev scr l (d + 2) M_Md_carryOut 349 [some (.ref 105), some (.double (F.2.1.getD (F.2.1.length - 1) pen0).1), none, some (.double (F.2.1.getD (F.2.1.length - 1) pen0).2.1), none, some (.double (F.2.1.getD (F.2.1.length - 1) pen0).2.2.1), none, some (.int (nI (F.2.1.getD (F.2.1.length - 1) pen0).2.2.2)), some (.int (nI (F.2.1.length - 1))), some (.int (nI (i + 1))), some (.int (nI 6)), u11, u12, u13, u14] [] S r := by
          intro u11 u12 u13 u14
          have := kx u11 u12 u13 u14
          rw [show (closeF F).2.1.length = F.2.1.length - 1 from hl] at this
          exact this
        refine ev_iload i_Md_carryOut_65 rfl ?_
        refine ev_iconstN (v := 1) i_Md_carryOut_67 (by decide) ?_
        refine ev_icmp_eqN i_Md_carryOut_68 (by omega) (by omega) (fun hc_68 => ?_) (fun hc_68 => ?_)
        · skip
          exfalso; omega
        · skip
          refine ev_iload i_Md_carryOut_71 rfl ?_
          refine ev_iconstN (v := 2) i_Md_carryOut_73 (by decide) ?_
          refine ev_icmp_neN i_Md_carryOut_74 (by omega) (by omega) (fun hc_74 => ?_) (fun hc_74 => ?_)
          · skip
            refine ev_iload i_Md_carryOut_159 rfl ?_
            refine ev_iconstN (v := 3) i_Md_carryOut_161 (by decide) ?_
            refine ev_icmp_eqN i_Md_carryOut_162 (by omega) (by omega) (fun hc_162 => ?_) (fun hc_162 => ?_)
            · skip
              exfalso; omega
            · skip
              refine ev_iload i_Md_carryOut_165 rfl ?_
              refine ev_iconstN (v := 4) i_Md_carryOut_167 (by decide) ?_
              refine ev_icmp_neN i_Md_carryOut_168 (by omega) (by omega) (fun hc_168 => ?_) (fun hc_168 => ?_)
              · skip
                refine ev_iload i_Md_carryOut_192 rfl ?_
                refine ev_iconstN (v := 5) i_Md_carryOut_194 (by decide) ?_
                refine ev_icmp_neN i_Md_carryOut_195 (by omega) (by omega) (fun hc_195 => ?_) (fun hc_195 => ?_)
                · skip
                  refine ev_iload i_Md_carryOut_283 rfl ?_
                  refine ev_bipushN (v := 6) i_Md_carryOut_285 (by decide) ?_
                  refine ev_icmp_neN i_Md_carryOut_287 (by omega) (by omega) (fun hc_287 => ?_) (fun hc_287 => ?_)
                  · skip
                    exfalso; omega
                  · skip
                    refine ev_iload i_Md_carryOut_290 rfl ?_
                    refine ev_if_neN i_Md_carryOut_292 (by omega) (fun hc_292 => ?_) (fun hc_292 => ?_)
                    · skip
                      refine ev_iinc_8 i_Md_carryOut_297 rfl ?_
                      rw [show nI F.2.1.length + Int32.ofInt (-1) = nI (F.2.1.length - 1) from by rw [show Int32.ofInt (-1) = -(nI 1) from rfl, ← Int32.sub_eq_add_neg, nI_sub (by omega)]]
                      refine ev_aload_n i_Md_carryOut_300 rfl ?_
                      refine ev_get i_Md_carryOut_301 o0 rfl ?_
                      refine ev_iconstN (v := 4) i_Md_carryOut_304 (by decide) ?_
                      refine ev_iload i_Md_carryOut_305 rfl ?_
                      first | refine ev_imulN i_Md_carryOut_307 ?_ | refine ev_imul i_Md_carryOut_307 ?_
                      refine ev_daldN i_Md_carryOut_308 hf (by omega) (by decide) ?_
                      rw [hv.1]
                      refine ev_dst_n_1 i_Md_carryOut_309 rfl ?_
                      refine ev_aload_n i_Md_carryOut_310 rfl ?_
                      refine ev_get i_Md_carryOut_311 o0 rfl ?_
                      refine ev_iconstN (v := 4) i_Md_carryOut_314 (by decide) ?_
                      refine ev_iload i_Md_carryOut_315 rfl ?_
                      first | refine ev_imulN i_Md_carryOut_317 ?_ | refine ev_imul i_Md_carryOut_317 ?_
                      refine ev_iconstN (v := 1) i_Md_carryOut_318 (by decide) ?_
                      first | refine ev_iaddN i_Md_carryOut_319 ?_ | refine ev_iadd i_Md_carryOut_319 ?_
                      refine ev_daldN i_Md_carryOut_320 hf (by omega) (by decide) ?_
                      rw [hv.2.1]
                      refine ev_dst_n_3 i_Md_carryOut_321 rfl ?_
                      refine ev_aload_n i_Md_carryOut_322 rfl ?_
                      refine ev_get i_Md_carryOut_323 o0 rfl ?_
                      refine ev_iconstN (v := 4) i_Md_carryOut_326 (by decide) ?_
                      refine ev_iload i_Md_carryOut_327 rfl ?_
                      first | refine ev_imulN i_Md_carryOut_329 ?_ | refine ev_imul i_Md_carryOut_329 ?_
                      refine ev_iconstN (v := 2) i_Md_carryOut_330 (by decide) ?_
                      first | refine ev_iaddN i_Md_carryOut_331 ?_ | refine ev_iadd i_Md_carryOut_331 ?_
                      refine ev_daldN i_Md_carryOut_332 hf (by omega) (by decide) ?_
                      rw [hv.2.2.1]
                      refine ev_d2i i_Md_carryOut_333 ?_
                      rw [head_rt _ hq4]
                      refine ev_ist_7 i_Md_carryOut_334 rfl ?_
                      refine ev_aload_n i_Md_carryOut_336 rfl ?_
                      refine ev_get i_Md_carryOut_337 o0 rfl ?_
                      refine ev_iconstN (v := 4) i_Md_carryOut_340 (by decide) ?_
                      refine ev_iload i_Md_carryOut_341 rfl ?_
                      first | refine ev_imulN i_Md_carryOut_343 ?_ | refine ev_imul i_Md_carryOut_343 ?_
                      refine ev_iconstN (v := 3) i_Md_carryOut_344 (by decide) ?_
                      first | refine ev_iaddN i_Md_carryOut_345 ?_ | refine ev_iadd i_Md_carryOut_345 ?_
                      refine ev_daldN i_Md_carryOut_346 hf (by omega) (by decide) ?_
                      rw [hv.2.2.2]
                      refine ev_dst_5 i_Md_carryOut_347 rfl ?_
                      exact kx _ _ _ _
                    · skip
                      exfalso; omega
                · skip
                  exfalso; omega
              · skip
                exfalso; omega
          · skip
            exfalso; omega

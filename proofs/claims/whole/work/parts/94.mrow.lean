/-! the model m: keepPoints, remainder -/
def RowM (R : Rows) (S : Sto) : Prop := (∃ gz, S.1[131]? = some (aI 2 gz) ∧ ∀ j, j < 2 → gz j = if (R j).1 = 0 then -1 else nI (R j).1) ∧ (∃ (fl : Nat → Bool) (gb : Nat → Int32), S.1[132]? = some (aZ 2 gb) ∧ ∀ j, j < 2 → gb j = nI (bI (fl j)) ∧ (R j).1 ≤ 122 ∧ ∀ i, i < (R j).1 → ∃ k, DV ((R j).2 i) k ∧ k.natAbs ≤ 2 ^ 27 ∧ (fl j = true → RepF k)) ∧ ∃ fe, S.1[133]? = some (aD 244 fe) ∧ ∀ j, j < 2 → ∀ i, i < (R j).1 → fe (122 * j + i) = (R j).2 i
theorem RowM.fr {R : Rows} {S S1 : Sto} {K : List Nat} (h : RowM R S) (hF : Fr K S S1) (hk : ∀ k, k ∈ K → k < 131) : RowM R S1 := by
  obtain ⟨⟨gz, z1, z2⟩, ⟨fl, gb, b1, b2⟩, fe, e1, e2⟩ := h
  exact ⟨⟨gz, hF.at z1 (fun q => by have := hk _ q; omega), z2⟩, ⟨fl, gb, hF.at b1 (fun q => by have := hk _ q; omega), b2⟩, fe, hF.at e1 (fun q => by have := hk _ q; omega), e2⟩
theorem nar_b (b : Bool) : vp_nar .boolean (nI (bI b)) = nI (bI b) := by cases b <;> decide +kernel
theorem tgt_val {b : Bool} {p : Nat → UInt64 × UInt64} {n : Nat} (hp : ∀ j, j < n → Pt (p j).1 (60 * 1048576) ∧ Pt (p j).2 (60 * 1048576)) {i : Nat} (hi : i < 2 * n) : ∃ k, DV (tgtR b p i) k ∧ k.natAbs ≤ 2 ^ 27 ∧ (b = true → RepF k) := by
  have key : ∀ x, Pt x (60 * 1048576) → ∃ k, DV (typ b x) k ∧ k.natAbs ≤ 2 ^ 27 ∧ (b = true → RepF k) := fun x hx => by
    cases b with
    | true =>
      obtain ⟨-, -, k, h1, h2, h3⟩ := typ_ok hx
      exact ⟨k, h3, h2, fun _ => h1⟩
    | false =>
      have hb := hx.2
      exact ⟨_, hx.1, by omega, fun q => (by cases q)⟩
  unfold tgtR
  by_cases q : i % 2 = 0
  · rw [if_pos q]; exact key _ (hp _ (by omega)).1
  · rw [if_neg q]; exact key _ (hp _ (by omega)).2
theorem lp_keptM {scr : Scr} {l : Launch} {S : Sto} {q2 q3 q4 q5 mo sc : Int32} {b : Bool} {row n : Nat} {gw : Nat → Int32} {p : Nat → UInt64 × UInt64} {fx fy hz f0 : Nat → UInt64} {v : Option Value} {Post : Sto → Prop} (o4 : S.1[105]? = some (mObj (nI 0) q2 q3 q4 q5 mo sc)) (w4 : S.1[107]? = some (aI 61 gw)) (hw : gw 0 = nI n) (hr : row < 2) (hn : n ≤ 60) (x1 : S.1[127]? = some (aD 61 fx)) (y1 : S.1[128]? = some (aD 61 fy)) (xv : ∀ j, j < n + 1 → fx j = (p j).1) (yv : ∀ j, j < n + 1 → fy j = (p j).2) (hp : ∀ j, j < n + 1 → Pt (p j).1 (60 * 1048576) ∧ Pt (p j).2 (60 * 1048576)) (hh : S.1[133]? = some (aD 244 hz)) (hk : ∀ f, ((∀ j, j < 2 * (n + 1) → f (122 * row + j) = tgtR b p j) ∧ ∀ j, (j < 122 * row ∨ 122 * row + 122 ≤ j) → f j = f0 j) → EvX scr l 3 M_Md_keepPoints 126 [some (.ref 105), some (.int (nI row)), some (.int (nI (bI b))), some (.int (nI (n + 1)))] (S.put 133 (aD 244 f)) v Post) : ∀ (k i : Nat), i + k = n + 1 → ∀ f, ((∀ j, j < 2 * i → f (122 * row + j) = tgtR b p j) ∧ ∀ j, (j < 122 * row ∨ 122 * row + 122 ≤ j) → f j = f0 j) → EvX scr l 3 M_Md_keepPoints 40 [some (.ref 105), some (.int (nI row)), some (.int (nI (bI b))), some (.int (nI i))] (S.put 133 (aD 244 f)) v Post := by
  intro k
  induction k with
  | zero =>
    intro i hik f hf
    have z : i = n + 1 := by omega
    subst z
    have q0 : (S.put 133 (aD 244 f)).1[105]? = _ := put_at o4 (by decide)
    have r0 : (S.put 133 (aD 244 f)).1[107]? = _ := put_at w4 (by decide)
    have s0 : (S.put 133 (aD 244 f)).1[127]? = _ := put_at x1 (by decide)
    have t0 : (S.put 133 (aD 244 f)).1[128]? = _ := put_at y1 (by decide)
    have z0 : (S.put 133 (aD 244 f)).1[133]? = _ := put_self hh
    refine EvX.go (hk f hf) (fun d r kx => ?_)
    refine ev_iload_n i_Md_keepPoints_40 rfl ?_
    refine ev_aload_n i_Md_keepPoints_41 rfl ?_
    refine ev_get i_Md_keepPoints_42 q0 rfl ?_
    refine ev_iconstN (v := 0) i_Md_keepPoints_45 (by decide) ?_
    refine ev_ialdN i_Md_keepPoints_46 r0 (by decide) (by decide) ?_
    rw [hw]
    refine ev_icmp_gtN i_Md_keepPoints_47 (by omega) (by omega) (fun hc_47 => ?_) (fun hc_47 => ?_)
    · skip
      exact kx
    · skip
      exfalso; omega
  | succ k ih =>
    intro i hik f hf
    have px := typ_ok (hp i (by omega)).1
    have py := typ_ok (hp i (by omega)).2
    have q0 : (S.put 133 (aD 244 f)).1[105]? = _ := put_at o4 (by decide)
    have r0 : (S.put 133 (aD 244 f)).1[107]? = _ := put_at w4 (by decide)
    have s0 : (S.put 133 (aD 244 f)).1[127]? = _ := put_at x1 (by decide)
    have t0 : (S.put 133 (aD 244 f)).1[128]? = _ := put_at y1 (by decide)
    have z0 : (S.put 133 (aD 244 f)).1[133]? = _ := put_self hh
    have q1 : (S.put 133 (aD 244 (vf_upd f (122 * row + 2 * i) (typ b (p i).1)))).1[105]? = _ := put_at o4 (by decide)
    have r1 : (S.put 133 (aD 244 (vf_upd f (122 * row + 2 * i) (typ b (p i).1)))).1[107]? = _ := put_at w4 (by decide)
    have s1 : (S.put 133 (aD 244 (vf_upd f (122 * row + 2 * i) (typ b (p i).1)))).1[127]? = _ := put_at x1 (by decide)
    have t1 : (S.put 133 (aD 244 (vf_upd f (122 * row + 2 * i) (typ b (p i).1)))).1[128]? = _ := put_at y1 (by decide)
    have z1 : (S.put 133 (aD 244 (vf_upd f (122 * row + 2 * i) (typ b (p i).1)))).1[133]? = _ := put_self hh
    refine EvX.go (ih (i + 1) (by omega) (vf_upd (vf_upd f (122 * row + 2 * i) (typ b (p i).1)) (122 * row + 2 * i + 1) (typ b (p i).2)) ⟨fun j hj => ?_, fun j hj => ?_⟩) (fun d r kx => ?_)
    · by_cases w1 : j = 2 * i + 1
      · rw [w1, show 122 * row + (2 * i + 1) = 122 * row + 2 * i + 1 by omega, updD_at]
        unfold tgtR
        rw [if_neg (by omega), show (2 * i + 1) / 2 = i by omega]
      · rw [updD_ne (by omega)]
        by_cases w2 : j = 2 * i
        · rw [w2, updD_at]
          unfold tgtR
          rw [if_pos (by omega), show 2 * i / 2 = i by omega]
        · rw [updD_ne (by omega)]
          exact hf.1 j (by omega)
    · rw [updD_ne (by omega), updD_ne (by omega)]
      exact hf.2 j hj
    · cases b with
      | true =>
        rw [show bI true = 1 from rfl] at kx ⊢
        refine ev_iload_n i_Md_keepPoints_40 rfl ?_
        refine ev_aload_n i_Md_keepPoints_41 rfl ?_
        refine ev_get i_Md_keepPoints_42 q0 rfl ?_
        refine ev_iconstN (v := 0) i_Md_keepPoints_45 (by decide) ?_
        refine ev_ialdN i_Md_keepPoints_46 r0 (by decide) (by decide) ?_
        rw [hw]
        refine ev_icmp_gtN i_Md_keepPoints_47 (by omega) (by omega) (fun hc_47 => ?_) (fun hc_47 => ?_)
        · skip
          exfalso; omega
        · skip
          refine ev_aload_n i_Md_keepPoints_50 rfl ?_
          refine ev_get i_Md_keepPoints_51 q0 rfl ?_
          refine ev_bipushN (v := 122) i_Md_keepPoints_54 (by decide) ?_
          refine ev_iload_n i_Md_keepPoints_56 rfl ?_
          first | refine ev_imulN i_Md_keepPoints_57 ?_ | refine ev_imul i_Md_keepPoints_57 ?_
          refine ev_iconstN (v := 2) i_Md_keepPoints_58 (by decide) ?_
          refine ev_iload_n i_Md_keepPoints_59 rfl ?_
          first | refine ev_imulN i_Md_keepPoints_60 ?_ | refine ev_imul i_Md_keepPoints_60 ?_
          first | refine ev_iaddN i_Md_keepPoints_61 ?_ | refine ev_iadd i_Md_keepPoints_61 ?_
          refine ev_iload_n i_Md_keepPoints_62 rfl ?_
          refine ev_if_eqN i_Md_keepPoints_63 (by omega) (fun hc_63 => ?_) (fun hc_63 => ?_)
          · skip
            exfalso; omega
          · skip
            refine ev_aload_n i_Md_keepPoints_66 rfl ?_
            refine ev_get i_Md_keepPoints_67 q0 rfl ?_
            refine ev_iload_n i_Md_keepPoints_70 rfl ?_
            refine ev_daldN i_Md_keepPoints_71 s0 (by omega) (by decide) ?_
            rw [xv i (by omega)]
            refine ev_d2f i_Md_keepPoints_72 px.1 ?_
            refine ev_f2d i_Md_keepPoints_73 px.2.1 ?_
            refine ev_goto i_Md_keepPoints_74 ?_
            refine ev_dastN i_Md_keepPoints_83 z0 (by omega) (by decide) ?_
            rw [put_put]
            refine ev_aload_n i_Md_keepPoints_84 rfl ?_
            refine ev_get i_Md_keepPoints_85 q1 rfl ?_
            refine ev_bipushN (v := 122) i_Md_keepPoints_88 (by decide) ?_
            refine ev_iload_n i_Md_keepPoints_90 rfl ?_
            first | refine ev_imulN i_Md_keepPoints_91 ?_ | refine ev_imul i_Md_keepPoints_91 ?_
            refine ev_iconstN (v := 2) i_Md_keepPoints_92 (by decide) ?_
            refine ev_iload_n i_Md_keepPoints_93 rfl ?_
            first | refine ev_imulN i_Md_keepPoints_94 ?_ | refine ev_imul i_Md_keepPoints_94 ?_
            first | refine ev_iaddN i_Md_keepPoints_95 ?_ | refine ev_iadd i_Md_keepPoints_95 ?_
            refine ev_iconstN (v := 1) i_Md_keepPoints_96 (by decide) ?_
            first | refine ev_iaddN i_Md_keepPoints_97 ?_ | refine ev_iadd i_Md_keepPoints_97 ?_
            refine ev_iload_n i_Md_keepPoints_98 rfl ?_
            refine ev_if_eqN i_Md_keepPoints_99 (by omega) (fun hc_99 => ?_) (fun hc_99 => ?_)
            · skip
              exfalso; omega
            · skip
              refine ev_aload_n i_Md_keepPoints_102 rfl ?_
              refine ev_get i_Md_keepPoints_103 q1 rfl ?_
              refine ev_iload_n i_Md_keepPoints_106 rfl ?_
              refine ev_daldN i_Md_keepPoints_107 t1 (by omega) (by decide) ?_
              rw [yv i (by omega)]
              refine ev_d2f i_Md_keepPoints_108 py.1 ?_
              refine ev_f2d i_Md_keepPoints_109 py.2.1 ?_
              refine ev_goto i_Md_keepPoints_110 ?_
              refine ev_dastN i_Md_keepPoints_119 z1 (by omega) (by decide) ?_
              rw [put_put]
              refine ev_iincN_3 (c := 1) i_Md_keepPoints_120 (by decide) rfl ?_
              refine ev_goto i_Md_keepPoints_123 ?_
              exact kx
      | false =>
        rw [show bI false = 0 from rfl] at kx ⊢
        refine ev_iload_n i_Md_keepPoints_40 rfl ?_
        refine ev_aload_n i_Md_keepPoints_41 rfl ?_
        refine ev_get i_Md_keepPoints_42 q0 rfl ?_
        refine ev_iconstN (v := 0) i_Md_keepPoints_45 (by decide) ?_
        refine ev_ialdN i_Md_keepPoints_46 r0 (by decide) (by decide) ?_
        rw [hw]
        refine ev_icmp_gtN i_Md_keepPoints_47 (by omega) (by omega) (fun hc_47 => ?_) (fun hc_47 => ?_)
        · skip
          exfalso; omega
        · skip
          refine ev_aload_n i_Md_keepPoints_50 rfl ?_
          refine ev_get i_Md_keepPoints_51 q0 rfl ?_
          refine ev_bipushN (v := 122) i_Md_keepPoints_54 (by decide) ?_
          refine ev_iload_n i_Md_keepPoints_56 rfl ?_
          first | refine ev_imulN i_Md_keepPoints_57 ?_ | refine ev_imul i_Md_keepPoints_57 ?_
          refine ev_iconstN (v := 2) i_Md_keepPoints_58 (by decide) ?_
          refine ev_iload_n i_Md_keepPoints_59 rfl ?_
          first | refine ev_imulN i_Md_keepPoints_60 ?_ | refine ev_imul i_Md_keepPoints_60 ?_
          first | refine ev_iaddN i_Md_keepPoints_61 ?_ | refine ev_iadd i_Md_keepPoints_61 ?_
          refine ev_iload_n i_Md_keepPoints_62 rfl ?_
          refine ev_if_eqN i_Md_keepPoints_63 (by omega) (fun hc_63 => ?_) (fun hc_63 => ?_)
          · skip
            refine ev_aload_n i_Md_keepPoints_77 rfl ?_
            refine ev_get i_Md_keepPoints_78 q0 rfl ?_
            refine ev_iload_n i_Md_keepPoints_81 rfl ?_
            refine ev_daldN i_Md_keepPoints_82 s0 (by omega) (by decide) ?_
            rw [xv i (by omega)]
            refine ev_dastN i_Md_keepPoints_83 z0 (by omega) (by decide) ?_
            rw [put_put]
            refine ev_aload_n i_Md_keepPoints_84 rfl ?_
            refine ev_get i_Md_keepPoints_85 q1 rfl ?_
            refine ev_bipushN (v := 122) i_Md_keepPoints_88 (by decide) ?_
            refine ev_iload_n i_Md_keepPoints_90 rfl ?_
            first | refine ev_imulN i_Md_keepPoints_91 ?_ | refine ev_imul i_Md_keepPoints_91 ?_
            refine ev_iconstN (v := 2) i_Md_keepPoints_92 (by decide) ?_
            refine ev_iload_n i_Md_keepPoints_93 rfl ?_
            first | refine ev_imulN i_Md_keepPoints_94 ?_ | refine ev_imul i_Md_keepPoints_94 ?_
            first | refine ev_iaddN i_Md_keepPoints_95 ?_ | refine ev_iadd i_Md_keepPoints_95 ?_
            refine ev_iconstN (v := 1) i_Md_keepPoints_96 (by decide) ?_
            first | refine ev_iaddN i_Md_keepPoints_97 ?_ | refine ev_iadd i_Md_keepPoints_97 ?_
            refine ev_iload_n i_Md_keepPoints_98 rfl ?_
            refine ev_if_eqN i_Md_keepPoints_99 (by omega) (fun hc_99 => ?_) (fun hc_99 => ?_)
            · skip
              refine ev_aload_n i_Md_keepPoints_113 rfl ?_
              refine ev_get i_Md_keepPoints_114 q1 rfl ?_
              refine ev_iload_n i_Md_keepPoints_117 rfl ?_
              refine ev_daldN i_Md_keepPoints_118 t1 (by omega) (by decide) ?_
              rw [yv i (by omega)]
              refine ev_dastN i_Md_keepPoints_119 z1 (by omega) (by decide) ?_
              rw [put_put]
              refine ev_iincN_3 (c := 1) i_Md_keepPoints_120 (by decide) rfl ?_
              refine ev_goto i_Md_keepPoints_123 ?_
              exact kx
            · skip
              exfalso; omega
          · skip
            exfalso; omega
abbrev mK2 : List Nat := List.range' 105 29
theorem Fr.m2 {K : List Nat} {S1 S2 : Sto} (h : Fr K S1 S2) (hk : ∀ k, k ∈ K → 105 ≤ k ∧ k < 134) : Fr mK2 S1 S2 := h.mono (fun k q => by rw [List.mem_range'_1]; have := hk k q; omega)
theorem MInv.row {th : Nat} {σ : Sg} {S S1 : Sto} {K : List Nat} (h : MInv th σ S) (hF : Fr K S S1) (hk : ∀ k, k ∈ K → 131 ≤ k) : MInv th σ S1 := by
  have hk' : ∀ j, j < 131 → j ∉ K := fun j q z => by have := hk j z; omega
  obtain ⟨dr, mo, sc, h0⟩ := h.get
  exact ⟨⟨dr, mo, sc, hF.at h0 (hk' _ (by decide))⟩, h.2.1.fr hF (hk' _ (by decide)), h.2.2.1.fr hF ⟨hk' _ (by decide), hk' _ (by decide), hk' _ (by decide), hk' _ (by decide)⟩, h.2.2.2.1.fr hF ⟨hk' _ (by decide), hk' _ (by decide), hk' _ (by decide), hk' _ (by decide)⟩, h.2.2.2.2.1.fr hF (hk' _ (by decide)), h.2.2.2.2.2.fr hF (fun k a b => hk' _ (by omega))⟩
theorem m_keepPts {scr : Scr} {l : Launch} {S : Sto} {σ : Sg} {th : Nat} {R : Rows} {row : Nat} {b : Bool} {G : Fig} (h : MInv th σ S) (hR : RowM R S) (hr : row < 2) (hG : fgS σ = some G) : ∃ S6, (∀ d, MetA scr l (d + 3) M_Md_keepPoints [.ref 105, .int (nI row), .int (nI (bI b))] S (.inl (some (.int (nI (2 * (σ.2.1.2.1.length + 1))))), S6)) ∧ MInv 0 σ S6 ∧ RowM (setRow R row (2 * (σ.2.1.2.1.length + 1)) (tgtR b (ptS σ))) S6 ∧ Fr mK2 S S6 := by
  obtain ⟨dr0, mo0, sc0, h0⟩ := h.get
  obtain ⟨dr, S3, m3, p3, ok3, f3⟩ := m_carryOut (scr := scr) (l := l) h
  rw [hG, show bI (some G).isSome = 1 from rfl] at m3
  obtain ⟨-, ⟨gw, wd, hx⟩, -⟩ := h.2.2.1
  have hn60 := hx.2.1
  have s3 := p3 G hG
  have o3 := s3.1
  obtain ⟨i4, F4⟩ := h.drawn (k := 0) f3 ok3 o3
  have o4 := put_self (c := mObj (nI 0) (nI σ.1.length) (nI σ.2.2.2.2.1.length) (nI (bI σ.2.2.2.1)) dr (nI G.2.2.2.2) (nI G.2.2.1.length)) o3
  have w4 := F4.at wd (show 107 ∉ caK by decide)
  obtain ⟨fx, x3, xv⟩ := s3.2.1
  obtain ⟨fy, y3, yv⟩ := s3.2.2.1
  have x4 : (S3.put 105 (mObj (nI 0) (nI σ.1.length) (nI σ.2.2.2.2.1.length) (nI (bI σ.2.2.2.1)) dr (nI G.2.2.2.2) (nI G.2.2.1.length))).1[127]? = _ := put_at x3 (by decide)
  have y4 : (S3.put 105 (mObj (nI 0) (nI σ.1.length) (nI σ.2.2.2.2.1.length) (nI (bI σ.2.2.2.1)) dr (nI G.2.2.2.2) (nI G.2.2.1.length))).1[128]? = _ := put_at y3 (by decide)
  obtain ⟨⟨gz, z1, z2⟩, ⟨fl, gb, b1, b2⟩, fe, e1, e2⟩ := hR.fr F4 (by decide)
  have hpt := fun j (hj : j < (σ.2.1.2.1.length + 1)) => pt_val hG hn60 hj
  have hx5 : EvX scr l 3 M_Md_keepPoints 40 [some (.ref 105), some (.int (nI row)), some (.int (nI (bI b))), some (.int (nI 0))] ((S3.put 105 (mObj (nI 0) (nI σ.1.length) (nI σ.2.2.2.2.1.length) (nI (bI σ.2.2.2.1)) dr (nI G.2.2.2.2) (nI G.2.2.1.length))).put 133 (aD 244 fe)) (some (.int (nI (2 * (σ.2.1.2.1.length + 1))))) (fun S6 => MInv 0 σ S6 ∧ RowM (setRow R row (2 * (σ.2.1.2.1.length + 1)) (tgtR b (ptS σ))) S6 ∧ Fr mK2 S S6) := by
    refine lp_keptM (b := b) (p := ptS σ) (f0 := fe) o4 w4 hx.1 hr hn60 x4 y4 xv yv hpt e1 (fun f hf => ?_) (σ.2.1.2.1.length + 1) 0 (by omega) fe ⟨fun j hj => by omega, fun j _ => rfl⟩
    have q0 : ((S3.put 105 (mObj (nI 0) (nI σ.1.length) (nI σ.2.2.2.2.1.length) (nI (bI σ.2.2.2.1)) dr (nI G.2.2.2.2) (nI G.2.2.1.length))).put 133 (aD 244 f)).1[105]? = _ := put_at o4 (by decide)
    have b0 : ((S3.put 105 (mObj (nI 0) (nI σ.1.length) (nI σ.2.2.2.2.1.length) (nI (bI σ.2.2.2.1)) dr (nI G.2.2.2.2) (nI G.2.2.1.length))).put 133 (aD 244 f)).1[132]? = _ := put_at b1 (by decide)
    have q5 : (((S3.put 105 (mObj (nI 0) (nI σ.1.length) (nI σ.2.2.2.2.1.length) (nI (bI σ.2.2.2.1)) dr (nI G.2.2.2.2) (nI G.2.2.1.length))).put 133 (aD 244 f)).put 132 (aZ 2 (upd gb row (nI (bI b))))).1[105]? = _ := put_at q0 (by decide)
    have w5 : (((S3.put 105 (mObj (nI 0) (nI σ.1.length) (nI σ.2.2.2.2.1.length) (nI (bI σ.2.2.2.1)) dr (nI G.2.2.2.2) (nI G.2.2.1.length))).put 133 (aD 244 f)).put 132 (aZ 2 (upd gb row (nI (bI b))))).1[107]? = _ := put_at (put_at w4 (by decide)) (by decide)
    have g5 : (((S3.put 105 (mObj (nI 0) (nI σ.1.length) (nI σ.2.2.2.2.1.length) (nI (bI σ.2.2.2.1)) dr (nI G.2.2.2.2) (nI G.2.2.1.length))).put 133 (aD 244 f)).put 132 (aZ 2 (upd gb row (nI (bI b))))).1[131]? = _ := put_at (put_at z1 (by decide)) (by decide)
    have q6 : ((((S3.put 105 (mObj (nI 0) (nI σ.1.length) (nI σ.2.2.2.2.1.length) (nI (bI σ.2.2.2.1)) dr (nI G.2.2.2.2) (nI G.2.2.1.length))).put 133 (aD 244 f)).put 132 (aZ 2 (upd gb row (nI (bI b))))).put 131 (aI 2 (upd gz row (nI (2 * (σ.2.1.2.1.length + 1)))))).1[105]? = _ := put_at q5 (by decide)
    have g6 : ((((S3.put 105 (mObj (nI 0) (nI σ.1.length) (nI σ.2.2.2.2.1.length) (nI (bI σ.2.2.2.1)) dr (nI G.2.2.2.2) (nI G.2.2.1.length))).put 133 (aD 244 f)).put 132 (aZ 2 (upd gb row (nI (bI b))))).put 131 (aI 2 (upd gz row (nI (2 * (σ.2.1.2.1.length + 1)))))).1[131]? = _ := put_self g5
    have F6 : Fr [131, 132, 133] (S3.put 105 (mObj (nI 0) (nI σ.1.length) (nI σ.2.2.2.2.1.length) (nI (bI σ.2.2.2.1)) dr (nI G.2.2.2.2) (nI G.2.2.1.length))) ((((S3.put 105 (mObj (nI 0) (nI σ.1.length) (nI σ.2.2.2.2.1.length) (nI (bI σ.2.2.2.1)) dr (nI G.2.2.2.2) (nI G.2.2.1.length))).put 133 (aD 244 f)).put 132 (aZ 2 (upd gb row (nI (bI b))))).put 131 (aI 2 (upd gz row (nI (2 * (σ.2.1.2.1.length + 1)))))) := ((Fr.put _ _ (by simp)).tr (Fr.put _ _ (by simp))).tr (Fr.put _ _ (by simp))
    refine ⟨((((S3.put 105 (mObj (nI 0) (nI σ.1.length) (nI σ.2.2.2.2.1.length) (nI (bI σ.2.2.2.1)) dr (nI G.2.2.2.2) (nI G.2.2.1.length))).put 133 (aD 244 f)).put 132 (aZ 2 (upd gb row (nI (bI b))))).put 131 (aI 2 (upd gz row (nI (2 * (σ.2.1.2.1.length + 1)))))), fun d => ?_, i4.row F6 (by simp), ⟨⟨_, g6, fun j hj => ?_⟩, ⟨fun j => if j = row then b else fl j, _, put_at (put_self b0) (by decide), fun j hj => ?_⟩, f, put_at (put_at (put_self e1) (by decide)) (by decide), fun j hj => ?_⟩, (F4.m2 (by decide)).tr (F6.m2 (by decide))⟩
    · skip
      refine ev_aload_n i_Md_keepPoints_126 rfl ?_
      refine ev_get i_Md_keepPoints_127 q0 rfl ?_
      refine ev_iload_n i_Md_keepPoints_130 rfl ?_
      refine ev_iload_n i_Md_keepPoints_131 rfl ?_
      refine ev_zastN i_Md_keepPoints_132 b0 hr (by decide) ?_
      rw [nar_b]
      refine ev_aload_n i_Md_keepPoints_133 rfl ?_
      refine ev_get i_Md_keepPoints_134 q5 rfl ?_
      refine ev_iload_n i_Md_keepPoints_137 rfl ?_
      refine ev_iconstN (v := 2) i_Md_keepPoints_138 (by decide) ?_
      refine ev_aload_n i_Md_keepPoints_139 rfl ?_
      refine ev_get i_Md_keepPoints_140 q5 rfl ?_
      refine ev_iconstN (v := 0) i_Md_keepPoints_143 (by decide) ?_
      refine ev_ialdN i_Md_keepPoints_144 w5 (by decide) (by decide) ?_
      rw [hx.1]
      refine ev_iconstN (v := 1) i_Md_keepPoints_145 (by decide) ?_
      first | refine ev_iaddN i_Md_keepPoints_146 ?_ | refine ev_iadd i_Md_keepPoints_146 ?_
      first | refine ev_imulN i_Md_keepPoints_147 ?_ | refine ev_imul i_Md_keepPoints_147 ?_
      refine ev_iastN i_Md_keepPoints_148 g5 hr (by decide) ?_
      refine ev_aload_n i_Md_keepPoints_149 rfl ?_
      refine ev_get i_Md_keepPoints_150 q6 rfl ?_
      refine ev_iload_n i_Md_keepPoints_153 rfl ?_
      refine ev_ialdN i_Md_keepPoints_154 g6 hr (by decide) ?_
      rw [updN_at]
      exact ev_iret i_Md_keepPoints_155 rfl (by first | rfl | decide)
    · show _ = if (if j = row then (2 * (σ.2.1.2.1.length + 1), tgtR b (ptS σ)) else R j).1 = 0 then -1 else nI (if j = row then (2 * (σ.2.1.2.1.length + 1), tgtR b (ptS σ)) else R j).1
      by_cases z : j = row
      · subst z
        rw [if_pos rfl, updN_at]
        show _ = if 2 * (σ.2.1.2.1.length + 1) = 0 then (-1 : Int32) else nI (2 * (σ.2.1.2.1.length + 1))
        rw [if_neg (by omega)]
      · rw [if_neg z, updN_ne z]
        exact z2 j hj
    · show _ = nI (bI (if j = row then b else fl j)) ∧ (if j = row then (2 * (σ.2.1.2.1.length + 1), tgtR b (ptS σ)) else R j).1 ≤ 122 ∧ ∀ i, i < (if j = row then (2 * (σ.2.1.2.1.length + 1), tgtR b (ptS σ)) else R j).1 → ∃ k, DV ((if j = row then (2 * (σ.2.1.2.1.length + 1), tgtR b (ptS σ)) else R j).2 i) k ∧ k.natAbs ≤ 2 ^ 27 ∧ ((if j = row then b else fl j) = true → RepF k)
      by_cases z : j = row
      · subst z
        rw [if_pos rfl, if_pos rfl, updN_at]
        exact ⟨rfl, by show 2 * (σ.2.1.2.1.length + 1) ≤ 122; omega, fun i hi => tgt_val hpt hi⟩
      · rw [if_neg z, if_neg z, updN_ne z]
        exact b2 j hj
    · show ∀ i, i < (if j = row then (2 * (σ.2.1.2.1.length + 1), tgtR b (ptS σ)) else R j).1 → _ = (if j = row then (2 * (σ.2.1.2.1.length + 1), tgtR b (ptS σ)) else R j).2 i
      by_cases z : j = row
      · subst z
        rw [if_pos rfl]
        exact hf.1
      · rw [if_neg z]
        intro i hi
        have := (b2 j hj).2.1
        rw [hf.2 _ (by omega)]
        exact e2 j hj i hi
  rw [put_same e1] at hx5
  obtain ⟨S7, mx, p7⟩ := hx5
  refine ⟨S7, fun d => ?_, p7⟩
  refine MetA.of rfl (by decide +kernel) (Nat.le_of_ble_eq_true rfl) ?_
  refine ev_aload_n i_Md_keepPoints_0 rfl ?_
  refine ev_iload_n i_Md_keepPoints_1 rfl ?_
  refine ev_iconstN (v := 0) i_Md_keepPoints_2 (by decide) ?_
  refine ev_iconstN (v := 1) i_Md_keepPoints_3 (by decide) ?_
  refine ev_callS3 i_Md_keepPoints_4 rfl (Nat.le_of_ble_eq_true rfl) (m_in.1 ((inR_inB (n := 2) (by decide) (by decide)).mp (inR.of (by decide) hr))) ?_
  refine ev_if_neN i_Md_keepPoints_7 (by omega) (fun hc_7 => ?_) (fun hc_7 => ?_)
  · skip
    refine ev_aload_n i_Md_keepPoints_14 rfl ?_
    refine ev_callV0 i_Md_keepPoints_15 rfl h0 (Nat.le_of_ble_eq_true rfl) (m3 _) ?_
    refine ev_if_neN i_Md_keepPoints_18 (by omega) (fun hc_18 => ?_) (fun hc_18 => ?_)
    · skip
      refine ev_iconstN (v := 0) i_Md_keepPoints_25 (by decide) ?_
      refine ev_mput_thrown i_Md_keepPoints_26 o3 ?_
      refine ev_aload_n i_Md_keepPoints_29 rfl ?_
      refine ev_get i_Md_keepPoints_30 o4 rfl ?_
      refine ev_if_leN i_Md_keepPoints_33 (by omega) (fun hc_33 => ?_) (fun hc_33 => ?_)
      · skip
        refine ev_iconstN (v := 0) i_Md_keepPoints_38 (by decide) ?_
        refine ev_ist_n_3 i_Md_keepPoints_39 rfl ?_
        exact mx d
      · skip
        exfalso; omega
    · skip
      exfalso; omega
  · skip
    exfalso; omega
theorem m_keepPts_1 {scr : Scr} {l : Launch} {S : Sto} {σ : Sg} {th : Nat} {q b : Int32} (h : MInv th σ S) (hq : ¬ inR 2 q) : MRun scr l 3 M_Md_keepPoints [.ref 105, .int q, .int b] S (some (.int (nI 0))) 1 σ := by
  refine MRun.th h (fun dr mo sc h0 d => ?_)
  have o1 : (S.put 105 (mO 1 σ dr mo sc)).1[105]? = _ := put_self h0
  refine MetA.of rfl (by decide +kernel) (Nat.le_of_ble_eq_true rfl) ?_
  refine ev_aload_n i_Md_keepPoints_0 rfl ?_
  refine ev_iload_n i_Md_keepPoints_1 rfl ?_
  refine ev_iconstN (v := 0) i_Md_keepPoints_2 (by decide) ?_
  refine ev_iconstN (v := 1) i_Md_keepPoints_3 (by decide) ?_
  refine ev_callS3 i_Md_keepPoints_4 rfl (Nat.le_of_ble_eq_true rfl) (m_in.2 (fun z => hq ((inR_inB (n := 2) (by decide) (by decide)).mpr z))) ?_
  refine ev_if_neN i_Md_keepPoints_7 (by omega) (fun hc_7 => ?_) (fun hc_7 => ?_)
  · skip
    exfalso; omega
  · skip
    refine ev_iconstN (v := 1) i_Md_keepPoints_10 (by decide) ?_
    refine ev_goto i_Md_keepPoints_11 ?_
    refine ev_mput_thrown i_Md_keepPoints_26 h0 ?_
    refine ev_aload_n i_Md_keepPoints_29 rfl ?_
    refine ev_get i_Md_keepPoints_30 o1 rfl ?_
    refine ev_if_leN i_Md_keepPoints_33 (by omega) (fun hc_33 => ?_) (fun hc_33 => ?_)
    · skip
      exfalso; omega
    · skip
      refine ev_iconstN (v := 0) i_Md_keepPoints_36 (by decide) ?_
      exact ev_iret i_Md_keepPoints_37 rfl (by first | rfl | decide)
theorem m_keepPts_2 {scr : Scr} {l : Launch} {S : Sto} {σ : Sg} {th : Nat} {row : Nat} {b : Int32} (h : MInv th σ S) (hr : row < 2) (hG : fgS σ = none) : MRun scr l 3 M_Md_keepPoints [.ref 105, .int (nI row), .int b] S (some (.int (nI 0))) 2 σ := by
  obtain ⟨dr0, mo0, sc0, h0⟩ := h.get
  obtain ⟨dr, S3, m3, p3, ok3, f3⟩ := m_carryOut (scr := scr) (l := l) h
  rw [hG, show bI (none : Option Fig).isSome = 0 from rfl] at m3
  obtain ⟨mo, sc, o3⟩ := ok3.1
  obtain ⟨i4, F4⟩ := h.drawn (k := 2) f3 ok3 o3
  have o4 := put_self (c := mObj (nI 2) (nI σ.1.length) (nI σ.2.2.2.2.1.length) (nI (bI σ.2.2.2.1)) dr mo sc) o3
  refine ⟨_, fun d => ?_, i4, F4.m (by decide)⟩
  refine MetA.of rfl (by decide +kernel) (Nat.le_of_ble_eq_true rfl) ?_
  refine ev_aload_n i_Md_keepPoints_0 rfl ?_
  refine ev_iload_n i_Md_keepPoints_1 rfl ?_
  refine ev_iconstN (v := 0) i_Md_keepPoints_2 (by decide) ?_
  refine ev_iconstN (v := 1) i_Md_keepPoints_3 (by decide) ?_
  refine ev_callS3 i_Md_keepPoints_4 rfl (Nat.le_of_ble_eq_true rfl) (m_in.1 ((inR_inB (n := 2) (by decide) (by decide)).mp (inR.of (by decide) hr))) ?_
  refine ev_if_neN i_Md_keepPoints_7 (by omega) (fun hc_7 => ?_) (fun hc_7 => ?_)
  · skip
    refine ev_aload_n i_Md_keepPoints_14 rfl ?_
    refine ev_callV0 i_Md_keepPoints_15 rfl h0 (Nat.le_of_ble_eq_true rfl) (m3 _) ?_
    refine ev_if_neN i_Md_keepPoints_18 (by omega) (fun hc_18 => ?_) (fun hc_18 => ?_)
    · skip
      exfalso; omega
    · skip
      refine ev_iconstN (v := 2) i_Md_keepPoints_21 (by decide) ?_
      refine ev_goto i_Md_keepPoints_22 ?_
      refine ev_mput_thrown i_Md_keepPoints_26 o3 ?_
      refine ev_aload_n i_Md_keepPoints_29 rfl ?_
      refine ev_get i_Md_keepPoints_30 o4 rfl ?_
      refine ev_if_leN i_Md_keepPoints_33 (by omega) (fun hc_33 => ?_) (fun hc_33 => ?_)
      · skip
        exfalso; omega
      · skip
        refine ev_iconstN (v := 0) i_Md_keepPoints_36 (by decide) ?_
        exact ev_iret i_Md_keepPoints_37 rfl (by first | rfl | decide)
  · skip
    exfalso; omega

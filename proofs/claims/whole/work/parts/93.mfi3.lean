/-! the model m: figures, the face -/
def CaOK (S : Sto) (q1 q2 q3 q4 q5 : Int32) : Prop := (∃ mo sc, S.1[105]? = some (mObj q1 q2 q3 q4 q5 mo sc)) ∧ (∃ f, S.1[127]? = some (aD 61 f)) ∧ (∃ f, S.1[128]? = some (aD 61 f)) ∧ (∃ f, S.1[129]? = some (aD 80 f)) ∧ ∃ f, S.1[130]? = some (aD 240 f)
theorem CaS.ok {S : Sto} {q1 q2 q3 q4 q5 : Int32} {pts : Nat} {F : Fig} {p : Nat → UInt64 × UInt64} (h : CaS S q1 q2 q3 q4 q5 pts F p) : CaOK S q1 q2 q3 q4 q5 := by
  obtain ⟨h0, ⟨f1, h1, -⟩, ⟨f2, h2, -⟩, ⟨f3, h3, -⟩, f4, h4, -⟩ := h
  exact ⟨⟨_, _, h0⟩, ⟨f1, h1⟩, ⟨f2, h2⟩, ⟨f4, h4⟩, f3, h3⟩
theorem lp_carry {scr : Scr} {l : Launch} {S : Sto} {q1 q2 q3 q4 q5 : Int32} {cm : Nat → Nat} {xs : List Nat} {gw g : Nat → Int32} (hw : S.1[107]? = some (aI 61 gw)) (hx : RowW gw 0 xs) (hcm : S.1[109]? = some (aI 6 g)) (hg : ∀ j, j < 6 → g j = nI (cm j) ∧ cm j < 7) : ∀ (k i : Nat), i + k = xs.length → ∀ S2 F, figN cm xs i = some F → CaS S2 q1 q2 q3 q4 q5 (i + 1) F (ptN cm xs) → Fr caK S S2 → ∃ S3, (∀ d u10 u11 u12 u13 u14, Ev scr l (d + 2) M_Md_carryOut 40 [some (.ref 105), some (.double F.1.1), none, some (.double F.1.2.1), none, some (.double F.1.2.2.1), none, some (.int (nI F.1.2.2.2)), some (.int (nI F.2.1.length)), some (.int (nI (i + 1))), u10, u11, u12, u13, u14] [] S2 (.inl (some (.int (nI (bI (figN cm xs xs.length).isSome)))), S3)) ∧ (∀ G, figN cm xs xs.length = some G → CaS S3 q1 q2 q3 q4 q5 (xs.length + 1) G (ptN cm xs)) ∧ CaOK S3 q1 q2 q3 q4 q5 ∧ Fr caK S S3 := by
  have hn60 := hx.2.1
  intro k
  induction k with
  | zero =>
    intro i hik S2 F hF hS hFr
    have z : i = xs.length := by omega
    subst z
    have w2 := hFr.at hw (show 107 ∉ caK by decide)
    have o2 := hS.1
    refine ⟨S2, fun d u10 u11 u12 u13 u14 => ?_, fun G hG => ?_, hS.ok, hFr⟩
    · rw [hF, show bI (some F).isSome = 1 from rfl]
      refine ev_iload i_Md_carryOut_40 rfl ?_
      refine ev_aload_n i_Md_carryOut_42 rfl ?_
      refine ev_get i_Md_carryOut_43 o2 rfl ?_
      refine ev_iconstN (v := 0) i_Md_carryOut_46 (by decide) ?_
      refine ev_ialdN i_Md_carryOut_47 w2 (by decide) (by decide) ?_
      rw [hx.1]
      refine ev_icmp_gtN i_Md_carryOut_48 (by omega) (by omega) (fun hc_48 => ?_) (fun hc_48 => ?_)
      · skip
        refine ev_iconstN (v := 1) i_Md_carryOut_371 (by decide) ?_
        exact ev_iret i_Md_carryOut_372 rfl (by first | rfl | decide)
      · skip
        exfalso; omega
    · rw [hF] at hG
      cases hG
      exact hS
  | succ k ih =>
    intro i hik S2 F hF hS hFr
    have w2 := hFr.at hw (show 107 ∉ caK by decide)
    have c2 := hFr.at hcm (show 109 ∉ caK by decide)
    have o2 := hS.1
    have hxi : gw (i + 1) = nI (xs.getD i 0) := by
      have := (hx.2.2 i (by omega)).1
      rw [show 0 + 1 + i = i + 1 by omega] at this
      exact this
    have hlt := (hx.2.2 i (by omega)).2
    have hV := fig_ok (by omega) hF
    have hml := m_letter (scr := scr) (l := l) hS hV (by omega) (hg _ hlt).2
    have hs := fig_s hF
    cases hG : carry (cm (xs.getD i 0)) F with
    | none =>
      have hno := hml.2 hG
      rw [hG] at hs
      have hnn := fig_none hs k
      rw [show i + 1 + k = xs.length by omega] at hnn
      refine ⟨S2, fun d u10 u11 u12 u13 u14 => ?_, fun G hG => ?_, hS.ok, hFr⟩
      · rw [hnn, show bI (none : Option Fig).isSome = 0 from rfl]
        refine ev_iload i_Md_carryOut_40 rfl ?_
        refine ev_aload_n i_Md_carryOut_42 rfl ?_
        refine ev_get i_Md_carryOut_43 o2 rfl ?_
        refine ev_iconstN (v := 0) i_Md_carryOut_46 (by decide) ?_
        refine ev_ialdN i_Md_carryOut_47 w2 (by decide) (by decide) ?_
        rw [hx.1]
        refine ev_icmp_gtN i_Md_carryOut_48 (by omega) (by omega) (fun hc_48 => ?_) (fun hc_48 => ?_)
        · skip
          exfalso; omega
        · skip
          refine ev_aload_n i_Md_carryOut_51 rfl ?_
          refine ev_get i_Md_carryOut_52 o2 rfl ?_
          refine ev_aload_n i_Md_carryOut_55 rfl ?_
          refine ev_get i_Md_carryOut_56 o2 rfl ?_
          refine ev_iload i_Md_carryOut_59 rfl ?_
          refine ev_ialdN i_Md_carryOut_61 w2 (by omega) (by decide) ?_
          rw [hxi]
          refine ev_ialdN i_Md_carryOut_62 c2 hlt (by decide) ?_
          rw [(hg _ hlt).1]
          refine ev_ist_10 i_Md_carryOut_63 rfl ?_
          exact hno d _ _ _ _
      · rw [hnn] at hG; cases hG
    | some G =>
      obtain ⟨S3, s3, f3, kx⟩ := hml.1 G hG
      rw [hG] at hs
      obtain ⟨S4, s4, f4, kk⟩ := s3.keep (scr := scr) (l := l) (by omega) (pt_eq hs)
      obtain ⟨S5, m5, p5⟩ := ih (i + 1) (by omega) S4 G hs s4 ((hFr.tr f3).tr f4)
      refine ⟨S5, fun d u10 u11 u12 u13 u14 => ?_, p5⟩
      refine ev_iload i_Md_carryOut_40 rfl ?_
      refine ev_aload_n i_Md_carryOut_42 rfl ?_
      refine ev_get i_Md_carryOut_43 o2 rfl ?_
      refine ev_iconstN (v := 0) i_Md_carryOut_46 (by decide) ?_
      refine ev_ialdN i_Md_carryOut_47 w2 (by decide) (by decide) ?_
      rw [hx.1]
      refine ev_icmp_gtN i_Md_carryOut_48 (by omega) (by omega) (fun hc_48 => ?_) (fun hc_48 => ?_)
      · skip
        exfalso; omega
      · skip
        refine ev_aload_n i_Md_carryOut_51 rfl ?_
        refine ev_get i_Md_carryOut_52 o2 rfl ?_
        refine ev_aload_n i_Md_carryOut_55 rfl ?_
        refine ev_get i_Md_carryOut_56 o2 rfl ?_
        refine ev_iload i_Md_carryOut_59 rfl ?_
        refine ev_ialdN i_Md_carryOut_61 w2 (by omega) (by decide) ?_
        rw [hxi]
        refine ev_ialdN i_Md_carryOut_62 c2 hlt (by decide) ?_
        rw [(hg _ hlt).1]
        refine ev_ist_10 i_Md_carryOut_63 rfl ?_
        exact kx d _ (fun u11 u12 u13 u14 => kk _ _ _ _ _ _ _ (m5 d _ _ _ _ _)) _ _ _ _
theorem m_carry0 {scr : Scr} {l : Launch} {S : Sto} {q1 q2 q3 q4 q5 : Int32} {cm : Nat → Nat} {xs : List Nat} {gw g : Nat → Int32} (hw : S.1[107]? = some (aI 61 gw)) (hx : RowW gw 0 xs) (hcm : S.1[109]? = some (aI 6 g)) (hg : ∀ j, j < 6 → g j = nI (cm j) ∧ cm j < 7) {mo sc : Int32} {f1 f2 f3 f4 : Nat → UInt64} (h0 : S.1[105]? = some (mObj q1 q2 q3 q4 q5 mo sc)) (h1 : S.1[127]? = some (aD 61 f1)) (h2 : S.1[128]? = some (aD 61 f2)) (h3 : S.1[129]? = some (aD 80 f3)) (h4 : S.1[130]? = some (aD 240 f4)) : ∃ S3, (∀ d, MetA scr l (d + 2) M_Md_carryOut [.ref 105] S (.inl (some (.int (nI (bI (figN cm xs xs.length).isSome)))), S3)) ∧ (∀ G, figN cm xs xs.length = some G → CaS S3 q1 q2 q3 q4 q5 (xs.length + 1) G (ptN cm xs)) ∧ CaOK S3 q1 q2 q3 q4 q5 ∧ Fr caK S S3 := by
  have o1 : (S.put 105 (mObj q1 q2 q3 q4 q5 (nI 0) (nI 0))).1[105]? = _ := put_self h0
  have x1 : (S.put 105 (mObj q1 q2 q3 q4 q5 (nI 0) (nI 0))).1[127]? = _ := put_at h1 (by decide)
  have o2 : ((S.put 105 (mObj q1 q2 q3 q4 q5 (nI 0) (nI 0))).put 127 (aD 61 (vf_upd f1 0 FP.dconst0))).1[105]? = _ := put_at o1 (by decide)
  have y2 : ((S.put 105 (mObj q1 q2 q3 q4 q5 (nI 0) (nI 0))).put 127 (aD 61 (vf_upd f1 0 FP.dconst0))).1[128]? = _ := put_at (put_at h2 (by decide)) (by decide)
  have FF : Fr caK S (((S.put 105 (mObj q1 q2 q3 q4 q5 (nI 0) (nI 0))).put 127 (aD 61 (vf_upd f1 0 FP.dconst0))).put 128 (aD 61 (vf_upd f2 0 FP.dconst0))) := ((Fr.put _ _ (by simp)).tr (Fr.put _ _ (by simp))).tr (Fr.put _ _ (by simp))
  have s3 : CaS (((S.put 105 (mObj q1 q2 q3 q4 q5 (nI 0) (nI 0))).put 127 (aD 61 (vf_upd f1 0 FP.dconst0))).put 128 (aD 61 (vf_upd f2 0 FP.dconst0))) q1 q2 q3 q4 q5 (0 + 1) fig0 (ptN cm xs) := by
    refine ⟨put_at o2 (by decide), ⟨_, put_at (put_self x1) (by decide), fun j hj => ?_⟩, ⟨_, put_self y2, fun j hj => ?_⟩, ⟨f4, put_at (put_at (put_at h4 (by decide)) (by decide)) (by decide), fun j hj => absurd hj (by simp)⟩, f3, put_at (put_at (put_at h3 (by decide)) (by decide)) (by decide), fun j hj => absurd hj (by simp)⟩
    · rw [show j = 0 by omega, updD_at]; rfl
    · rw [show j = 0 by omega, updD_at]; rfl
  obtain ⟨S5, m5, p5⟩ := lp_carry (scr := scr) (l := l) hw hx hcm hg xs.length 0 (by omega) (((S.put 105 (mObj q1 q2 q3 q4 q5 (nI 0) (nI 0))).put 127 (aD 61 (vf_upd f1 0 FP.dconst0))).put 128 (aD 61 (vf_upd f2 0 FP.dconst0))) fig0 rfl s3 FF
  refine ⟨S5, fun d => ?_, p5⟩
  refine MetA.of rfl (by decide +kernel) (Nat.le_of_ble_eq_true rfl) ?_
  refine ev_dconst0 i_Md_carryOut_0 ?_
  refine ev_dst_n_1 i_Md_carryOut_1 rfl ?_
  refine ev_dconst0 i_Md_carryOut_2 ?_
  refine ev_dst_n_3 i_Md_carryOut_3 rfl ?_
  refine ev_dconst1 i_Md_carryOut_4 ?_
  refine ev_dst_5 i_Md_carryOut_5 rfl ?_
  refine ev_iconstN (v := 0) i_Md_carryOut_7 (by decide) ?_
  refine ev_ist_7 i_Md_carryOut_8 rfl ?_
  refine ev_iconstN (v := 0) i_Md_carryOut_10 (by decide) ?_
  refine ev_ist_8 i_Md_carryOut_11 rfl ?_
  refine ev_aload_n i_Md_carryOut_13 rfl ?_
  refine ev_iconstN (v := 0) i_Md_carryOut_14 (by decide) ?_
  refine ev_mput_most i_Md_carryOut_15 h0 ?_
  refine ev_aload_n i_Md_carryOut_18 rfl ?_
  refine ev_iconstN (v := 0) i_Md_carryOut_19 (by decide) ?_
  refine ev_mput_segmentCount i_Md_carryOut_20 (put_self h0) ?_
  rw [put_put]
  refine ev_aload_n i_Md_carryOut_23 rfl ?_
  refine ev_get i_Md_carryOut_24 o1 rfl ?_
  refine ev_iconstN (v := 0) i_Md_carryOut_27 (by decide) ?_
  refine ev_dload_n i_Md_carryOut_28 rfl ?_
  refine ev_dastN i_Md_carryOut_29 x1 (by decide) (by decide) ?_
  refine ev_aload_n i_Md_carryOut_30 rfl ?_
  refine ev_get i_Md_carryOut_31 o2 rfl ?_
  refine ev_iconstN (v := 0) i_Md_carryOut_34 (by decide) ?_
  refine ev_dload_n i_Md_carryOut_35 rfl ?_
  refine ev_dastN i_Md_carryOut_36 y2 (by decide) (by decide) ?_
  refine ev_iconstN (v := 1) i_Md_carryOut_37 (by decide) ?_
  refine ev_ist_9 i_Md_carryOut_38 rfl ?_
  exact m5 d _ _ _ _ _
theorem m_carryOut {scr : Scr} {l : Launch} {S : Sto} {σ : Sg} {th : Nat} (h : MInv th σ S) : ∃ dr S3, (∀ d, MetA scr l (d + 2) M_Md_carryOut [.ref 105] S (.inl (some (.int (nI (bI (fgS σ).isSome)))), S3)) ∧ ((∀ G, fgS σ = some G → CaS S3 (nI th) (nI σ.1.length) (nI σ.2.2.2.2.1.length) (nI (bI σ.2.2.2.1)) dr (σ.2.1.2.1.length + 1) G (ptS σ)) ∧ CaOK S3 (nI th) (nI σ.1.length) (nI σ.2.2.2.2.1.length) (nI (bI σ.2.2.2.1)) dr ∧ Fr caK S S3) := by
  obtain ⟨dr, mo, sc, h0⟩ := h.get
  obtain ⟨-, ⟨gw, wd, hx⟩, -, g, g1, g2⟩ := h.2.2.1
  obtain ⟨e1, e2, e3, e4, h1, h2, h3, h4⟩ : ∃ e1 e2 e3 e4, S.1[127]? = some (aD 61 e1) ∧ S.1[128]? = some (aD 61 e2) ∧ S.1[129]? = some (aD 80 e3) ∧ S.1[130]? = some (aD 240 e4) := by
    obtain ⟨f1, f5, f6, f7, f8, f9, f3, f4, l1, l2, l3, e1, e2, e3, e4, a1, a2, a3, a4, a5, a6, a7, a8, a9, a10, a11, a12, a13, a14, a15⟩ := h.2.2.2.2.2
    exact ⟨e1, e2, e3, e4, a12, a13, a14, a15⟩
  obtain ⟨S3, m3, p3⟩ := m_carry0 (scr := scr) (l := l) wd hx g1 g2 h0 h1 h2 h3 h4
  exact ⟨dr, S3, m3, p3⟩
/-- behind a call that drew: the code put -/
theorem MInv.drawn {S S3 : Sto} {σ : Sg} {th k : Nat} {dr mo sc : Int32} (h : MInv th σ S) (hF : Fr caK S S3) (hc : CaOK S3 (nI th) (nI σ.1.length) (nI σ.2.2.2.2.1.length) (nI (bI σ.2.2.2.1)) dr) (h0 : S3.1[105]? = some (mObj (nI th) (nI σ.1.length) (nI σ.2.2.2.2.1.length) (nI (bI σ.2.2.2.1)) dr mo sc)) : MInv k σ (S3.put 105 (mObj (nI k) (nI σ.1.length) (nI σ.2.2.2.2.1.length) (nI (bI σ.2.2.2.1)) dr mo sc)) ∧ Fr caK S (S3.put 105 (mObj (nI k) (nI σ.1.length) (nI σ.2.2.2.2.1.length) (nI (bI σ.2.2.2.1)) dr mo sc)) := by
  have F4 : Fr caK S (S3.put 105 (mObj (nI k) (nI σ.1.length) (nI σ.2.2.2.2.1.length) (nI (bI σ.2.2.2.1)) dr mo sc)) := hF.tr (Fr.put _ _ (by simp))
  obtain ⟨-, ⟨f1, h1⟩, ⟨f2, h2⟩, ⟨f3, h3⟩, f4, h4⟩ := hc
  exact ⟨h.scr F4 (by simp) ⟨dr, mo, sc, put_self h0⟩ (h.2.2.2.2.2.up F4 (Or.inl (by decide)) (Or.inl (by decide)) (Or.inl (by decide)) (Or.inl (by decide)) (Or.inl (by decide)) (Or.inl (by decide)) (Or.inl (by decide)) (Or.inl (by decide)) (Or.inl (by decide)) (Or.inl (by decide)) (Or.inl (by decide)) (Or.inr ⟨_, put_at h1 (by decide)⟩) (Or.inr ⟨_, put_at h2 (by decide)⟩) (Or.inr ⟨_, put_at h3 (by decide)⟩) (Or.inr ⟨_, put_at h4 (by decide)⟩)), F4⟩
theorem m_segs {scr : Scr} {l : Launch} {S : Sto} {σ : Sg} {th : Nat} {G : Fig} (h : MInv th σ S) (hG : fgS σ = some G) : MRun scr l 3 M_Md_segmentCount [.ref 105] S (some (.int (nI G.2.2.1.length))) 0 σ := by
  obtain ⟨dr0, mo0, sc0, h0⟩ := h.get
  obtain ⟨dr, S3, m3, p3, ok3, f3⟩ := m_carryOut (scr := scr) (l := l) h
  rw [hG, show bI (some G).isSome = 1 from rfl] at m3
  have o3 := (p3 G hG).1
  obtain ⟨i4, F4⟩ := h.drawn (k := 0) f3 ok3 o3
  have o4 := put_self (c := mObj (nI 0) (nI σ.1.length) (nI σ.2.2.2.2.1.length) (nI (bI σ.2.2.2.1)) dr (nI G.2.2.2.2) (nI G.2.2.1.length)) o3
  refine ⟨_, fun d => ?_, i4, F4.m (by decide)⟩
  refine MetA.of rfl (by decide +kernel) (Nat.le_of_ble_eq_true rfl) ?_
  refine ev_aload_n i_Md_segmentCount_0 rfl ?_
  refine ev_aload_n i_Md_segmentCount_1 rfl ?_
  refine ev_callV0 i_Md_segmentCount_2 rfl h0 (Nat.le_of_ble_eq_true rfl) (m3 _) ?_
  refine ev_if_eqN i_Md_segmentCount_5 (by omega) (fun hc_5 => ?_) (fun hc_5 => ?_)
  · skip
    exfalso; omega
  · skip
    refine ev_iconstN (v := 0) i_Md_segmentCount_8 (by decide) ?_
    refine ev_goto i_Md_segmentCount_9 ?_
    refine ev_mput_thrown i_Md_segmentCount_13 o3 ?_
    refine ev_aload_n i_Md_segmentCount_16 rfl ?_
    refine ev_get i_Md_segmentCount_17 o4 rfl ?_
    refine ev_if_leN i_Md_segmentCount_20 (by omega) (fun hc_20 => ?_) (fun hc_20 => ?_)
    · skip
      refine ev_aload_n i_Md_segmentCount_27 rfl ?_
      refine ev_get i_Md_segmentCount_28 o4 rfl ?_
      exact ev_iret i_Md_segmentCount_31 rfl (by first | rfl | decide)
    · skip
      exfalso; omega
theorem m_segs_1 {scr : Scr} {l : Launch} {S : Sto} {σ : Sg} {th : Nat} (h : MInv th σ S) (hG : fgS σ = none) : MRun scr l 3 M_Md_segmentCount [.ref 105] S (some (.int (nI 0))) 1 σ := by
  obtain ⟨dr0, mo0, sc0, h0⟩ := h.get
  obtain ⟨dr, S3, m3, p3, ok3, f3⟩ := m_carryOut (scr := scr) (l := l) h
  rw [hG, show bI (none : Option Fig).isSome = 0 from rfl] at m3
  obtain ⟨mo, sc, o3⟩ := ok3.1
  obtain ⟨i4, F4⟩ := h.drawn (k := 1) f3 ok3 o3
  have o4 := put_self (c := mObj (nI 1) (nI σ.1.length) (nI σ.2.2.2.2.1.length) (nI (bI σ.2.2.2.1)) dr mo sc) o3
  refine ⟨_, fun d => ?_, i4, F4.m (by decide)⟩
  refine MetA.of rfl (by decide +kernel) (Nat.le_of_ble_eq_true rfl) ?_
  refine ev_aload_n i_Md_segmentCount_0 rfl ?_
  refine ev_aload_n i_Md_segmentCount_1 rfl ?_
  refine ev_callV0 i_Md_segmentCount_2 rfl h0 (Nat.le_of_ble_eq_true rfl) (m3 _) ?_
  refine ev_if_eqN i_Md_segmentCount_5 (by omega) (fun hc_5 => ?_) (fun hc_5 => ?_)
  · skip
    refine ev_iconstN (v := 1) i_Md_segmentCount_12 (by decide) ?_
    refine ev_mput_thrown i_Md_segmentCount_13 o3 ?_
    refine ev_aload_n i_Md_segmentCount_16 rfl ?_
    refine ev_get i_Md_segmentCount_17 o4 rfl ?_
    refine ev_if_leN i_Md_segmentCount_20 (by omega) (fun hc_20 => ?_) (fun hc_20 => ?_)
    · skip
      exfalso; omega
    · skip
      refine ev_iconstN (v := 0) i_Md_segmentCount_23 (by decide) ?_
      refine ev_goto i_Md_segmentCount_24 ?_
      exact ev_iret i_Md_segmentCount_31 rfl (by first | rfl | decide)
  · skip
    exfalso; omega
theorem m_deep {scr : Scr} {l : Launch} {S : Sto} {σ : Sg} {th : Nat} {G : Fig} (h : MInv th σ S) (hG : fgS σ = some G) : MRun scr l 3 M_Md_openDepth [.ref 105] S (some (.int (nI G.2.2.2.2))) 0 σ := by
  obtain ⟨dr0, mo0, sc0, h0⟩ := h.get
  obtain ⟨dr, S3, m3, p3, ok3, f3⟩ := m_carryOut (scr := scr) (l := l) h
  rw [hG, show bI (some G).isSome = 1 from rfl] at m3
  have o3 := (p3 G hG).1
  obtain ⟨i4, F4⟩ := h.drawn (k := 0) f3 ok3 o3
  have o4 := put_self (c := mObj (nI 0) (nI σ.1.length) (nI σ.2.2.2.2.1.length) (nI (bI σ.2.2.2.1)) dr (nI G.2.2.2.2) (nI G.2.2.1.length)) o3
  refine ⟨_, fun d => ?_, i4, F4.m (by decide)⟩
  refine MetA.of rfl (by decide +kernel) (Nat.le_of_ble_eq_true rfl) ?_
  refine ev_aload_n i_Md_openDepth_0 rfl ?_
  refine ev_aload_n i_Md_openDepth_1 rfl ?_
  refine ev_callV0 i_Md_openDepth_2 rfl h0 (Nat.le_of_ble_eq_true rfl) (m3 _) ?_
  refine ev_if_eqN i_Md_openDepth_5 (by omega) (fun hc_5 => ?_) (fun hc_5 => ?_)
  · skip
    exfalso; omega
  · skip
    refine ev_iconstN (v := 0) i_Md_openDepth_8 (by decide) ?_
    refine ev_goto i_Md_openDepth_9 ?_
    refine ev_mput_thrown i_Md_openDepth_13 o3 ?_
    refine ev_aload_n i_Md_openDepth_16 rfl ?_
    refine ev_get i_Md_openDepth_17 o4 rfl ?_
    refine ev_if_leN i_Md_openDepth_20 (by omega) (fun hc_20 => ?_) (fun hc_20 => ?_)
    · skip
      refine ev_aload_n i_Md_openDepth_27 rfl ?_
      refine ev_get i_Md_openDepth_28 o4 rfl ?_
      exact ev_iret i_Md_openDepth_31 rfl (by first | rfl | decide)
    · skip
      exfalso; omega
theorem m_deep_1 {scr : Scr} {l : Launch} {S : Sto} {σ : Sg} {th : Nat} (h : MInv th σ S) (hG : fgS σ = none) : MRun scr l 3 M_Md_openDepth [.ref 105] S (some (.int (nI 0))) 1 σ := by
  obtain ⟨dr0, mo0, sc0, h0⟩ := h.get
  obtain ⟨dr, S3, m3, p3, ok3, f3⟩ := m_carryOut (scr := scr) (l := l) h
  rw [hG, show bI (none : Option Fig).isSome = 0 from rfl] at m3
  obtain ⟨mo, sc, o3⟩ := ok3.1
  obtain ⟨i4, F4⟩ := h.drawn (k := 1) f3 ok3 o3
  have o4 := put_self (c := mObj (nI 1) (nI σ.1.length) (nI σ.2.2.2.2.1.length) (nI (bI σ.2.2.2.1)) dr mo sc) o3
  refine ⟨_, fun d => ?_, i4, F4.m (by decide)⟩
  refine MetA.of rfl (by decide +kernel) (Nat.le_of_ble_eq_true rfl) ?_
  refine ev_aload_n i_Md_openDepth_0 rfl ?_
  refine ev_aload_n i_Md_openDepth_1 rfl ?_
  refine ev_callV0 i_Md_openDepth_2 rfl h0 (Nat.le_of_ble_eq_true rfl) (m3 _) ?_
  refine ev_if_eqN i_Md_openDepth_5 (by omega) (fun hc_5 => ?_) (fun hc_5 => ?_)
  · skip
    refine ev_iconstN (v := 1) i_Md_openDepth_12 (by decide) ?_
    refine ev_mput_thrown i_Md_openDepth_13 o3 ?_
    refine ev_aload_n i_Md_openDepth_16 rfl ?_
    refine ev_get i_Md_openDepth_17 o4 rfl ?_
    refine ev_if_leN i_Md_openDepth_20 (by omega) (fun hc_20 => ?_) (fun hc_20 => ?_)
    · skip
      exfalso; omega
    · skip
      refine ev_iconstN (v := 0) i_Md_openDepth_23 (by decide) ?_
      refine ev_goto i_Md_openDepth_24 ?_
      exact ev_iret i_Md_openDepth_31 rfl (by first | rfl | decide)
  · skip
    exfalso; omega
theorem deq_iff {x y : UInt64} {a b : Int} (hx : DV x a) (hy : DV y b) : deq x y = true ↔ a = b := by
  unfold deq
  rw [hx.cmp hy, cmpI, decide_eq_true_eq]
  by_cases h1 : a < b
  · rw [if_pos h1]
    exact ⟨fun q => (by cases q), fun q => by omega⟩
  · rw [if_neg h1]
    by_cases h2 : a = b
    · rw [if_pos h2]; exact ⟨fun _ => h2, fun _ => rfl⟩
    · rw [if_neg h2]; exact ⟨fun q => (by cases q), fun q => absurd q h2⟩
theorem lp_ink {scr : Scr} {l : Launch} {S : Sto} {q2 q3 q4 q5 : Int32} {mo : Int32} {L : List SegV} (o4 : S.1[105]? = some (mObj (nI 0) q2 q3 q4 q5 mo (nI L.length))) (hs : ArS S 130 L) (hL : L.length ≤ 60) (hp : ∀ j, j < L.length → Pt (L.getD j sg0).1 (60 * 1048576) ∧ Pt (L.getD j sg0).2.1 (60 * 1048576) ∧ Pt (L.getD j sg0).2.2.1 (60 * 1048576) ∧ Pt (L.getD j sg0).2.2.2 (60 * 1048576)) : ∀ (k i : Nat), i + k = L.length → ∀ z, DV z ((slT L i : Nat) : Int) → slT L i ≤ i * 251658240 → ∃ z1, DV z1 ((slT L L.length : Nat) : Int) ∧ ∀ d, Ev scr l (d + 1) M_Md_inkLength 20 [some (.ref 105), some (.double z), none, some (.int (nI (4 * i)))] [] S (.inl (some (.double z1)), S) := by
  obtain ⟨f, hf, hv⟩ := id hs
  intro k
  induction k with
  | zero =>
    intro i hik z hz hb
    have e : i = L.length := by omega
    subst e
    refine ⟨z, hz, fun d => ?_⟩
    refine ev_aload_n i_Md_inkLength_20 rfl ?_
    refine ev_get i_Md_inkLength_21 o4 rfl ?_
    refine ev_if_neN i_Md_inkLength_24 (by omega) (fun hc_24 => ?_) (fun hc_24 => ?_)
    · skip
      exfalso; omega
    · skip
      refine ev_iload_n i_Md_inkLength_27 rfl ?_
      refine ev_iconstN (v := 4) i_Md_inkLength_28 (by decide) ?_
      refine ev_aload_n i_Md_inkLength_29 rfl ?_
      refine ev_get i_Md_inkLength_30 o4 rfl ?_
      first | refine ev_imulN i_Md_inkLength_33 ?_ | refine ev_imul i_Md_inkLength_33 ?_
      refine ev_icmp_geN i_Md_inkLength_34 (by omega) (by omega) (fun hc_34 => ?_) (fun hc_34 => ?_)
      · skip
        refine ev_dload_n i_Md_inkLength_85 rfl ?_
        exact ev_dret i_Md_inkLength_86 rfl
      · skip
        exfalso; omega
  | succ k ih =>
    intro i hik z hz hb
    obtain ⟨p1, p2, p3, p4⟩ := hp i (by omega)
    have b1 := p1.2
    have b2 := p2.2
    have b3 := p3.2
    have b4 := p4.2
    have d1 := DV.sub p1.1 p3.1 (by omega)
    have d2' := DV.sub p2.1 p4.1 (by omega)
    have d3 := DV.add d1.abs d2'.abs (by omega)
    have hsl : slT L (i + 1) = slT L i + sl (L.getD i sg0) := rfl
    have hse : sl (L.getD i sg0) = (vOf (L.getD i sg0).1 - vOf (L.getD i sg0).2.2.1).natAbs + (vOf (L.getD i sg0).2.1 - vOf (L.getD i sg0).2.2.2).natAbs := rfl
    have hi60 : i * 251658240 ≤ 60 * 251658240 := Nat.mul_le_mul_right _ (by omega)
    have hb2 : slT L i ≤ 60 * 251658240 := Nat.le_trans hb hi60
    have d4 := DV.add hz d3 (by omega)
    obtain ⟨z1, e1, kx⟩ := ih (i + 1) (by omega) _ (by rw [hsl, hse, Int.natCast_add, Int.natCast_add]; exact d4) (by rw [hsl, hse, Nat.add_mul]; omega)
    refine ⟨z1, e1, fun d => ?_⟩
    refine ev_aload_n i_Md_inkLength_20 rfl ?_
    refine ev_get i_Md_inkLength_21 o4 rfl ?_
    refine ev_if_neN i_Md_inkLength_24 (by omega) (fun hc_24 => ?_) (fun hc_24 => ?_)
    · skip
      exfalso; omega
    · skip
      refine ev_iload_n i_Md_inkLength_27 rfl ?_
      refine ev_iconstN (v := 4) i_Md_inkLength_28 (by decide) ?_
      refine ev_aload_n i_Md_inkLength_29 rfl ?_
      refine ev_get i_Md_inkLength_30 o4 rfl ?_
      first | refine ev_imulN i_Md_inkLength_33 ?_ | refine ev_imul i_Md_inkLength_33 ?_
      refine ev_icmp_geN i_Md_inkLength_34 (by omega) (by omega) (fun hc_34 => ?_) (fun hc_34 => ?_)
      · skip
        exfalso; omega
      · skip
        refine ev_dload_n i_Md_inkLength_37 rfl ?_
        refine ev_aload_n i_Md_inkLength_38 rfl ?_
        refine ev_get i_Md_inkLength_39 o4 rfl ?_
        refine ev_iload_n i_Md_inkLength_42 rfl ?_
        refine ev_daldN i_Md_inkLength_43 hf (by omega) (by decide) ?_
        rw [(hv i (by omega)).1]
        refine ev_aload_n i_Md_inkLength_44 rfl ?_
        refine ev_get i_Md_inkLength_45 o4 rfl ?_
        refine ev_iload_n i_Md_inkLength_48 rfl ?_
        refine ev_iconstN (v := 2) i_Md_inkLength_49 (by decide) ?_
        first | refine ev_iaddN i_Md_inkLength_50 ?_ | refine ev_iadd i_Md_inkLength_50 ?_
        refine ev_daldN i_Md_inkLength_51 hf (by omega) (by decide) ?_
        rw [(hv i (by omega)).2.2.1]
        refine ev_dsub i_Md_inkLength_52 d1.n64 ?_
        refine ev_mabsD i_Md_inkLength_53 d1 rfl (Nat.le_of_ble_eq_true rfl) ?_
        refine ev_aload_n i_Md_inkLength_56 rfl ?_
        refine ev_get i_Md_inkLength_57 o4 rfl ?_
        refine ev_iload_n i_Md_inkLength_60 rfl ?_
        refine ev_iconstN (v := 1) i_Md_inkLength_61 (by decide) ?_
        first | refine ev_iaddN i_Md_inkLength_62 ?_ | refine ev_iadd i_Md_inkLength_62 ?_
        refine ev_daldN i_Md_inkLength_63 hf (by omega) (by decide) ?_
        rw [(hv i (by omega)).2.1]
        refine ev_aload_n i_Md_inkLength_64 rfl ?_
        refine ev_get i_Md_inkLength_65 o4 rfl ?_
        refine ev_iload_n i_Md_inkLength_68 rfl ?_
        refine ev_iconstN (v := 3) i_Md_inkLength_69 (by decide) ?_
        first | refine ev_iaddN i_Md_inkLength_70 ?_ | refine ev_iadd i_Md_inkLength_70 ?_
        refine ev_daldN i_Md_inkLength_71 hf (by omega) (by decide) ?_
        rw [(hv i (by omega)).2.2.2]
        refine ev_dsub i_Md_inkLength_72 d2'.n64 ?_
        refine ev_mabsD i_Md_inkLength_73 d2' rfl (Nat.le_of_ble_eq_true rfl) ?_
        refine ev_dadd i_Md_inkLength_76 d3.n64 ?_
        refine ev_dadd i_Md_inkLength_77 d4.n64 ?_
        refine ev_dst_n_1 i_Md_inkLength_78 rfl ?_
        refine ev_iincN_3 (c := 4) i_Md_inkLength_79 (by decide) rfl ?_
        refine ev_goto i_Md_inkLength_82 ?_
        rw [show 4 * i + 4 = 4 * (i + 1) by omega]
        exact kx d
theorem m_ink {scr : Scr} {l : Launch} {S : Sto} {σ : Sg} {th : Nat} {G : Fig} (h : MInv th σ S) (hG : fgS σ = some G) : ∃ z, DV z ((slT G.2.2.1 G.2.2.1.length : Nat) : Int) ∧ MRun scr l 3 M_Md_inkLength [.ref 105] S (some (.double z)) 0 σ := by
  obtain ⟨dr0, mo0, sc0, h0⟩ := h.get
  obtain ⟨dr, S3, m3, p3, ok3, f3⟩ := m_carryOut (scr := scr) (l := l) h
  rw [hG, show bI (some G).isSome = 1 from rfl] at m3
  have hn60 : σ.2.1.2.1.length ≤ 60 := by obtain ⟨-, ⟨gw, wd, hx⟩, -⟩ := h.2.2.1; exact hx.2.1
  have hV := fig_ok (by omega) hG
  have o3 := (p3 G hG).1
  have s3 := (p3 G hG).2.2.2.1
  obtain ⟨i4, F4⟩ := h.drawn (k := 0) f3 ok3 o3
  have o4 := put_self (c := mObj (nI 0) (nI σ.1.length) (nI σ.2.2.2.2.1.length) (nI (bI σ.2.2.2.1)) dr (nI G.2.2.2.2) (nI G.2.2.1.length)) o3
  obtain ⟨z, hz, kx⟩ := lp_ink (scr := scr) (l := l) o4 (s3.fr (Fr.put (K := [105]) _ _ (by simp)) (by decide)) (Nat.le_trans hV.2.2.2.1 hn60) (fun j hj => by
    obtain ⟨a1, a2, a3, a4⟩ := hV.2.2.2.2.1 j hj
    exact ⟨a1.mono (by omega), a2.mono (by omega), a3.mono (by omega), a4.mono (by omega)⟩) G.2.2.1.length 0 (by omega) FP.dconst0 DV.zero (by show 0 ≤ _; omega)
  refine ⟨z, hz, _, fun d => ?_, i4, F4.m (by decide)⟩
  refine MetA.of rfl (by decide +kernel) (Nat.le_of_ble_eq_true rfl) ?_
  refine ev_aload_n i_Md_inkLength_0 rfl ?_
  refine ev_aload_n i_Md_inkLength_1 rfl ?_
  refine ev_callV0 i_Md_inkLength_2 rfl h0 (Nat.le_of_ble_eq_true rfl) (m3 _) ?_
  refine ev_if_eqN i_Md_inkLength_5 (by omega) (fun hc_5 => ?_) (fun hc_5 => ?_)
  · skip
    exfalso; omega
  · skip
    refine ev_iconstN (v := 0) i_Md_inkLength_8 (by decide) ?_
    refine ev_goto i_Md_inkLength_9 ?_
    refine ev_mput_thrown i_Md_inkLength_13 o3 ?_
    refine ev_dconst0 i_Md_inkLength_16 ?_
    refine ev_dst_n_1 i_Md_inkLength_17 rfl ?_
    refine ev_iconstN (v := 0) i_Md_inkLength_18 (by decide) ?_
    refine ev_ist_n_3 i_Md_inkLength_19 rfl ?_
    exact kx _
theorem m_ink_1 {scr : Scr} {l : Launch} {S : Sto} {σ : Sg} {th : Nat} (h : MInv th σ S) (hG : fgS σ = none) : MRun scr l 3 M_Md_inkLength [.ref 105] S (some (.double FP.dconst0)) 1 σ := by
  obtain ⟨dr0, mo0, sc0, h0⟩ := h.get
  obtain ⟨dr, S3, m3, p3, ok3, f3⟩ := m_carryOut (scr := scr) (l := l) h
  rw [hG, show bI (none : Option Fig).isSome = 0 from rfl] at m3
  obtain ⟨mo, sc, o3⟩ := ok3.1
  obtain ⟨i4, F4⟩ := h.drawn (k := 1) f3 ok3 o3
  have o4 := put_self (c := mObj (nI 1) (nI σ.1.length) (nI σ.2.2.2.2.1.length) (nI (bI σ.2.2.2.1)) dr mo sc) o3
  refine ⟨_, fun d => ?_, i4, F4.m (by decide)⟩
  refine MetA.of rfl (by decide +kernel) (Nat.le_of_ble_eq_true rfl) ?_
  refine ev_aload_n i_Md_inkLength_0 rfl ?_
  refine ev_aload_n i_Md_inkLength_1 rfl ?_
  refine ev_callV0 i_Md_inkLength_2 rfl h0 (Nat.le_of_ble_eq_true rfl) (m3 _) ?_
  refine ev_if_eqN i_Md_inkLength_5 (by omega) (fun hc_5 => ?_) (fun hc_5 => ?_)
  · skip
    refine ev_iconstN (v := 1) i_Md_inkLength_12 (by decide) ?_
    refine ev_mput_thrown i_Md_inkLength_13 o3 ?_
    refine ev_dconst0 i_Md_inkLength_16 ?_
    refine ev_dst_n_1 i_Md_inkLength_17 rfl ?_
    refine ev_iconstN (v := 0) i_Md_inkLength_18 (by decide) ?_
    refine ev_ist_n_3 i_Md_inkLength_19 rfl ?_
    refine ev_aload_n i_Md_inkLength_20 rfl ?_
    refine ev_get i_Md_inkLength_21 o4 rfl ?_
    refine ev_if_neN i_Md_inkLength_24 (by omega) (fun hc_24 => ?_) (fun hc_24 => ?_)
    · skip
      refine ev_dload_n i_Md_inkLength_85 rfl ?_
      exact ev_dret i_Md_inkLength_86 rfl
    · skip
      exfalso; omega
  · skip
    exfalso; omega
theorem lp_ext0 {scr : Scr} {l : Launch} {S : Sto} {q2 q3 q4 q5 : Int32} {mo sc : Int32} {n : Nat} {gw : Nat → Int32} {f : Nat → UInt64} {v : Nat → Int} (o4 : S.1[105]? = some (mObj (nI 0) q2 q3 q4 q5 mo sc)) (w4 : S.1[107]? = some (aI 61 gw)) (hw : gw 0 = nI n) (hn : n ≤ 60) (hf : S.1[127]? = some (aD 61 f)) (hv : ∀ j, j < n + 1 → DV (f j) (v j)) : ∀ (k i : Nat), i + k = n + 1 → ∀ z, DV z (loI v i) → ∃ z1, DV z1 (loI v (n + 1)) ∧ ∀ d u5 u6, Ev scr l (d + 1) M_Md_extent 34 [some (.ref 105), some (.int (nI 0)), some (.double z), none, some (.int (nI i)), u5, u6] [] S (.inl (some (.double z1)), S) := by
  intro k
  induction k with
  | zero =>
    intro i hik z hz
    have e : i = n + 1 := by omega
    subst e
    refine ⟨z, hz, fun d u5 u6 => ?_⟩
    refine ev_aload_n i_Md_extent_34 rfl ?_
    refine ev_get i_Md_extent_35 o4 rfl ?_
    refine ev_if_neN i_Md_extent_38 (by omega) (fun hc_38 => ?_) (fun hc_38 => ?_)
    · skip
      exfalso; omega
    · skip
      refine ev_iload i_Md_extent_41 rfl ?_
      refine ev_aload_n i_Md_extent_43 rfl ?_
      refine ev_get i_Md_extent_44 o4 rfl ?_
      refine ev_iconstN (v := 0) i_Md_extent_47 (by decide) ?_
      refine ev_ialdN i_Md_extent_48 w4 (by decide) (by decide) ?_
      rw [hw]
      refine ev_icmp_gtN i_Md_extent_49 (by omega) (by omega) (fun hc_49 => ?_) (fun hc_49 => ?_)
      · skip
        refine ev_dload_n i_Md_extent_104 rfl ?_
        exact ev_dret i_Md_extent_105 rfl
      · skip
        exfalso; omega
  | succ k ih =>
    intro i hik z hz
    have h2 := DV.pickMin hz (hv i (by omega))
    obtain ⟨z1, d1, kx⟩ := ih (i + 1) (by omega) _ (by show DV _ (if v i < loI v i then v i else loI v i); exact h2)
    refine ⟨z1, d1, fun d u5 u6 => ?_⟩
    refine ev_aload_n i_Md_extent_34 rfl ?_
    refine ev_get i_Md_extent_35 o4 rfl ?_
    refine ev_if_neN i_Md_extent_38 (by omega) (fun hc_38 => ?_) (fun hc_38 => ?_)
    · skip
      exfalso; omega
    · skip
      refine ev_iload i_Md_extent_41 rfl ?_
      refine ev_aload_n i_Md_extent_43 rfl ?_
      refine ev_get i_Md_extent_44 o4 rfl ?_
      refine ev_iconstN (v := 0) i_Md_extent_47 (by decide) ?_
      refine ev_ialdN i_Md_extent_48 w4 (by decide) (by decide) ?_
      rw [hw]
      refine ev_icmp_gtN i_Md_extent_49 (by omega) (by omega) (fun hc_49 => ?_) (fun hc_49 => ?_)
      · skip
        exfalso; omega
      · skip
        refine ev_iload_n i_Md_extent_52 rfl ?_
        refine ev_iconstN (v := 2) i_Md_extent_53 (by decide) ?_
        refine ev_icmp_geN i_Md_extent_54 (by omega) (by omega) (fun hc_54 => ?_) (fun hc_54 => ?_)
        · skip
          exfalso; omega
        · skip
          refine ev_aload_n i_Md_extent_57 rfl ?_
          refine ev_get i_Md_extent_58 o4 rfl ?_
          refine ev_iload i_Md_extent_61 rfl ?_
          refine ev_daldN i_Md_extent_63 hf (by omega) (by decide) ?_
          refine ev_goto i_Md_extent_64 ?_
          refine ev_dst_5 i_Md_extent_74 rfl ?_
          refine ev_iload_n i_Md_extent_76 rfl ?_
          refine ev_iconstN (v := 2) i_Md_extent_77 (by decide) ?_
          refine ev_iremN i_Md_extent_78 (by decide) (by decide) (by decide) ?_
          refine ev_if_neN i_Md_extent_79 (by omega) (fun hc_79 => ?_) (fun hc_79 => ?_)
          · skip
            exfalso; omega
          · skip
            refine ev_dload_n i_Md_extent_82 rfl ?_
            refine ev_dload i_Md_extent_83 rfl ?_
            refine ev_mminD i_Md_extent_85 hz (hv i (by omega)) rfl (Nat.le_of_ble_eq_true rfl) ?_
            refine ev_goto i_Md_extent_88 ?_
            refine ev_dst_n_2 i_Md_extent_97 rfl ?_
            refine ev_iincN_4 (c := 1) i_Md_extent_98 (by decide) rfl ?_
            refine ev_goto i_Md_extent_101 ?_
            exact kx d _ _
theorem lp_ext1 {scr : Scr} {l : Launch} {S : Sto} {q2 q3 q4 q5 : Int32} {mo sc : Int32} {n : Nat} {gw : Nat → Int32} {f : Nat → UInt64} {v : Nat → Int} (o4 : S.1[105]? = some (mObj (nI 0) q2 q3 q4 q5 mo sc)) (w4 : S.1[107]? = some (aI 61 gw)) (hw : gw 0 = nI n) (hn : n ≤ 60) (hf : S.1[127]? = some (aD 61 f)) (hv : ∀ j, j < n + 1 → DV (f j) (v j)) : ∀ (k i : Nat), i + k = n + 1 → ∀ z, DV z (hiI v i) → ∃ z1, DV z1 (hiI v (n + 1)) ∧ ∀ d u5 u6, Ev scr l (d + 1) M_Md_extent 34 [some (.ref 105), some (.int (nI 1)), some (.double z), none, some (.int (nI i)), u5, u6] [] S (.inl (some (.double z1)), S) := by
  intro k
  induction k with
  | zero =>
    intro i hik z hz
    have e : i = n + 1 := by omega
    subst e
    refine ⟨z, hz, fun d u5 u6 => ?_⟩
    refine ev_aload_n i_Md_extent_34 rfl ?_
    refine ev_get i_Md_extent_35 o4 rfl ?_
    refine ev_if_neN i_Md_extent_38 (by omega) (fun hc_38 => ?_) (fun hc_38 => ?_)
    · skip
      exfalso; omega
    · skip
      refine ev_iload i_Md_extent_41 rfl ?_
      refine ev_aload_n i_Md_extent_43 rfl ?_
      refine ev_get i_Md_extent_44 o4 rfl ?_
      refine ev_iconstN (v := 0) i_Md_extent_47 (by decide) ?_
      refine ev_ialdN i_Md_extent_48 w4 (by decide) (by decide) ?_
      rw [hw]
      refine ev_icmp_gtN i_Md_extent_49 (by omega) (by omega) (fun hc_49 => ?_) (fun hc_49 => ?_)
      · skip
        refine ev_dload_n i_Md_extent_104 rfl ?_
        exact ev_dret i_Md_extent_105 rfl
      · skip
        exfalso; omega
  | succ k ih =>
    intro i hik z hz
    have h2 := DV.pickMax hz (hv i (by omega))
    obtain ⟨z1, d1, kx⟩ := ih (i + 1) (by omega) _ (by show DV _ (if hiI v i < v i then v i else hiI v i); exact h2)
    refine ⟨z1, d1, fun d u5 u6 => ?_⟩
    refine ev_aload_n i_Md_extent_34 rfl ?_
    refine ev_get i_Md_extent_35 o4 rfl ?_
    refine ev_if_neN i_Md_extent_38 (by omega) (fun hc_38 => ?_) (fun hc_38 => ?_)
    · skip
      exfalso; omega
    · skip
      refine ev_iload i_Md_extent_41 rfl ?_
      refine ev_aload_n i_Md_extent_43 rfl ?_
      refine ev_get i_Md_extent_44 o4 rfl ?_
      refine ev_iconstN (v := 0) i_Md_extent_47 (by decide) ?_
      refine ev_ialdN i_Md_extent_48 w4 (by decide) (by decide) ?_
      rw [hw]
      refine ev_icmp_gtN i_Md_extent_49 (by omega) (by omega) (fun hc_49 => ?_) (fun hc_49 => ?_)
      · skip
        exfalso; omega
      · skip
        refine ev_iload_n i_Md_extent_52 rfl ?_
        refine ev_iconstN (v := 2) i_Md_extent_53 (by decide) ?_
        refine ev_icmp_geN i_Md_extent_54 (by omega) (by omega) (fun hc_54 => ?_) (fun hc_54 => ?_)
        · skip
          exfalso; omega
        · skip
          refine ev_aload_n i_Md_extent_57 rfl ?_
          refine ev_get i_Md_extent_58 o4 rfl ?_
          refine ev_iload i_Md_extent_61 rfl ?_
          refine ev_daldN i_Md_extent_63 hf (by omega) (by decide) ?_
          refine ev_goto i_Md_extent_64 ?_
          refine ev_dst_5 i_Md_extent_74 rfl ?_
          refine ev_iload_n i_Md_extent_76 rfl ?_
          refine ev_iconstN (v := 2) i_Md_extent_77 (by decide) ?_
          refine ev_iremN i_Md_extent_78 (by decide) (by decide) (by decide) ?_
          refine ev_if_neN i_Md_extent_79 (by omega) (fun hc_79 => ?_) (fun hc_79 => ?_)
          · skip
            refine ev_dload_n i_Md_extent_91 rfl ?_
            refine ev_dload i_Md_extent_92 rfl ?_
            refine ev_mmaxD i_Md_extent_94 hz (hv i (by omega)) rfl (Nat.le_of_ble_eq_true rfl) ?_
            refine ev_dst_n_2 i_Md_extent_97 rfl ?_
            refine ev_iincN_4 (c := 1) i_Md_extent_98 (by decide) rfl ?_
            refine ev_goto i_Md_extent_101 ?_
            exact kx d _ _
          · skip
            exfalso; omega
theorem lp_ext2 {scr : Scr} {l : Launch} {S : Sto} {q2 q3 q4 q5 : Int32} {mo sc : Int32} {n : Nat} {gw : Nat → Int32} {f : Nat → UInt64} {v : Nat → Int} (o4 : S.1[105]? = some (mObj (nI 0) q2 q3 q4 q5 mo sc)) (w4 : S.1[107]? = some (aI 61 gw)) (hw : gw 0 = nI n) (hn : n ≤ 60) (hf : S.1[128]? = some (aD 61 f)) (hv : ∀ j, j < n + 1 → DV (f j) (v j)) : ∀ (k i : Nat), i + k = n + 1 → ∀ z, DV z (loI v i) → ∃ z1, DV z1 (loI v (n + 1)) ∧ ∀ d u5 u6, Ev scr l (d + 1) M_Md_extent 34 [some (.ref 105), some (.int (nI 2)), some (.double z), none, some (.int (nI i)), u5, u6] [] S (.inl (some (.double z1)), S) := by
  intro k
  induction k with
  | zero =>
    intro i hik z hz
    have e : i = n + 1 := by omega
    subst e
    refine ⟨z, hz, fun d u5 u6 => ?_⟩
    refine ev_aload_n i_Md_extent_34 rfl ?_
    refine ev_get i_Md_extent_35 o4 rfl ?_
    refine ev_if_neN i_Md_extent_38 (by omega) (fun hc_38 => ?_) (fun hc_38 => ?_)
    · skip
      exfalso; omega
    · skip
      refine ev_iload i_Md_extent_41 rfl ?_
      refine ev_aload_n i_Md_extent_43 rfl ?_
      refine ev_get i_Md_extent_44 o4 rfl ?_
      refine ev_iconstN (v := 0) i_Md_extent_47 (by decide) ?_
      refine ev_ialdN i_Md_extent_48 w4 (by decide) (by decide) ?_
      rw [hw]
      refine ev_icmp_gtN i_Md_extent_49 (by omega) (by omega) (fun hc_49 => ?_) (fun hc_49 => ?_)
      · skip
        refine ev_dload_n i_Md_extent_104 rfl ?_
        exact ev_dret i_Md_extent_105 rfl
      · skip
        exfalso; omega
  | succ k ih =>
    intro i hik z hz
    have h2 := DV.pickMin hz (hv i (by omega))
    obtain ⟨z1, d1, kx⟩ := ih (i + 1) (by omega) _ (by show DV _ (if v i < loI v i then v i else loI v i); exact h2)
    refine ⟨z1, d1, fun d u5 u6 => ?_⟩
    refine ev_aload_n i_Md_extent_34 rfl ?_
    refine ev_get i_Md_extent_35 o4 rfl ?_
    refine ev_if_neN i_Md_extent_38 (by omega) (fun hc_38 => ?_) (fun hc_38 => ?_)
    · skip
      exfalso; omega
    · skip
      refine ev_iload i_Md_extent_41 rfl ?_
      refine ev_aload_n i_Md_extent_43 rfl ?_
      refine ev_get i_Md_extent_44 o4 rfl ?_
      refine ev_iconstN (v := 0) i_Md_extent_47 (by decide) ?_
      refine ev_ialdN i_Md_extent_48 w4 (by decide) (by decide) ?_
      rw [hw]
      refine ev_icmp_gtN i_Md_extent_49 (by omega) (by omega) (fun hc_49 => ?_) (fun hc_49 => ?_)
      · skip
        exfalso; omega
      · skip
        refine ev_iload_n i_Md_extent_52 rfl ?_
        refine ev_iconstN (v := 2) i_Md_extent_53 (by decide) ?_
        refine ev_icmp_geN i_Md_extent_54 (by omega) (by omega) (fun hc_54 => ?_) (fun hc_54 => ?_)
        · skip
          refine ev_aload_n i_Md_extent_67 rfl ?_
          refine ev_get i_Md_extent_68 o4 rfl ?_
          refine ev_iload i_Md_extent_71 rfl ?_
          refine ev_daldN i_Md_extent_73 hf (by omega) (by decide) ?_
          refine ev_dst_5 i_Md_extent_74 rfl ?_
          refine ev_iload_n i_Md_extent_76 rfl ?_
          refine ev_iconstN (v := 2) i_Md_extent_77 (by decide) ?_
          refine ev_iremN i_Md_extent_78 (by decide) (by decide) (by decide) ?_
          refine ev_if_neN i_Md_extent_79 (by omega) (fun hc_79 => ?_) (fun hc_79 => ?_)
          · skip
            exfalso; omega
          · skip
            refine ev_dload_n i_Md_extent_82 rfl ?_
            refine ev_dload i_Md_extent_83 rfl ?_
            refine ev_mminD i_Md_extent_85 hz (hv i (by omega)) rfl (Nat.le_of_ble_eq_true rfl) ?_
            refine ev_goto i_Md_extent_88 ?_
            refine ev_dst_n_2 i_Md_extent_97 rfl ?_
            refine ev_iincN_4 (c := 1) i_Md_extent_98 (by decide) rfl ?_
            refine ev_goto i_Md_extent_101 ?_
            exact kx d _ _
        · skip
          exfalso; omega
theorem lp_ext3 {scr : Scr} {l : Launch} {S : Sto} {q2 q3 q4 q5 : Int32} {mo sc : Int32} {n : Nat} {gw : Nat → Int32} {f : Nat → UInt64} {v : Nat → Int} (o4 : S.1[105]? = some (mObj (nI 0) q2 q3 q4 q5 mo sc)) (w4 : S.1[107]? = some (aI 61 gw)) (hw : gw 0 = nI n) (hn : n ≤ 60) (hf : S.1[128]? = some (aD 61 f)) (hv : ∀ j, j < n + 1 → DV (f j) (v j)) : ∀ (k i : Nat), i + k = n + 1 → ∀ z, DV z (hiI v i) → ∃ z1, DV z1 (hiI v (n + 1)) ∧ ∀ d u5 u6, Ev scr l (d + 1) M_Md_extent 34 [some (.ref 105), some (.int (nI 3)), some (.double z), none, some (.int (nI i)), u5, u6] [] S (.inl (some (.double z1)), S) := by
  intro k
  induction k with
  | zero =>
    intro i hik z hz
    have e : i = n + 1 := by omega
    subst e
    refine ⟨z, hz, fun d u5 u6 => ?_⟩
    refine ev_aload_n i_Md_extent_34 rfl ?_
    refine ev_get i_Md_extent_35 o4 rfl ?_
    refine ev_if_neN i_Md_extent_38 (by omega) (fun hc_38 => ?_) (fun hc_38 => ?_)
    · skip
      exfalso; omega
    · skip
      refine ev_iload i_Md_extent_41 rfl ?_
      refine ev_aload_n i_Md_extent_43 rfl ?_
      refine ev_get i_Md_extent_44 o4 rfl ?_
      refine ev_iconstN (v := 0) i_Md_extent_47 (by decide) ?_
      refine ev_ialdN i_Md_extent_48 w4 (by decide) (by decide) ?_
      rw [hw]
      refine ev_icmp_gtN i_Md_extent_49 (by omega) (by omega) (fun hc_49 => ?_) (fun hc_49 => ?_)
      · skip
        refine ev_dload_n i_Md_extent_104 rfl ?_
        exact ev_dret i_Md_extent_105 rfl
      · skip
        exfalso; omega
  | succ k ih =>
    intro i hik z hz
    have h2 := DV.pickMax hz (hv i (by omega))
    obtain ⟨z1, d1, kx⟩ := ih (i + 1) (by omega) _ (by show DV _ (if hiI v i < v i then v i else hiI v i); exact h2)
    refine ⟨z1, d1, fun d u5 u6 => ?_⟩
    refine ev_aload_n i_Md_extent_34 rfl ?_
    refine ev_get i_Md_extent_35 o4 rfl ?_
    refine ev_if_neN i_Md_extent_38 (by omega) (fun hc_38 => ?_) (fun hc_38 => ?_)
    · skip
      exfalso; omega
    · skip
      refine ev_iload i_Md_extent_41 rfl ?_
      refine ev_aload_n i_Md_extent_43 rfl ?_
      refine ev_get i_Md_extent_44 o4 rfl ?_
      refine ev_iconstN (v := 0) i_Md_extent_47 (by decide) ?_
      refine ev_ialdN i_Md_extent_48 w4 (by decide) (by decide) ?_
      rw [hw]
      refine ev_icmp_gtN i_Md_extent_49 (by omega) (by omega) (fun hc_49 => ?_) (fun hc_49 => ?_)
      · skip
        exfalso; omega
      · skip
        refine ev_iload_n i_Md_extent_52 rfl ?_
        refine ev_iconstN (v := 2) i_Md_extent_53 (by decide) ?_
        refine ev_icmp_geN i_Md_extent_54 (by omega) (by omega) (fun hc_54 => ?_) (fun hc_54 => ?_)
        · skip
          refine ev_aload_n i_Md_extent_67 rfl ?_
          refine ev_get i_Md_extent_68 o4 rfl ?_
          refine ev_iload i_Md_extent_71 rfl ?_
          refine ev_daldN i_Md_extent_73 hf (by omega) (by decide) ?_
          refine ev_dst_5 i_Md_extent_74 rfl ?_
          refine ev_iload_n i_Md_extent_76 rfl ?_
          refine ev_iconstN (v := 2) i_Md_extent_77 (by decide) ?_
          refine ev_iremN i_Md_extent_78 (by decide) (by decide) (by decide) ?_
          refine ev_if_neN i_Md_extent_79 (by omega) (fun hc_79 => ?_) (fun hc_79 => ?_)
          · skip
            refine ev_dload_n i_Md_extent_91 rfl ?_
            refine ev_dload i_Md_extent_92 rfl ?_
            refine ev_mmaxD i_Md_extent_94 hz (hv i (by omega)) rfl (Nat.le_of_ble_eq_true rfl) ?_
            refine ev_dst_n_2 i_Md_extent_97 rfl ?_
            refine ev_iincN_4 (c := 1) i_Md_extent_98 (by decide) rfl ?_
            refine ev_goto i_Md_extent_101 ?_
            exact kx d _ _
          · skip
            exfalso; omega
        · skip
          exfalso; omega
theorem m_ext_1 {scr : Scr} {l : Launch} {S : Sto} {σ : Sg} {th : Nat} {q : Int32} (h : MInv th σ S) (hq : ¬ inR 4 q) : MRun scr l 3 M_Md_extent [.ref 105, .int q] S (some (.double FP.dconst0)) 1 σ := by
  refine MRun.th h (fun dr mo sc h0 d => ?_)
  have o1 : (S.put 105 (mO 1 σ dr mo sc)).1[105]? = _ := put_self h0
  refine MetA.of rfl (by decide +kernel) (Nat.le_of_ble_eq_true rfl) ?_
  refine ev_aload_n i_Md_extent_0 rfl ?_
  refine ev_iload_n i_Md_extent_1 rfl ?_
  refine ev_iconstN (v := 0) i_Md_extent_2 (by decide) ?_
  refine ev_iconstN (v := 3) i_Md_extent_3 (by decide) ?_
  refine ev_callS3 i_Md_extent_4 rfl (Nat.le_of_ble_eq_true rfl) (m_in.2 (fun z => hq ((inR_inB (n := 4) (by decide) (by decide)).mpr z))) ?_
  refine ev_if_neN i_Md_extent_7 (by omega) (fun hc_7 => ?_) (fun hc_7 => ?_)
  · skip
    exfalso; omega
  · skip
    refine ev_iconstN (v := 1) i_Md_extent_10 (by decide) ?_
    refine ev_goto i_Md_extent_11 ?_
    refine ev_mput_thrown i_Md_extent_26 h0 ?_
    refine ev_dconst0 i_Md_extent_29 ?_
    refine ev_dst_n_2 i_Md_extent_30 rfl ?_
    refine ev_iconstN (v := 0) i_Md_extent_31 (by decide) ?_
    refine ev_ist_4 i_Md_extent_32 rfl ?_
    refine ev_aload_n i_Md_extent_34 rfl ?_
    refine ev_get i_Md_extent_35 o1 rfl ?_
    refine ev_if_neN i_Md_extent_38 (by omega) (fun hc_38 => ?_) (fun hc_38 => ?_)
    · skip
      refine ev_dload_n i_Md_extent_104 rfl ?_
      exact ev_dret i_Md_extent_105 rfl
    · skip
      exfalso; omega
theorem inB_of (s : Nat) (h : s < 4 := by decide) : inB (nI s) (nI 0) (nI 3) := (inR_inB (n := 4) (by decide) (by decide)).mp (inR.of (by decide) h)
theorem m_ext {scr : Scr} {l : Launch} {S : Sto} {σ : Sg} {th : Nat} {s : Nat} {G : Fig} (h : MInv th σ S) (hs : s < 4) (hG : fgS σ = some G) : ∃ z, DV z (extI σ s) ∧ MRun scr l 3 M_Md_extent [.ref 105, .int (nI s)] S (some (.double z)) 0 σ := by
  obtain ⟨dr0, mo0, sc0, h0⟩ := h.get
  obtain ⟨dr, S3, m3, p3, ok3, f3⟩ := m_carryOut (scr := scr) (l := l) h
  rw [hG, show bI (some G).isSome = 1 from rfl] at m3
  obtain ⟨-, ⟨gw, wd, hx⟩, -⟩ := h.2.2.1
  have hn60 := hx.2.1
  have s3 := p3 G hG
  have o3 := s3.1
  obtain ⟨i4, F4⟩ := h.drawn (k := 0) f3 ok3 o3
  have o4 := put_self (c := mObj (nI 0) (nI σ.1.length) (nI σ.2.2.2.2.1.length) (nI (bI σ.2.2.2.1)) dr (nI G.2.2.2.2) (nI G.2.2.1.length)) o3
  have w4 := F4.at wd (show 107 ∉ caK by decide)
  rcases (show s = 0 ∨ s = 1 ∨ s = 2 ∨ s = 3 by omega) with rfl | rfl | rfl | rfl
  · obtain ⟨f, hf, hv⟩ := s3.2.1
    obtain ⟨z, hz, kx⟩ := lp_ext0 (scr := scr) (l := l) (v := fun j => vOf (ptS σ j).1) o4 w4 hx.1 hn60 (put_at hf (by decide)) (fun j hj => by rw [hv j hj]; exact (pt_val hG hn60 hj).1.1) (σ.2.1.2.1.length + 1) 0 (by omega) FP.dconst0 DV.zero
    refine ⟨z, hz, _, fun d => ?_, i4, F4.m (by decide)⟩
    refine MetA.of rfl (by decide +kernel) (Nat.le_of_ble_eq_true rfl) ?_
    refine ev_aload_n i_Md_extent_0 rfl ?_
    refine ev_iload_n i_Md_extent_1 rfl ?_
    refine ev_iconstN (v := 0) i_Md_extent_2 (by decide) ?_
    refine ev_iconstN (v := 3) i_Md_extent_3 (by decide) ?_
    refine ev_callS3 i_Md_extent_4 rfl (Nat.le_of_ble_eq_true rfl) (m_in.1 (inB_of 0)) ?_
    refine ev_if_neN i_Md_extent_7 (by omega) (fun hc_7 => ?_) (fun hc_7 => ?_)
    · skip
      refine ev_aload_n i_Md_extent_14 rfl ?_
      refine ev_callV0 i_Md_extent_15 rfl h0 (Nat.le_of_ble_eq_true rfl) (m3 _) ?_
      refine ev_if_neN i_Md_extent_18 (by omega) (fun hc_18 => ?_) (fun hc_18 => ?_)
      · skip
        refine ev_iconstN (v := 0) i_Md_extent_25 (by decide) ?_
        refine ev_mput_thrown i_Md_extent_26 o3 ?_
        refine ev_dconst0 i_Md_extent_29 ?_
        refine ev_dst_n_2 i_Md_extent_30 rfl ?_
        refine ev_iconstN (v := 0) i_Md_extent_31 (by decide) ?_
        refine ev_ist_4 i_Md_extent_32 rfl ?_
        exact kx _ _ _
      · skip
        exfalso; omega
    · skip
      exfalso; omega
  · obtain ⟨f, hf, hv⟩ := s3.2.1
    obtain ⟨z, hz, kx⟩ := lp_ext1 (scr := scr) (l := l) (v := fun j => vOf (ptS σ j).1) o4 w4 hx.1 hn60 (put_at hf (by decide)) (fun j hj => by rw [hv j hj]; exact (pt_val hG hn60 hj).1.1) (σ.2.1.2.1.length + 1) 0 (by omega) FP.dconst0 DV.zero
    refine ⟨z, hz, _, fun d => ?_, i4, F4.m (by decide)⟩
    refine MetA.of rfl (by decide +kernel) (Nat.le_of_ble_eq_true rfl) ?_
    refine ev_aload_n i_Md_extent_0 rfl ?_
    refine ev_iload_n i_Md_extent_1 rfl ?_
    refine ev_iconstN (v := 0) i_Md_extent_2 (by decide) ?_
    refine ev_iconstN (v := 3) i_Md_extent_3 (by decide) ?_
    refine ev_callS3 i_Md_extent_4 rfl (Nat.le_of_ble_eq_true rfl) (m_in.1 (inB_of 1)) ?_
    refine ev_if_neN i_Md_extent_7 (by omega) (fun hc_7 => ?_) (fun hc_7 => ?_)
    · skip
      refine ev_aload_n i_Md_extent_14 rfl ?_
      refine ev_callV0 i_Md_extent_15 rfl h0 (Nat.le_of_ble_eq_true rfl) (m3 _) ?_
      refine ev_if_neN i_Md_extent_18 (by omega) (fun hc_18 => ?_) (fun hc_18 => ?_)
      · skip
        refine ev_iconstN (v := 0) i_Md_extent_25 (by decide) ?_
        refine ev_mput_thrown i_Md_extent_26 o3 ?_
        refine ev_dconst0 i_Md_extent_29 ?_
        refine ev_dst_n_2 i_Md_extent_30 rfl ?_
        refine ev_iconstN (v := 0) i_Md_extent_31 (by decide) ?_
        refine ev_ist_4 i_Md_extent_32 rfl ?_
        exact kx _ _ _
      · skip
        exfalso; omega
    · skip
      exfalso; omega
  · obtain ⟨f, hf, hv⟩ := s3.2.2.1
    obtain ⟨z, hz, kx⟩ := lp_ext2 (scr := scr) (l := l) (v := fun j => vOf (ptS σ j).2) o4 w4 hx.1 hn60 (put_at hf (by decide)) (fun j hj => by rw [hv j hj]; exact (pt_val hG hn60 hj).2.1) (σ.2.1.2.1.length + 1) 0 (by omega) FP.dconst0 DV.zero
    refine ⟨z, hz, _, fun d => ?_, i4, F4.m (by decide)⟩
    refine MetA.of rfl (by decide +kernel) (Nat.le_of_ble_eq_true rfl) ?_
    refine ev_aload_n i_Md_extent_0 rfl ?_
    refine ev_iload_n i_Md_extent_1 rfl ?_
    refine ev_iconstN (v := 0) i_Md_extent_2 (by decide) ?_
    refine ev_iconstN (v := 3) i_Md_extent_3 (by decide) ?_
    refine ev_callS3 i_Md_extent_4 rfl (Nat.le_of_ble_eq_true rfl) (m_in.1 (inB_of 2)) ?_
    refine ev_if_neN i_Md_extent_7 (by omega) (fun hc_7 => ?_) (fun hc_7 => ?_)
    · skip
      refine ev_aload_n i_Md_extent_14 rfl ?_
      refine ev_callV0 i_Md_extent_15 rfl h0 (Nat.le_of_ble_eq_true rfl) (m3 _) ?_
      refine ev_if_neN i_Md_extent_18 (by omega) (fun hc_18 => ?_) (fun hc_18 => ?_)
      · skip
        refine ev_iconstN (v := 0) i_Md_extent_25 (by decide) ?_
        refine ev_mput_thrown i_Md_extent_26 o3 ?_
        refine ev_dconst0 i_Md_extent_29 ?_
        refine ev_dst_n_2 i_Md_extent_30 rfl ?_
        refine ev_iconstN (v := 0) i_Md_extent_31 (by decide) ?_
        refine ev_ist_4 i_Md_extent_32 rfl ?_
        exact kx _ _ _
      · skip
        exfalso; omega
    · skip
      exfalso; omega
  · obtain ⟨f, hf, hv⟩ := s3.2.2.1
    obtain ⟨z, hz, kx⟩ := lp_ext3 (scr := scr) (l := l) (v := fun j => vOf (ptS σ j).2) o4 w4 hx.1 hn60 (put_at hf (by decide)) (fun j hj => by rw [hv j hj]; exact (pt_val hG hn60 hj).2.1) (σ.2.1.2.1.length + 1) 0 (by omega) FP.dconst0 DV.zero
    refine ⟨z, hz, _, fun d => ?_, i4, F4.m (by decide)⟩
    refine MetA.of rfl (by decide +kernel) (Nat.le_of_ble_eq_true rfl) ?_
    refine ev_aload_n i_Md_extent_0 rfl ?_
    refine ev_iload_n i_Md_extent_1 rfl ?_
    refine ev_iconstN (v := 0) i_Md_extent_2 (by decide) ?_
    refine ev_iconstN (v := 3) i_Md_extent_3 (by decide) ?_
    refine ev_callS3 i_Md_extent_4 rfl (Nat.le_of_ble_eq_true rfl) (m_in.1 (inB_of 3)) ?_
    refine ev_if_neN i_Md_extent_7 (by omega) (fun hc_7 => ?_) (fun hc_7 => ?_)
    · skip
      refine ev_aload_n i_Md_extent_14 rfl ?_
      refine ev_callV0 i_Md_extent_15 rfl h0 (Nat.le_of_ble_eq_true rfl) (m3 _) ?_
      refine ev_if_neN i_Md_extent_18 (by omega) (fun hc_18 => ?_) (fun hc_18 => ?_)
      · skip
        refine ev_iconstN (v := 0) i_Md_extent_25 (by decide) ?_
        refine ev_mput_thrown i_Md_extent_26 o3 ?_
        refine ev_dconst0 i_Md_extent_29 ?_
        refine ev_dst_n_2 i_Md_extent_30 rfl ?_
        refine ev_iconstN (v := 0) i_Md_extent_31 (by decide) ?_
        refine ev_ist_4 i_Md_extent_32 rfl ?_
        exact kx _ _ _
      · skip
        exfalso; omega
    · skip
      exfalso; omega
theorem m_ext_2 {scr : Scr} {l : Launch} {S : Sto} {σ : Sg} {th : Nat} {s : Nat} (h : MInv th σ S) (hs : s < 4) (hG : fgS σ = none) : MRun scr l 3 M_Md_extent [.ref 105, .int (nI s)] S (some (.double FP.dconst0)) 2 σ := by
  obtain ⟨dr0, mo0, sc0, h0⟩ := h.get
  obtain ⟨dr, S3, m3, p3, ok3, f3⟩ := m_carryOut (scr := scr) (l := l) h
  rw [hG, show bI (none : Option Fig).isSome = 0 from rfl] at m3
  obtain ⟨mo, sc, o3⟩ := ok3.1
  obtain ⟨i4, F4⟩ := h.drawn (k := 2) f3 ok3 o3
  have o4 := put_self (c := mObj (nI 2) (nI σ.1.length) (nI σ.2.2.2.2.1.length) (nI (bI σ.2.2.2.1)) dr mo sc) o3
  refine ⟨_, fun d => ?_, i4, F4.m (by decide)⟩
  refine MetA.of rfl (by decide +kernel) (Nat.le_of_ble_eq_true rfl) ?_
  refine ev_aload_n i_Md_extent_0 rfl ?_
  refine ev_iload_n i_Md_extent_1 rfl ?_
  refine ev_iconstN (v := 0) i_Md_extent_2 (by decide) ?_
  refine ev_iconstN (v := 3) i_Md_extent_3 (by decide) ?_
  refine ev_callS3 i_Md_extent_4 rfl (Nat.le_of_ble_eq_true rfl) (m_in.1 ((inR_inB (n := 4) (by decide) (by decide)).mp (inR.of (by decide) hs))) ?_
  refine ev_if_neN i_Md_extent_7 (by omega) (fun hc_7 => ?_) (fun hc_7 => ?_)
  · skip
    refine ev_aload_n i_Md_extent_14 rfl ?_
    refine ev_callV0 i_Md_extent_15 rfl h0 (Nat.le_of_ble_eq_true rfl) (m3 _) ?_
    refine ev_if_neN i_Md_extent_18 (by omega) (fun hc_18 => ?_) (fun hc_18 => ?_)
    · skip
      exfalso; omega
    · skip
      refine ev_iconstN (v := 2) i_Md_extent_21 (by decide) ?_
      refine ev_goto i_Md_extent_22 ?_
      refine ev_mput_thrown i_Md_extent_26 o3 ?_
      refine ev_dconst0 i_Md_extent_29 ?_
      refine ev_dst_n_2 i_Md_extent_30 rfl ?_
      refine ev_iconstN (v := 0) i_Md_extent_31 (by decide) ?_
      refine ev_ist_4 i_Md_extent_32 rfl ?_
      refine ev_aload_n i_Md_extent_34 rfl ?_
      refine ev_get i_Md_extent_35 o4 rfl ?_
      refine ev_if_neN i_Md_extent_38 (by omega) (fun hc_38 => ?_) (fun hc_38 => ?_)
      · skip
        refine ev_dload_n i_Md_extent_104 rfl ?_
        exact ev_dret i_Md_extent_105 rfl
      · skip
        exfalso; omega
  · skip
    exfalso; omega

/-! the class Figure 3: draw; x.segmentCount, x.inkLength, x.extent, x.openDepth -/
theorem cmpI (a b : Int) : compare a b = if a < b then .lt else if a = b then .eq else .gt := rfl
theorem cmpv {x y : UInt64} {a b : Int} {op : CmpOp} (hx : DV x a) (hy : DV y b) : Op.cmpValue (FP.dcmp x y) op = if a < b then -1 else if a = b then 0 else 1 := by
  rw [hx.cmp hy, cmpI]
  by_cases h1 : a < b
  · rw [if_pos h1, if_pos h1]; rfl
  · rw [if_neg h1, if_neg h1]
    by_cases h2 : a = b
    · rw [if_pos h2, if_pos h2]; rfl
    · rw [if_neg h2, if_neg h2]; rfl
section RulesDi
variable {scr : Scr} {l : Launch} {d : Nat} {M : Mth} {pc tgt : Nat} {L : List (Option Value)} {st : List Value} {S : Sto} {r : Res} {x y : UInt64} {op : CmpOp} {a b : Int}
theorem ev_dif_ge (h1 : iIns M pc (.dcmp op) 1) (h2 : iIf M (pc + 1) .ge tgt) (hx : DV x a) (hy : DV y b) (kt : ¬ a < b → Ev scr l d M tgt L st S r) (kf : a < b → Ev scr l d M (pc + 1 + 3) L st S r) : Ev scr l d M pc L (.double y :: .double x :: st) S r := by
  refine ev_dcmp h1 ?_
  rw [cmpv hx hy]
  by_cases q : a < b
  · rw [if_pos q]
    exact ev_if_ge h2 (fun z => absurd z (by decide)) (fun _ => kf q)
  · rw [if_neg q]
    refine ev_if_ge h2 (fun _ => kt q) (fun z => ?_)
    by_cases q2 : a = b
    · rw [if_pos q2] at z; exact absurd (by decide) z
    · rw [if_neg q2] at z; exact absurd (by decide) z
theorem ev_dif_le (h1 : iIns M pc (.dcmp op) 1) (h2 : iIf M (pc + 1) .le tgt) (hx : DV x a) (hy : DV y b) (kt : ¬ b < a → Ev scr l d M tgt L st S r) (kf : b < a → Ev scr l d M (pc + 1 + 3) L st S r) : Ev scr l d M pc L (.double y :: .double x :: st) S r := by
  refine ev_dcmp h1 ?_
  rw [cmpv hx hy]
  by_cases q : a < b
  · rw [if_pos q]
    exact ev_if_le h2 (fun _ => kt (by omega)) (fun z => absurd (by decide) z)
  · rw [if_neg q]
    by_cases q2 : a = b
    · rw [if_pos q2]
      exact ev_if_le h2 (fun _ => kt (by omega)) (fun z => absurd (by decide) z)
    · rw [if_neg q2]
      exact ev_if_le h2 (fun z => absurd z (by decide)) (fun _ => kf (by omega))
theorem ev_dif_gt (h1 : iIns M pc (.dcmp op) 1) (h2 : iIf M (pc + 1) .gt tgt) (hx : DV x a) (hy : DV y b) (kt : b < a → Ev scr l d M tgt L st S r) (kf : ¬ b < a → Ev scr l d M (pc + 1 + 3) L st S r) : Ev scr l d M pc L (.double y :: .double x :: st) S r := by
  refine ev_dcmp h1 ?_
  rw [cmpv hx hy]
  by_cases q : a < b
  · rw [if_pos q]
    exact ev_if_gt h2 (fun z => absurd z (by decide)) (fun _ => kf (by omega))
  · rw [if_neg q]
    by_cases q2 : a = b
    · rw [if_pos q2]
      exact ev_if_gt h2 (fun z => absurd z (by decide)) (fun _ => kf (by omega))
    · rw [if_neg q2]
      exact ev_if_gt h2 (fun _ => kt (by omega)) (fun z => absurd (by decide) z)
theorem ev_dif_lt (h1 : iIns M pc (.dcmp op) 1) (h2 : iIf M (pc + 1) .lt tgt) (hx : DV x a) (hy : DV y b) (kt : a < b → Ev scr l d M tgt L st S r) (kf : ¬ a < b → Ev scr l d M (pc + 1 + 3) L st S r) : Ev scr l d M pc L (.double y :: .double x :: st) S r := by
  refine ev_dcmp h1 ?_
  rw [cmpv hx hy]
  by_cases q : a < b
  · rw [if_pos q]
    exact ev_if_lt h2 (fun _ => kt q) (fun z => absurd (by decide) z)
  · rw [if_neg q]
    refine ev_if_lt h2 (fun z => ?_) (fun _ => kf q)
    by_cases q2 : a = b
    · rw [if_pos q2] at z; exact absurd z (by decide)
    · rw [if_neg q2] at z; exact absurd z (by decide)
end RulesDi
theorem FiS.keep {scr : Scr} {l : Launch} {S : Sto} {pts : Nat} {F : Fig} {p : Nat → UInt64 × UInt64} (h : FiS S pts F p) (hp : pts < 61) (he : p pts = (F.1.1, F.1.2.1)) : ∃ S1, (∀ d, MetA scr l d M_Fi_keepPoint [.ref 95] S (.inl none, S1)) ∧ FiS S1 (pts + 1) F p ∧ Fr fiK S S1 := by
  obtain ⟨o0, ⟨f1, h1, v1⟩, ⟨f2, h2, v2⟩, a3, a4⟩ := h
  have hF : Fr [95, 96, 97] S ((((S.put 96 (aD 61 (vf_upd f1 pts F.1.1))).put 97 (aD 61 (vf_upd f2 pts F.1.2.1)))).put 95 (fiF (pts + 1) F)) := ((Fr.put _ _ (by simp)).tr (Fr.put _ _ (by simp))).tr (Fr.put _ _ (by simp))
  refine ⟨_, fun d => g_keep o0 h1 h2 hp, ⟨put_self (put_at (put_at o0 (by decide)) (by decide)), ⟨_, put_at (put_at (put_self h1) (by decide)) (by decide), fun j hj => ?_⟩, ⟨_, put_at (put_self (put_at h2 (by decide))) (by decide), fun j hj => ?_⟩, a3.fr hF (by decide), a4.fr hF ⟨by decide, by decide⟩⟩, hF.mono (by simp)⟩
  · by_cases z : j = pts
    · rw [z, updD_at]; exact (congrArg Prod.fst he).symm
    · rw [updD_ne z]; exact v1 j (by omega)
  · by_cases z : j = pts
    · rw [z, updD_at]; exact (congrArg Prod.snd he).symm
    · rw [updD_ne z]; exact v2 j (by omega)
theorem lp_figure {scr : Scr} {l : Launch} {S : Sto} {w a c : Nat} {cm : Nat → Nat} {xs : List Nat} {g : Nat → Int32} (hx : WordAt S w a xs) (hcm : S.1[c]? = some (aI 6 g)) (hg : ∀ j, j < 6 → g j = nI (cm j) ∧ cm j < 7) (hw : w ∉ fiK ∧ a ∉ fiK ∧ c ∉ fiK) : ∀ (k i : Nat), i + k = xs.length → ∀ S2 F, figN cm xs i = some F → FiS S2 (i + 1) F (ptN cm xs) → Fr fiK S S2 → EvX scr l 4 M_Fi_draw 10 [some (.ref 95), some (.ref w), some (.ref c), some (.int (nI i))] S2 (some (.int (nI (bI (figN cm xs xs.length).isSome)))) (fun S3 => (∀ G, figN cm xs xs.length = some G → FiS S3 (xs.length + 1) G (ptN cm xs)) ∧ FiOK S3 ∧ Fr fiK S S3) := by
  have hn60 := hx.2.1
  intro k
  induction k with
  | zero =>
    intro i hik S2 F hF hS hFr
    have z : i = xs.length := by omega
    subst z
    have w2 := (hx.fr hFr ⟨hw.1, hw.2.1⟩).1
    refine ⟨S2, fun d => ?_, fun G hG => ?_, hS.ok, hFr⟩
    · rw [hF, show bI (some F).isSome = 1 from rfl]
      refine ev_iload_n i_Fi_draw_10 rfl ?_
      refine ev_aload_n i_Fi_draw_11 rfl ?_
      refine ev_get i_Fi_draw_12 w2 rfl ?_
      refine ev_icmp_geN i_Fi_draw_15 (by omega) (by omega) (fun hc_15 => ?_) (fun hc_15 => ?_)
      · skip
        refine ev_iconstN (v := 1) i_Fi_draw_45 (by decide) ?_
        exact ev_iret i_Fi_draw_46 rfl (by first | rfl | decide)
      · skip
        exfalso; omega
    · rw [hF] at hG
      cases hG
      exact hS
  | succ k ih =>
    intro i hik S2 F hF hS hFr
    obtain ⟨w2, -, hx6, f, x2, xv⟩ := hx.fr hFr ⟨hw.1, hw.2.1⟩
    have c2 := hFr.at hcm hw.2.2
    have hlt := hx6 i (by omega)
    have hV := fig_ok (by omega) hF
    have o2 := hS.1
    have hgc := g_carry (scr := scr) (l := l) hS hV (by omega) (hg _ hlt).2
    have hs := fig_s hF
    cases hG : carry (cm (xs.getD i 0)) F with
    | none =>
      have hno := hgc.2 hG
      rw [hG] at hs
      have hnn := fig_none hs k
      rw [show i + 1 + k = xs.length by omega] at hnn
      refine ⟨S2, fun d => ?_, fun G hG => ?_, hS.ok, hFr⟩
      · rw [hnn, show bI (none : Option Fig).isSome = 0 from rfl]
        refine ev_iload_n i_Fi_draw_10 rfl ?_
        refine ev_aload_n i_Fi_draw_11 rfl ?_
        refine ev_get i_Fi_draw_12 w2 rfl ?_
        refine ev_icmp_geN i_Fi_draw_15 (by omega) (by omega) (fun hc_15 => ?_) (fun hc_15 => ?_)
        · skip
          exfalso; omega
        · skip
          refine ev_aload_n i_Fi_draw_18 rfl ?_
          refine ev_aload_n i_Fi_draw_19 rfl ?_
          refine ev_aload_n i_Fi_draw_20 rfl ?_
          refine ev_get i_Fi_draw_21 w2 rfl ?_
          refine ev_iload_n i_Fi_draw_24 rfl ?_
          refine ev_ialdN i_Fi_draw_25 x2 (by omega) (by decide) ?_
          rw [xv i (by omega)]
          refine ev_ialdN i_Fi_draw_26 c2 hlt (by decide) ?_
          rw [(hg _ hlt).1]
          refine ev_callV1 i_Fi_draw_27 rfl o2 (Nat.le_of_ble_eq_true rfl) (hno _) ?_
          refine ev_if_neN i_Fi_draw_30 (by omega) (fun hc_30 => ?_) (fun hc_30 => ?_)
          · skip
            exfalso; omega
          · skip
            refine ev_iconstN (v := 0) i_Fi_draw_33 (by decide) ?_
            exact ev_iret i_Fi_draw_34 rfl (by first | rfl | decide)
      · rw [hnn] at hG; cases hG
    | some G =>
      obtain ⟨S3, m3, s3, f3⟩ := hgc.1 G hG
      rw [hG] at hs
      have o3 := s3.1
      obtain ⟨S4, m4, s4, f4⟩ := s3.keep (scr := scr) (l := l) (by omega) (pt_eq hs)
      refine EvX.go (ih (i + 1) (by omega) S4 G hs s4 ((hFr.tr f3).tr f4)) (fun d r kx => ?_)
      refine ev_iload_n i_Fi_draw_10 rfl ?_
      refine ev_aload_n i_Fi_draw_11 rfl ?_
      refine ev_get i_Fi_draw_12 w2 rfl ?_
      refine ev_icmp_geN i_Fi_draw_15 (by omega) (by omega) (fun hc_15 => ?_) (fun hc_15 => ?_)
      · skip
        exfalso; omega
      · skip
        refine ev_aload_n i_Fi_draw_18 rfl ?_
        refine ev_aload_n i_Fi_draw_19 rfl ?_
        refine ev_aload_n i_Fi_draw_20 rfl ?_
        refine ev_get i_Fi_draw_21 w2 rfl ?_
        refine ev_iload_n i_Fi_draw_24 rfl ?_
        refine ev_ialdN i_Fi_draw_25 x2 (by omega) (by decide) ?_
        rw [xv i (by omega)]
        refine ev_ialdN i_Fi_draw_26 c2 hlt (by decide) ?_
        rw [(hg _ hlt).1]
        refine ev_callV1 i_Fi_draw_27 rfl o2 (Nat.le_of_ble_eq_true rfl) (m3 _) ?_
        refine ev_if_neN i_Fi_draw_30 (by omega) (fun hc_30 => ?_) (fun hc_30 => ?_)
        · skip
          refine ev_aload_n i_Fi_draw_35 rfl ?_
          refine ev_callV0 i_Fi_draw_36 rfl o3 (Nat.le_of_ble_eq_true rfl) (m4 _) ?_
          refine ev_iincN_3 (c := 1) i_Fi_draw_39 (by decide) rfl ?_
          refine ev_goto i_Fi_draw_42 ?_
          exact kx
        · skip
          exfalso; omega
theorem g_drawAll {scr : Scr} {l : Launch} {S : Sto} {w a c : Nat} {cm : Nat → Nat} {xs : List Nat} {g : Nat → Int32} (hx : WordAt S w a xs) (hcm : S.1[c]? = some (aI 6 g)) (hg : ∀ j, j < 6 → g j = nI (cm j) ∧ cm j < 7) (hw : w ∉ fiK ∧ a ∉ fiK ∧ c ∉ fiK) (hO : FiOK S) : ∃ S3, (∀ d, MetA scr l (d + 4) M_Fi_draw [.ref 95, .ref w, .ref c] S (.inl (some (.int (nI (bI (figN cm xs xs.length).isSome)))), S3)) ∧ ((∀ G, figN cm xs xs.length = some G → FiS S3 (xs.length + 1) G (ptN cm xs)) ∧ FiOK S3 ∧ Fr fiK S S3) := by
  obtain ⟨x1, x2, x3, x4, x5, e1, e2, e3, e4, f1, f2, f3, f4, g0, ho, h1, h2, h3, h4, h5⟩ := hO
  have hF : Fr [95] S (S.put 95 (fiF 0 fig0)) := Fr.put _ _ (by simp)
  have o1 : (S.put 95 (fiF 0 fig0)).1[95]? = _ := put_self ho
  have s1 : FiS (S.put 95 (fiF 0 fig0)) 0 fig0 (ptN cm xs) := ⟨o1, ⟨f1, put_at h1 (by decide), fun j hj => by omega⟩, ⟨f2, put_at h2 (by decide), fun j hj => by omega⟩, ⟨f3, put_at h3 (by decide), fun j hj => absurd hj (by simp)⟩, f4, g0, put_at h4 (by decide), put_at h5 (by decide), fun j hj => absurd hj (by simp)⟩
  obtain ⟨S2, m2, s2, f2'⟩ := s1.keep (scr := scr) (l := l) (by omega) (pt_eq rfl)
  obtain ⟨S3, m3, p3⟩ := lp_figure (scr := scr) (l := l) hx hcm hg hw xs.length 0 (by omega) S2 fig0 rfl s2 ((hF.mono (by simp)).tr f2')
  refine ⟨S3, fun d => ?_, p3⟩
  refine MetA.of rfl (by decide +kernel) (Nat.le_of_ble_eq_true rfl) ?_
  refine ev_aload_n i_Fi_draw_0 rfl ?_
  refine ev_callV0 i_Fi_draw_1 rfl ho (Nat.le_of_ble_eq_true rfl) (g_begin ho) ?_
  refine ev_aload_n i_Fi_draw_4 rfl ?_
  refine ev_callV0 i_Fi_draw_5 rfl o1 (Nat.le_of_ble_eq_true rfl) (m2 _) ?_
  refine ev_iconstN (v := 0) i_Fi_draw_8 (by decide) ?_
  refine ev_ist_n_3 i_Fi_draw_9 rfl ?_
  exact m3 d
noncomputable abbrev fgS (σ : Sg) : Option Fig := figN σ.2.1.2.2.2 σ.2.1.2.1 σ.2.1.2.1.length
abbrev ptS (σ : Sg) : Nat → UInt64 × UInt64 := ptN σ.2.1.2.2.2 σ.2.1.2.1
theorem XInv.fis {σ : Sg} {S : Sto} (h : XInv σ S) : FiOK S := h.2.2.2.2.2.2.2.2.2.2.2.1
theorem x_drawFig {scr : Scr} {l : Launch} {S : Sto} {σ : Sg} (h : XInv σ S) : (∀ G, fgS σ = some G → ∃ S1, (∀ d, MetA scr l (d + 5) M_Pr_drawFigure [.ref 0] S (.inl none, S1)) ∧ FiS S1 (σ.2.1.2.1.length + 1) G (ptS σ) ∧ XInv σ S1 ∧ Fr xK S S1) ∧ (fgS σ = none → ∃ S1, (∀ d, MetA scr l (d + 5) M_Pr_drawFigure [.ref 0] S (.inr xIse, S1.thrown)) ∧ XInv σ S1 ∧ Fr xK S S1) := by
  obtain ⟨q1, q2, q3, q4, q5, g, hg, q6⟩ := h.2.2.1
  obtain ⟨S3, m3, p3, ok3, f3⟩ := g_drawAll (scr := scr) (l := l) (live_cur h) hg q6 ⟨by decide, by decide, by decide⟩ h.fis
  have hX : XInv σ S3 := h.fi f3 (by decide) ok3
  obtain ⟨x1, x2, x3, x4, x5, e1, e2, e3, e4, f1, f2, f3', f4, g0, ho, -⟩ := id h.fis
  refine ⟨fun G hG => ?_, fun hG => ?_⟩
  · rw [show figN σ.2.1.2.2.2 σ.2.1.2.1 σ.2.1.2.1.length = some G from hG, show bI (some G).isSome = 1 from rfl] at m3
    refine ⟨S3, fun d => ?_, p3 G hG, hX, f3.x (by decide)⟩
    refine MetA.of rfl (by decide +kernel) (Nat.le_of_ble_eq_true rfl) ?_
    refine ev_aload_n i_Pr_drawFigure_0 rfl ?_
    refine ev_get i_Pr_drawFigure_1 h.1 rfl ?_
    refine ev_aload_n i_Pr_drawFigure_4 rfl ?_
    refine ev_get i_Pr_drawFigure_5 h.1 rfl ?_
    refine ev_get i_Pr_drawFigure_8 h.2.2.1.1 rfl ?_
    refine ev_aload_n i_Pr_drawFigure_11 rfl ?_
    refine ev_get i_Pr_drawFigure_12 h.1 rfl ?_
    refine ev_get i_Pr_drawFigure_15 h.2.2.1.1 rfl ?_
    refine ev_callV2 i_Pr_drawFigure_18 rfl ho (Nat.le_of_ble_eq_true rfl) (m3 _) ?_
    refine ev_if_neN i_Pr_drawFigure_21 (by omega) (fun hc_21 => ?_) (fun hc_21 => ?_)
    · skip
      exact ev_vret i_Pr_drawFigure_35 rfl
    · skip
      exfalso; omega
  · rw [show figN σ.2.1.2.2.2 σ.2.1.2.1 σ.2.1.2.1.length = none from hG, show bI (none : Option Fig).isSome = 0 from rfl] at m3
    refine ⟨S3, fun d => ?_, hX, f3.x (by decide)⟩
    refine MetA.of rfl (by decide +kernel) (Nat.le_of_ble_eq_true rfl) ?_
    refine ev_aload_n i_Pr_drawFigure_0 rfl ?_
    refine ev_get i_Pr_drawFigure_1 h.1 rfl ?_
    refine ev_aload_n i_Pr_drawFigure_4 rfl ?_
    refine ev_get i_Pr_drawFigure_5 h.1 rfl ?_
    refine ev_get i_Pr_drawFigure_8 h.2.2.1.1 rfl ?_
    refine ev_aload_n i_Pr_drawFigure_11 rfl ?_
    refine ev_get i_Pr_drawFigure_12 h.1 rfl ?_
    refine ev_get i_Pr_drawFigure_15 h.2.2.1.1 rfl ?_
    refine ev_callV2 i_Pr_drawFigure_18 rfl ho (Nat.le_of_ble_eq_true rfl) (m3 _) ?_
    refine ev_if_neN i_Pr_drawFigure_21 (by omega) (fun hc_21 => ?_) (fun hc_21 => ?_)
    · skip
      exfalso; omega
    · skip
      exact ev_throw i_Pr_drawFigure_24 ex_Ise rfl rfl (Nat.le_of_ble_eq_true rfl)
theorem x_segs {scr : Scr} {l : Launch} {S : Sto} {σ : Sg} {G : Fig} (h : XInv σ S) (hG : fgS σ = some G) : XRun scr l 6 M_Pr_segmentCount [.ref 0] S (some (.int (nI G.2.2.1.length))) σ := by
  obtain ⟨S1, m1, s1, i1, f1⟩ := (x_drawFig (scr := scr) (l := l) h).1 G hG
  refine ⟨S1, fun d => ?_, i1, f1⟩
  refine MetA.of rfl (by decide +kernel) (Nat.le_of_ble_eq_true rfl) ?_
  refine ev_aload_n i_Pr_segmentCount_0 rfl ?_
  refine ev_callV0 i_Pr_segmentCount_1 rfl h.1 (Nat.le_of_ble_eq_true rfl) (m1 _) ?_
  refine ev_aload_n i_Pr_segmentCount_4 rfl ?_
  refine ev_get i_Pr_segmentCount_5 i1.1 rfl ?_
  refine ev_get i_Pr_segmentCount_8 s1.1 rfl ?_
  exact ev_iret i_Pr_segmentCount_11 rfl (by first | rfl | decide)
theorem x_segs_1 {scr : Scr} {l : Launch} {S : Sto} {σ : Sg} (h : XInv σ S) (hG : fgS σ = none) : XThr scr l 6 M_Pr_segmentCount [.ref 0] S xIse σ := by
  obtain ⟨S1, m1, i1, f1⟩ := (x_drawFig (scr := scr) (l := l) h).2 hG
  refine ⟨S1, fun d => ?_, i1, f1⟩
  refine MetA.of rfl (by decide +kernel) (Nat.le_of_ble_eq_true rfl) ?_
  refine ev_aload_n i_Pr_segmentCount_0 rfl ?_
  exact ev_callV0x rfl i_Pr_segmentCount_1 rfl h.1 (Nat.le_of_ble_eq_true rfl) (m1 _)
theorem x_ink {scr : Scr} {l : Launch} {S : Sto} {σ : Sg} {G : Fig} (h : XInv σ S) (hG : fgS σ = some G) : XRun scr l 6 M_Pr_inkLength [.ref 0] S (some (.double G.2.2.2.1)) σ := by
  obtain ⟨S1, m1, s1, i1, f1⟩ := (x_drawFig (scr := scr) (l := l) h).1 G hG
  refine ⟨S1, fun d => ?_, i1, f1⟩
  refine MetA.of rfl (by decide +kernel) (Nat.le_of_ble_eq_true rfl) ?_
  refine ev_aload_n i_Pr_inkLength_0 rfl ?_
  refine ev_callV0 i_Pr_inkLength_1 rfl h.1 (Nat.le_of_ble_eq_true rfl) (m1 _) ?_
  refine ev_aload_n i_Pr_inkLength_4 rfl ?_
  refine ev_get i_Pr_inkLength_5 i1.1 rfl ?_
  refine ev_get i_Pr_inkLength_8 s1.1 rfl ?_
  exact ev_dret i_Pr_inkLength_11 rfl
theorem x_ink_1 {scr : Scr} {l : Launch} {S : Sto} {σ : Sg} (h : XInv σ S) (hG : fgS σ = none) : XThr scr l 6 M_Pr_inkLength [.ref 0] S xIse σ := by
  obtain ⟨S1, m1, i1, f1⟩ := (x_drawFig (scr := scr) (l := l) h).2 hG
  refine ⟨S1, fun d => ?_, i1, f1⟩
  refine MetA.of rfl (by decide +kernel) (Nat.le_of_ble_eq_true rfl) ?_
  refine ev_aload_n i_Pr_inkLength_0 rfl ?_
  exact ev_callV0x rfl i_Pr_inkLength_1 rfl h.1 (Nat.le_of_ble_eq_true rfl) (m1 _)
theorem x_deep {scr : Scr} {l : Launch} {S : Sto} {σ : Sg} {G : Fig} (h : XInv σ S) (hG : fgS σ = some G) : XRun scr l 6 M_Pr_openDepth [.ref 0] S (some (.int (nI G.2.2.2.2))) σ := by
  obtain ⟨S1, m1, s1, i1, f1⟩ := (x_drawFig (scr := scr) (l := l) h).1 G hG
  refine ⟨S1, fun d => ?_, i1, f1⟩
  refine MetA.of rfl (by decide +kernel) (Nat.le_of_ble_eq_true rfl) ?_
  refine ev_aload_n i_Pr_openDepth_0 rfl ?_
  refine ev_callV0 i_Pr_openDepth_1 rfl h.1 (Nat.le_of_ble_eq_true rfl) (m1 _) ?_
  refine ev_aload_n i_Pr_openDepth_4 rfl ?_
  refine ev_get i_Pr_openDepth_5 i1.1 rfl ?_
  refine ev_get i_Pr_openDepth_8 s1.1 rfl ?_
  exact ev_iret i_Pr_openDepth_11 rfl (by first | rfl | decide)
theorem x_deep_1 {scr : Scr} {l : Launch} {S : Sto} {σ : Sg} (h : XInv σ S) (hG : fgS σ = none) : XThr scr l 6 M_Pr_openDepth [.ref 0] S xIse σ := by
  obtain ⟨S1, m1, i1, f1⟩ := (x_drawFig (scr := scr) (l := l) h).2 hG
  refine ⟨S1, fun d => ?_, i1, f1⟩
  refine MetA.of rfl (by decide +kernel) (Nat.le_of_ble_eq_true rfl) ?_
  refine ev_aload_n i_Pr_openDepth_0 rfl ?_
  exact ev_callV0x rfl i_Pr_openDepth_1 rfl h.1 (Nat.le_of_ble_eq_true rfl) (m1 _)
def loI (v : Nat → Int) : Nat → Int
  | 0 => 0
  | n + 1 => if v n < loI v n then v n else loI v n
def hiI (v : Nat → Int) : Nat → Int
  | 0 => 0
  | n + 1 => if hiI v n < v n then v n else hiI v n
theorem lp_low {scr : Scr} {l : Launch} {S : Sto} {a n pts sg dp de h : Nat} {ink x y st : UInt64} {f : Nat → UInt64} {v : Nat → Int} (ho : S.1[95]? = some (fiO n sg ink dp de x y st h)) (hn : n ≤ 61) (hf : S.1[a]? = some (aD 61 f)) (hv : ∀ j, j < n → DV (f j) (v j)) : ∀ (k i : Nat), i + k = n → ∀ z, DV z (loI v i) → ∃ z1, DV z1 (loI v n) ∧ ∀ d, Ev scr l d M_Fi_lowest 5 [some (.ref 95), some (.ref a), some (.double z), none, some (.int (nI i))] [] S (.inl (some (.double z1)), S) := by
  intro k
  induction k with
  | zero =>
    intro i hik z hz
    have e : i = n := by omega
    subst e
    refine ⟨z, hz, fun d => ?_⟩
    refine ev_iload i_Fi_lowest_5 rfl ?_
    refine ev_aload_n i_Fi_lowest_7 rfl ?_
    refine ev_get i_Fi_lowest_8 ho rfl ?_
    refine ev_icmp_geN i_Fi_lowest_11 (by omega) (by omega) (fun hc_11 => ?_) (fun hc_11 => ?_)
    · skip
      refine ev_dload_n i_Fi_lowest_38 rfl ?_
      exact ev_dret i_Fi_lowest_39 rfl
    · skip
      exfalso; omega
  | succ k ih =>
    intro i hik z hz
    by_cases hw : v i < loI v i
    · obtain ⟨z1, d1, kx⟩ := ih (i + 1) (by omega) (f i) (by show DV _ (if v i < loI v i then v i else loI v i); rw [if_pos hw]; exact hv i (by omega))
      refine ⟨z1, d1, fun d => ?_⟩
      have kx := kx d
      refine ev_iload i_Fi_lowest_5 rfl ?_
      refine ev_aload_n i_Fi_lowest_7 rfl ?_
      refine ev_get i_Fi_lowest_8 ho rfl ?_
      refine ev_icmp_geN i_Fi_lowest_11 (by omega) (by omega) (fun hc_11 => absurd hc_11 (by omega)) (fun hc_11 => ?_)
      refine ev_aload_n i_Fi_lowest_14 rfl ?_
      refine ev_iload i_Fi_lowest_15 rfl ?_
      refine ev_daldN i_Fi_lowest_17 hf (by omega) (by decide) ?_
      refine ev_dload_n i_Fi_lowest_18 rfl ?_
      refine ev_dif_ge i_Fi_lowest_19 i_Fi_lowest_20 (hv i (by omega)) hz (fun hq => ?_) (fun hq => ?_)
      · exact absurd hw hq
      · skip
        refine ev_aload_n i_Fi_lowest_23 rfl ?_
        refine ev_iload i_Fi_lowest_24 rfl ?_
        refine ev_daldN i_Fi_lowest_26 hf (by omega) (by decide) ?_
        refine ev_goto i_Fi_lowest_27 ?_
        refine ev_dst_n_2 i_Fi_lowest_31 rfl ?_
        refine ev_iincN_4 (c := 1) i_Fi_lowest_32 (by decide) rfl ?_
        refine ev_goto i_Fi_lowest_35 ?_
        exact kx
    · obtain ⟨z1, d1, kx⟩ := ih (i + 1) (by omega) z (by show DV _ (if v i < loI v i then v i else loI v i); rw [if_neg hw]; exact hz)
      refine ⟨z1, d1, fun d => ?_⟩
      have kx := kx d
      refine ev_iload i_Fi_lowest_5 rfl ?_
      refine ev_aload_n i_Fi_lowest_7 rfl ?_
      refine ev_get i_Fi_lowest_8 ho rfl ?_
      refine ev_icmp_geN i_Fi_lowest_11 (by omega) (by omega) (fun hc_11 => absurd hc_11 (by omega)) (fun hc_11 => ?_)
      refine ev_aload_n i_Fi_lowest_14 rfl ?_
      refine ev_iload i_Fi_lowest_15 rfl ?_
      refine ev_daldN i_Fi_lowest_17 hf (by omega) (by decide) ?_
      refine ev_dload_n i_Fi_lowest_18 rfl ?_
      refine ev_dif_ge i_Fi_lowest_19 i_Fi_lowest_20 (hv i (by omega)) hz (fun hq => ?_) (fun hq => ?_)
      · skip
        refine ev_dload_n i_Fi_lowest_30 rfl ?_
        refine ev_dst_n_2 i_Fi_lowest_31 rfl ?_
        refine ev_iincN_4 (c := 1) i_Fi_lowest_32 (by decide) rfl ?_
        refine ev_goto i_Fi_lowest_35 ?_
        exact kx
      · exact absurd hq hw
theorem g_low {scr : Scr} {l : Launch} {S : Sto} {a n sg dp de h : Nat} {ink x y st : UInt64} {f : Nat → UInt64} {v : Nat → Int} (ho : S.1[95]? = some (fiO n sg ink dp de x y st h)) (hn : n ≤ 61) (hf : S.1[a]? = some (aD 61 f)) (hv : ∀ j, j < n → DV (f j) (v j)) : ∃ z1, DV z1 (loI v n) ∧ ∀ d, MetA scr l d M_Fi_lowest [.ref 95, .ref a] S (.inl (some (.double z1)), S) := by
  obtain ⟨z1, d1, m3⟩ := lp_low (scr := scr) (l := l) (pts := 0) ho hn hf hv n 0 (by omega) FP.dconst0 DV.zero
  refine ⟨z1, d1, fun d => ?_⟩
  refine MetA.of rfl (by decide +kernel) (Nat.le_of_ble_eq_true rfl) ?_
  refine ev_dconst0 i_Fi_lowest_0 ?_
  refine ev_dst_n_2 i_Fi_lowest_1 rfl ?_
  refine ev_iconstN (v := 0) i_Fi_lowest_2 (by decide) ?_
  refine ev_ist_4 i_Fi_lowest_3 rfl ?_
  exact m3 d
theorem lp_high {scr : Scr} {l : Launch} {S : Sto} {a n pts sg dp de h : Nat} {ink x y st : UInt64} {f : Nat → UInt64} {v : Nat → Int} (ho : S.1[95]? = some (fiO n sg ink dp de x y st h)) (hn : n ≤ 61) (hf : S.1[a]? = some (aD 61 f)) (hv : ∀ j, j < n → DV (f j) (v j)) : ∀ (k i : Nat), i + k = n → ∀ z, DV z (hiI v i) → ∃ z1, DV z1 (hiI v n) ∧ ∀ d, Ev scr l d M_Fi_greatest 5 [some (.ref 95), some (.ref a), some (.double z), none, some (.int (nI i))] [] S (.inl (some (.double z1)), S) := by
  intro k
  induction k with
  | zero =>
    intro i hik z hz
    have e : i = n := by omega
    subst e
    refine ⟨z, hz, fun d => ?_⟩
    refine ev_iload i_Fi_greatest_5 rfl ?_
    refine ev_aload_n i_Fi_greatest_7 rfl ?_
    refine ev_get i_Fi_greatest_8 ho rfl ?_
    refine ev_icmp_geN i_Fi_greatest_11 (by omega) (by omega) (fun hc_11 => ?_) (fun hc_11 => ?_)
    · skip
      refine ev_dload_n i_Fi_greatest_38 rfl ?_
      exact ev_dret i_Fi_greatest_39 rfl
    · skip
      exfalso; omega
  | succ k ih =>
    intro i hik z hz
    by_cases hw : hiI v i < v i
    · obtain ⟨z1, d1, kx⟩ := ih (i + 1) (by omega) (f i) (by show DV _ (if hiI v i < v i then v i else hiI v i); rw [if_pos hw]; exact hv i (by omega))
      refine ⟨z1, d1, fun d => ?_⟩
      have kx := kx d
      refine ev_iload i_Fi_greatest_5 rfl ?_
      refine ev_aload_n i_Fi_greatest_7 rfl ?_
      refine ev_get i_Fi_greatest_8 ho rfl ?_
      refine ev_icmp_geN i_Fi_greatest_11 (by omega) (by omega) (fun hc_11 => absurd hc_11 (by omega)) (fun hc_11 => ?_)
      refine ev_aload_n i_Fi_greatest_14 rfl ?_
      refine ev_iload i_Fi_greatest_15 rfl ?_
      refine ev_daldN i_Fi_greatest_17 hf (by omega) (by decide) ?_
      refine ev_dload_n i_Fi_greatest_18 rfl ?_
      refine ev_dif_le i_Fi_greatest_19 i_Fi_greatest_20 (hv i (by omega)) hz (fun hq => ?_) (fun hq => ?_)
      · exact absurd hw hq
      · skip
        refine ev_aload_n i_Fi_greatest_23 rfl ?_
        refine ev_iload i_Fi_greatest_24 rfl ?_
        refine ev_daldN i_Fi_greatest_26 hf (by omega) (by decide) ?_
        refine ev_goto i_Fi_greatest_27 ?_
        refine ev_dst_n_2 i_Fi_greatest_31 rfl ?_
        refine ev_iincN_4 (c := 1) i_Fi_greatest_32 (by decide) rfl ?_
        refine ev_goto i_Fi_greatest_35 ?_
        exact kx
    · obtain ⟨z1, d1, kx⟩ := ih (i + 1) (by omega) z (by show DV _ (if hiI v i < v i then v i else hiI v i); rw [if_neg hw]; exact hz)
      refine ⟨z1, d1, fun d => ?_⟩
      have kx := kx d
      refine ev_iload i_Fi_greatest_5 rfl ?_
      refine ev_aload_n i_Fi_greatest_7 rfl ?_
      refine ev_get i_Fi_greatest_8 ho rfl ?_
      refine ev_icmp_geN i_Fi_greatest_11 (by omega) (by omega) (fun hc_11 => absurd hc_11 (by omega)) (fun hc_11 => ?_)
      refine ev_aload_n i_Fi_greatest_14 rfl ?_
      refine ev_iload i_Fi_greatest_15 rfl ?_
      refine ev_daldN i_Fi_greatest_17 hf (by omega) (by decide) ?_
      refine ev_dload_n i_Fi_greatest_18 rfl ?_
      refine ev_dif_le i_Fi_greatest_19 i_Fi_greatest_20 (hv i (by omega)) hz (fun hq => ?_) (fun hq => ?_)
      · skip
        refine ev_dload_n i_Fi_greatest_30 rfl ?_
        refine ev_dst_n_2 i_Fi_greatest_31 rfl ?_
        refine ev_iincN_4 (c := 1) i_Fi_greatest_32 (by decide) rfl ?_
        refine ev_goto i_Fi_greatest_35 ?_
        exact kx
      · exact absurd hq hw
theorem g_high {scr : Scr} {l : Launch} {S : Sto} {a n sg dp de h : Nat} {ink x y st : UInt64} {f : Nat → UInt64} {v : Nat → Int} (ho : S.1[95]? = some (fiO n sg ink dp de x y st h)) (hn : n ≤ 61) (hf : S.1[a]? = some (aD 61 f)) (hv : ∀ j, j < n → DV (f j) (v j)) : ∃ z1, DV z1 (hiI v n) ∧ ∀ d, MetA scr l d M_Fi_greatest [.ref 95, .ref a] S (.inl (some (.double z1)), S) := by
  obtain ⟨z1, d1, m3⟩ := lp_high (scr := scr) (l := l) (pts := 0) ho hn hf hv n 0 (by omega) FP.dconst0 DV.zero
  refine ⟨z1, d1, fun d => ?_⟩
  refine MetA.of rfl (by decide +kernel) (Nat.le_of_ble_eq_true rfl) ?_
  refine ev_dconst0 i_Fi_greatest_0 ?_
  refine ev_dst_n_2 i_Fi_greatest_1 rfl ?_
  refine ev_iconstN (v := 0) i_Fi_greatest_2 (by decide) ?_
  refine ev_ist_4 i_Fi_greatest_3 rfl ?_
  exact m3 d
noncomputable def extI (σ : Sg) (s : Nat) : Int := if s = 0 then loI (fun j => vOf (ptS σ j).1) (σ.2.1.2.1.length + 1) else if s = 1 then hiI (fun j => vOf (ptS σ j).1) (σ.2.1.2.1.length + 1) else if s = 2 then loI (fun j => vOf (ptS σ j).2) (σ.2.1.2.1.length + 1) else hiI (fun j => vOf (ptS σ j).2) (σ.2.1.2.1.length + 1)
theorem pt_val {cm : Nat → Nat} {xs : List Nat} {n j : Nat} {G : Fig} (h : figN cm xs n = some G) (hn : n ≤ 60) (hj : j < n + 1) : Pt (ptN cm xs j).1 (60 * 1048576) ∧ Pt (ptN cm xs j).2 (60 * 1048576) := by
  obtain ⟨F, hF⟩ := fig_le h (show j ≤ n by omega)
  have hV := (fig_ok (by omega) hF).1
  rw [pt_eq hF]
  exact ⟨hV.1.mono (by omega), hV.2.1.mono (by omega)⟩
theorem x_ext {scr : Scr} {l : Launch} {S : Sto} {σ : Sg} {s : Nat} {G : Fig} (h : XInv σ S) (hs : s < 4) (hG : fgS σ = some G) : ∃ z, DV z (extI σ s) ∧ XRun scr l 6 M_Pr_extent [.ref 0, .int (nI s)] S (some (.double z)) σ := by
  obtain ⟨S1, m1, s1, i1, f1⟩ := (x_drawFig (scr := scr) (l := l) h).1 G hG
  have hn60 := (live_cur h).2.1
  have a1 := s1.2.1
  have a2 := s1.2.2.1
  rcases (show s = 0 ∨ s = 1 ∨ s = 2 ∨ s = 3 by omega) with rfl | rfl | rfl | rfl
  · obtain ⟨f, hf, hv⟩ := a1
    obtain ⟨z, dz, mz⟩ := g_low (scr := scr) (l := l) (v := fun j => vOf (ptS σ j).1) s1.1 (by omega) hf (fun j hj => by rw [hv j hj]; exact (pt_val hG hn60 hj).1.1)
    refine ⟨z, ?_, S1, fun d => ?_, i1, f1⟩
    · exact dz
    · refine MetA.of rfl (by decide +kernel) (Nat.le_of_ble_eq_true rfl) ?_
      refine ev_iload_n i_Pr_extent_0 rfl ?_
      refine ev_if_lt_N i_Pr_extent_1 (by omega) (fun hc_1 => ?_) (fun hc_1 => ?_)
      · skip
        exfalso; omega
      · skip
        refine ev_iload_n i_Pr_extent_4 rfl ?_
        refine ev_iconstN (v := 3) i_Pr_extent_5 (by decide) ?_
        refine ev_icmp_leN i_Pr_extent_6 (by omega) (by omega) (fun hc_6 => ?_) (fun hc_6 => ?_)
        · skip
          refine ev_aload_n i_Pr_extent_20 rfl ?_
          refine ev_callV0 i_Pr_extent_21 rfl h.1 (Nat.le_of_ble_eq_true rfl) (m1 _) ?_
          refine ev_iload_n i_Pr_extent_24 rfl ?_
          refine ev_iconstN (v := 2) i_Pr_extent_25 (by decide) ?_
          refine ev_icmp_geN i_Pr_extent_26 (by omega) (by omega) (fun hc_26 => ?_) (fun hc_26 => ?_)
          · skip
            exfalso; omega
          · skip
            refine ev_aload_n i_Pr_extent_29 rfl ?_
            refine ev_get i_Pr_extent_30 i1.1 rfl ?_
            refine ev_get i_Pr_extent_33 s1.1 rfl ?_
            refine ev_goto i_Pr_extent_36 ?_
            refine ev_ast_n_2 i_Pr_extent_46 rfl ?_
            refine ev_iload_n i_Pr_extent_47 rfl ?_
            refine ev_iconstN (v := 2) i_Pr_extent_48 (by decide) ?_
            refine ev_iremN i_Pr_extent_49 (by decide) (by decide) (by decide) ?_
            refine ev_if_neN i_Pr_extent_50 (by omega) (fun hc_50 => ?_) (fun hc_50 => ?_)
            · skip
              exfalso; omega
            · skip
              refine ev_aload_n i_Pr_extent_53 rfl ?_
              refine ev_get i_Pr_extent_54 i1.1 rfl ?_
              refine ev_aload_n i_Pr_extent_57 rfl ?_
              refine ev_callV1 i_Pr_extent_58 rfl s1.1 (Nat.le_of_ble_eq_true rfl) (mz _) ?_
              refine ev_goto i_Pr_extent_61 ?_
              exact ev_dret i_Pr_extent_72 rfl
        · skip
          exfalso; omega
  · obtain ⟨f, hf, hv⟩ := a1
    obtain ⟨z, dz, mz⟩ := g_high (scr := scr) (l := l) (v := fun j => vOf (ptS σ j).1) s1.1 (by omega) hf (fun j hj => by rw [hv j hj]; exact (pt_val hG hn60 hj).1.1)
    refine ⟨z, ?_, S1, fun d => ?_, i1, f1⟩
    · exact dz
    · refine MetA.of rfl (by decide +kernel) (Nat.le_of_ble_eq_true rfl) ?_
      refine ev_iload_n i_Pr_extent_0 rfl ?_
      refine ev_if_lt_N i_Pr_extent_1 (by omega) (fun hc_1 => ?_) (fun hc_1 => ?_)
      · skip
        exfalso; omega
      · skip
        refine ev_iload_n i_Pr_extent_4 rfl ?_
        refine ev_iconstN (v := 3) i_Pr_extent_5 (by decide) ?_
        refine ev_icmp_leN i_Pr_extent_6 (by omega) (by omega) (fun hc_6 => ?_) (fun hc_6 => ?_)
        · skip
          refine ev_aload_n i_Pr_extent_20 rfl ?_
          refine ev_callV0 i_Pr_extent_21 rfl h.1 (Nat.le_of_ble_eq_true rfl) (m1 _) ?_
          refine ev_iload_n i_Pr_extent_24 rfl ?_
          refine ev_iconstN (v := 2) i_Pr_extent_25 (by decide) ?_
          refine ev_icmp_geN i_Pr_extent_26 (by omega) (by omega) (fun hc_26 => ?_) (fun hc_26 => ?_)
          · skip
            exfalso; omega
          · skip
            refine ev_aload_n i_Pr_extent_29 rfl ?_
            refine ev_get i_Pr_extent_30 i1.1 rfl ?_
            refine ev_get i_Pr_extent_33 s1.1 rfl ?_
            refine ev_goto i_Pr_extent_36 ?_
            refine ev_ast_n_2 i_Pr_extent_46 rfl ?_
            refine ev_iload_n i_Pr_extent_47 rfl ?_
            refine ev_iconstN (v := 2) i_Pr_extent_48 (by decide) ?_
            refine ev_iremN i_Pr_extent_49 (by decide) (by decide) (by decide) ?_
            refine ev_if_neN i_Pr_extent_50 (by omega) (fun hc_50 => ?_) (fun hc_50 => ?_)
            · skip
              refine ev_aload_n i_Pr_extent_64 rfl ?_
              refine ev_get i_Pr_extent_65 i1.1 rfl ?_
              refine ev_aload_n i_Pr_extent_68 rfl ?_
              refine ev_callV1 i_Pr_extent_69 rfl s1.1 (Nat.le_of_ble_eq_true rfl) (mz _) ?_
              exact ev_dret i_Pr_extent_72 rfl
            · skip
              exfalso; omega
        · skip
          exfalso; omega
  · obtain ⟨f, hf, hv⟩ := a2
    obtain ⟨z, dz, mz⟩ := g_low (scr := scr) (l := l) (v := fun j => vOf (ptS σ j).2) s1.1 (by omega) hf (fun j hj => by rw [hv j hj]; exact (pt_val hG hn60 hj).2.1)
    refine ⟨z, ?_, S1, fun d => ?_, i1, f1⟩
    · exact dz
    · refine MetA.of rfl (by decide +kernel) (Nat.le_of_ble_eq_true rfl) ?_
      refine ev_iload_n i_Pr_extent_0 rfl ?_
      refine ev_if_lt_N i_Pr_extent_1 (by omega) (fun hc_1 => ?_) (fun hc_1 => ?_)
      · skip
        exfalso; omega
      · skip
        refine ev_iload_n i_Pr_extent_4 rfl ?_
        refine ev_iconstN (v := 3) i_Pr_extent_5 (by decide) ?_
        refine ev_icmp_leN i_Pr_extent_6 (by omega) (by omega) (fun hc_6 => ?_) (fun hc_6 => ?_)
        · skip
          refine ev_aload_n i_Pr_extent_20 rfl ?_
          refine ev_callV0 i_Pr_extent_21 rfl h.1 (Nat.le_of_ble_eq_true rfl) (m1 _) ?_
          refine ev_iload_n i_Pr_extent_24 rfl ?_
          refine ev_iconstN (v := 2) i_Pr_extent_25 (by decide) ?_
          refine ev_icmp_geN i_Pr_extent_26 (by omega) (by omega) (fun hc_26 => ?_) (fun hc_26 => ?_)
          · skip
            refine ev_aload_n i_Pr_extent_39 rfl ?_
            refine ev_get i_Pr_extent_40 i1.1 rfl ?_
            refine ev_get i_Pr_extent_43 s1.1 rfl ?_
            refine ev_ast_n_2 i_Pr_extent_46 rfl ?_
            refine ev_iload_n i_Pr_extent_47 rfl ?_
            refine ev_iconstN (v := 2) i_Pr_extent_48 (by decide) ?_
            refine ev_iremN i_Pr_extent_49 (by decide) (by decide) (by decide) ?_
            refine ev_if_neN i_Pr_extent_50 (by omega) (fun hc_50 => ?_) (fun hc_50 => ?_)
            · skip
              exfalso; omega
            · skip
              refine ev_aload_n i_Pr_extent_53 rfl ?_
              refine ev_get i_Pr_extent_54 i1.1 rfl ?_
              refine ev_aload_n i_Pr_extent_57 rfl ?_
              refine ev_callV1 i_Pr_extent_58 rfl s1.1 (Nat.le_of_ble_eq_true rfl) (mz _) ?_
              refine ev_goto i_Pr_extent_61 ?_
              exact ev_dret i_Pr_extent_72 rfl
          · skip
            exfalso; omega
        · skip
          exfalso; omega
  · obtain ⟨f, hf, hv⟩ := a2
    obtain ⟨z, dz, mz⟩ := g_high (scr := scr) (l := l) (v := fun j => vOf (ptS σ j).2) s1.1 (by omega) hf (fun j hj => by rw [hv j hj]; exact (pt_val hG hn60 hj).2.1)
    refine ⟨z, ?_, S1, fun d => ?_, i1, f1⟩
    · exact dz
    · refine MetA.of rfl (by decide +kernel) (Nat.le_of_ble_eq_true rfl) ?_
      refine ev_iload_n i_Pr_extent_0 rfl ?_
      refine ev_if_lt_N i_Pr_extent_1 (by omega) (fun hc_1 => ?_) (fun hc_1 => ?_)
      · skip
        exfalso; omega
      · skip
        refine ev_iload_n i_Pr_extent_4 rfl ?_
        refine ev_iconstN (v := 3) i_Pr_extent_5 (by decide) ?_
        refine ev_icmp_leN i_Pr_extent_6 (by omega) (by omega) (fun hc_6 => ?_) (fun hc_6 => ?_)
        · skip
          refine ev_aload_n i_Pr_extent_20 rfl ?_
          refine ev_callV0 i_Pr_extent_21 rfl h.1 (Nat.le_of_ble_eq_true rfl) (m1 _) ?_
          refine ev_iload_n i_Pr_extent_24 rfl ?_
          refine ev_iconstN (v := 2) i_Pr_extent_25 (by decide) ?_
          refine ev_icmp_geN i_Pr_extent_26 (by omega) (by omega) (fun hc_26 => ?_) (fun hc_26 => ?_)
          · skip
            refine ev_aload_n i_Pr_extent_39 rfl ?_
            refine ev_get i_Pr_extent_40 i1.1 rfl ?_
            refine ev_get i_Pr_extent_43 s1.1 rfl ?_
            refine ev_ast_n_2 i_Pr_extent_46 rfl ?_
            refine ev_iload_n i_Pr_extent_47 rfl ?_
            refine ev_iconstN (v := 2) i_Pr_extent_48 (by decide) ?_
            refine ev_iremN i_Pr_extent_49 (by decide) (by decide) (by decide) ?_
            refine ev_if_neN i_Pr_extent_50 (by omega) (fun hc_50 => ?_) (fun hc_50 => ?_)
            · skip
              refine ev_aload_n i_Pr_extent_64 rfl ?_
              refine ev_get i_Pr_extent_65 i1.1 rfl ?_
              refine ev_aload_n i_Pr_extent_68 rfl ?_
              refine ev_callV1 i_Pr_extent_69 rfl s1.1 (Nat.le_of_ble_eq_true rfl) (mz _) ?_
              exact ev_dret i_Pr_extent_72 rfl
            · skip
              exfalso; omega
          · skip
            exfalso; omega
        · skip
          exfalso; omega
theorem x_ext_1 {scr : Scr} {l : Launch} {S : Sto} {σ : Sg} {q : Int32} (h : XInv σ S) (hq : ¬ inR 4 q) : XThr scr l 6 M_Pr_extent [.ref 0, .int q] S xIae σ := by
  refine XThr.of h (fun d => ?_)
  refine MetA.of rfl (by decide +kernel) (Nat.le_of_ble_eq_true rfl) ?_
  refine ev_iload_n i_Pr_extent_0 rfl ?_
  refine ev_if_lt i_Pr_extent_1 (fun hc_1 => ?_) (fun hc_1 => ?_)
  · skip
    exact ev_throw i_Pr_extent_9 ex_Iae rfl rfl (Nat.le_of_ble_eq_true rfl)
  · skip
    refine ev_iload_n i_Pr_extent_4 rfl ?_
    refine ev_iconstN (v := 3) i_Pr_extent_5 (by decide) ?_
    refine ev_icmp_le i_Pr_extent_6 (fun hc_6 => ?_) (fun hc_6 => ?_)
    · skip
      exact absurd hc_6 (not_le_of (by decide) hq hc_1)
    · skip
      exact ev_throw i_Pr_extent_9 ex_Iae rfl rfl (Nat.le_of_ble_eq_true rfl)
theorem x_ext_2 {scr : Scr} {l : Launch} {S : Sto} {σ : Sg} {s : Nat} (h : XInv σ S) (hs : s < 4) (hG : fgS σ = none) : XThr scr l 6 M_Pr_extent [.ref 0, .int (nI s)] S xIse σ := by
  obtain ⟨S1, m1, i1, f1⟩ := (x_drawFig (scr := scr) (l := l) h).2 hG
  refine ⟨S1, fun d => ?_, i1, f1⟩
  refine MetA.of rfl (by decide +kernel) (Nat.le_of_ble_eq_true rfl) ?_
  refine ev_iload_n i_Pr_extent_0 rfl ?_
  refine ev_if_lt_N i_Pr_extent_1 (by omega) (fun hc_1 => ?_) (fun hc_1 => ?_)
  · skip
    exfalso; omega
  · skip
    refine ev_iload_n i_Pr_extent_4 rfl ?_
    refine ev_iconstN (v := 3) i_Pr_extent_5 (by decide) ?_
    refine ev_icmp_leN i_Pr_extent_6 (by omega) (by omega) (fun hc_6 => ?_) (fun hc_6 => ?_)
    · skip
      refine ev_aload_n i_Pr_extent_20 rfl ?_
      exact ev_callV0x rfl i_Pr_extent_21 rfl h.1 (Nat.le_of_ble_eq_true rfl) (m1 _)
    · skip
      exfalso; omega

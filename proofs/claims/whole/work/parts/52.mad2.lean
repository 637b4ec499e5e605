/-! the model m: adult words, its face -/
/-- a word in the row trial -/
def TrW (S : Sto) (xs : List Nat) : Prop := ∃ f, S.1[125]? = some (aI 61 f) ∧ RowW f 0 xs
theorem MInv.st3t {th t : Nat} {σ : Sg} {S : Sto} {dr mo sc : Int32} {xs : List Nat} (h : MInv th σ S) (h0 : S.1[105]? = some (mO th σ dr mo sc)) (ht : t < 3) (hx : TrW S xs) : St3 S 125 116 t (σ.2.1.1 t) xs (mQ th σ mo sc) [] dr := by
  obtain ⟨⟨g, t1, t2⟩, c2⟩ := h.2.2.1
  obtain ⟨f1, f5, f6, f7, f8, f9, f3, f4, l1, l2, l3, e1, e2, e3, e4, h1, hrest⟩ := h.2.2.2.2.2
  exact ⟨h0, ⟨g, t1, t2 t ht⟩, hx, f1, h1, fun j hj => absurd hj (by show ¬ j < 0; omega)⟩
theorem St3.obj {S : Sto} {a b t : Nat} {T : TabV} {xs ys : List Nat} {th : Nat} {σ : Sg} {mo sc x : Int32} (h : St3 S a b t T xs (mQ th σ mo sc) ys x) : S.1[105]? = some (mO th σ x mo sc) := h.1
theorem St3.nx {S : Sto} {a t : Nat} {T : TabV} {xs ys : List Nat} {q : Int32 × Int32 × Int32 × Int32 × Int32 × Int32} {x : Int32} (h : St3 S a 116 t T xs q ys x) : ∃ G, S.1[116]? = some (aI 61 G) := by
  obtain ⟨-, -, -, G, b1, -⟩ := h
  exact ⟨G, b1⟩
theorem MInv.ofst {th t a : Nat} {σ : Sg} {S S1 : Sto} {T : TabV} {xs ys : List Nat} {mo sc x : Int32} (h : MInv th σ S) (hF : Fr [105, 116] S S1) (hs : St3 S1 a 116 t T xs (mQ th σ mo sc) ys x) : MInv th σ S1 := h.next hF (by simp) ⟨x, mo, sc, hs.obj⟩ hs.nx
theorem MInv.trial {th : Nat} {σ : Sg} {S : Sto} (h : MInv th σ S) : ∃ f, S.1[125]? = some (aI 61 f) := by
  obtain ⟨f1, f5, f6, f7, f8, f9, f3, f4, l1, l2, l3, e1, e2, e3, e4, h1, h2, h3, h4, h5, h6, h7, h8, h9, h10, hrest⟩ := h.2.2.2.2.2
  exact ⟨f9, h10⟩
theorem MInv.putTrial {th : Nat} {σ : Sg} {S : Sto} {f f' : Nat → Int32} (h : MInv th σ S) (hf : S.1[125]? = some (aI 61 f)) : MInv th σ (S.put 125 (aI 61 f')) := by
  have hF : Fr [125] S (S.put 125 (aI 61 f')) := Fr.put _ _ (by simp)
  obtain ⟨dr, mo, sc, h0⟩ := h.get
  exact h.scr hF (by simp) ⟨dr, mo, sc, hF.at h0 (by decide)⟩ (h.2.2.2.2.2.up hF (Or.inl (by decide)) (Or.inl (by decide)) (Or.inl (by decide)) (Or.inl (by decide)) (Or.inl (by decide)) (Or.inl (by decide)) (Or.inl (by decide)) (Or.inl (by decide)) (Or.inl (by decide)) (Or.inr ⟨_, put_self hf⟩) (Or.inl (by decide)) (Or.inl (by decide)) (Or.inl (by decide)) (Or.inl (by decide)) (Or.inl (by decide)))
theorem m_isAdult_1 {scr : Scr} {l : Launch} {S : Sto} {σ : Sg} {th : Nat} {x : Int32} (h : MInv th σ S) (hx : ¬ inR 3 x) : MRun scr l 6 M_Md_isAdult [.ref 105, .int x] S (some (.int (nI 0))) 1 σ := by
  refine MRun.th h (fun dr mo sc h0 d => ?_)
  have o1 : (S.put 105 (mO 1 σ dr mo sc)).1[105]? = _ := put_self h0
  refine MetA.of rfl (by decide +kernel) (Nat.le_of_ble_eq_true rfl) ?_
  refine ev_aload_n i_Md_isAdult_0 rfl ?_
  refine ev_iload_n i_Md_isAdult_1 rfl ?_
  refine ev_callS1 i_Md_isAdult_2 rfl (Nat.le_of_ble_eq_true rfl) (m_isTable.2 hx) ?_
  refine ev_if_eqN i_Md_isAdult_5 (by omega) (fun hc_5 => ?_) (fun hc_5 => ?_)
  · skip
    refine ev_iconstN (v := 1) i_Md_isAdult_12 (by decide) ?_
    refine ev_mput_thrown i_Md_isAdult_13 h0 ?_
    refine ev_aload_n i_Md_isAdult_16 rfl ?_
    refine ev_get i_Md_isAdult_17 o1 rfl ?_
    refine ev_if_neN i_Md_isAdult_20 (by omega) (fun hc_20 => ?_) (fun hc_20 => ?_)
    · skip
      refine ev_iconstN (v := 0) i_Md_isAdult_39 (by decide) ?_
      exact ev_iret i_Md_isAdult_40 rfl (by first | rfl | decide)
    · skip
      exfalso; omega
  · skip
    exfalso; omega
theorem m_isAdult {scr : Scr} {l : Launch} {S : Sto} {σ : Sg} {th : Nat} {t : Nat} (h : MInv th σ S) (ht : t < 3) : MRun scr l 6 M_Md_isAdult [.ref 105, .int (nI t)] S (some (.int (nI (bI (adB (σ.2.1.1 t) σ.2.1.2.1))))) 0 σ := by
  obtain ⟨dr, mo, sc, h0⟩ := h.get
  have o1 : (S.put 105 (mO 0 σ dr mo sc)).1[105]? = _ := put_self h0
  have h2 : MInv 0 σ (S.put 105 (mO 0 σ dr mo sc)) := h.th h0
  obtain ⟨S3, m3, ⟨x, s3⟩, F3⟩ := m_adult (scr := scr) (l := l) ht (by decide) (h2.st3 o1 ht)
  refine ⟨S3, fun d => ?_, h2.ofst F3 s3, ((Fr.put _ _ (by simp)).tr F3).m (by decide)⟩
  cases hb : adB (σ.2.1.1 t) σ.2.1.2.1 with
  | false =>
    rw [bI_f]
    rw [hb, bI_f] at m3
    refine MetA.of rfl (by decide +kernel) (Nat.le_of_ble_eq_true rfl) ?_
    refine ev_aload_n i_Md_isAdult_0 rfl ?_
    refine ev_iload_n i_Md_isAdult_1 rfl ?_
    refine ev_callS1 i_Md_isAdult_2 rfl (Nat.le_of_ble_eq_true rfl) (m_isTable.1 (inR.of (by decide) ht)) ?_
    refine ev_if_eqN i_Md_isAdult_5 (by omega) (fun hc_5 => ?_) (fun hc_5 => ?_)
    · skip
      exfalso; omega
    · skip
      refine ev_iconstN (v := 0) i_Md_isAdult_8 (by decide) ?_
      refine ev_goto i_Md_isAdult_9 ?_
      refine ev_mput_thrown i_Md_isAdult_13 h0 ?_
      refine ev_aload_n i_Md_isAdult_16 rfl ?_
      refine ev_get i_Md_isAdult_17 o1 rfl ?_
      refine ev_if_neN i_Md_isAdult_20 (by omega) (fun hc_20 => ?_) (fun hc_20 => ?_)
      · skip
        exfalso; omega
      · skip
        refine ev_aload_n i_Md_isAdult_23 rfl ?_
        refine ev_iload_n i_Md_isAdult_24 rfl ?_
        refine ev_aload_n i_Md_isAdult_25 rfl ?_
        refine ev_get i_Md_isAdult_26 o1 rfl ?_
        refine ev_callV2 i_Md_isAdult_29 rfl o1 (Nat.le_of_ble_eq_true rfl) (m3 _) ?_
        refine ev_if_eqN i_Md_isAdult_32 (by omega) (fun hc_32 => ?_) (fun hc_32 => ?_)
        · skip
          refine ev_iconstN (v := 0) i_Md_isAdult_39 (by decide) ?_
          exact ev_iret i_Md_isAdult_40 rfl (by first | rfl | decide)
        · skip
          exfalso; omega
  | true =>
    rw [bI_t]
    rw [hb, bI_t] at m3
    refine MetA.of rfl (by decide +kernel) (Nat.le_of_ble_eq_true rfl) ?_
    refine ev_aload_n i_Md_isAdult_0 rfl ?_
    refine ev_iload_n i_Md_isAdult_1 rfl ?_
    refine ev_callS1 i_Md_isAdult_2 rfl (Nat.le_of_ble_eq_true rfl) (m_isTable.1 (inR.of (by decide) ht)) ?_
    refine ev_if_eqN i_Md_isAdult_5 (by omega) (fun hc_5 => ?_) (fun hc_5 => ?_)
    · skip
      exfalso; omega
    · skip
      refine ev_iconstN (v := 0) i_Md_isAdult_8 (by decide) ?_
      refine ev_goto i_Md_isAdult_9 ?_
      refine ev_mput_thrown i_Md_isAdult_13 h0 ?_
      refine ev_aload_n i_Md_isAdult_16 rfl ?_
      refine ev_get i_Md_isAdult_17 o1 rfl ?_
      refine ev_if_neN i_Md_isAdult_20 (by omega) (fun hc_20 => ?_) (fun hc_20 => ?_)
      · skip
        exfalso; omega
      · skip
        refine ev_aload_n i_Md_isAdult_23 rfl ?_
        refine ev_iload_n i_Md_isAdult_24 rfl ?_
        refine ev_aload_n i_Md_isAdult_25 rfl ?_
        refine ev_get i_Md_isAdult_26 o1 rfl ?_
        refine ev_callV2 i_Md_isAdult_29 rfl o1 (Nat.le_of_ble_eq_true rfl) (m3 _) ?_
        refine ev_if_eqN i_Md_isAdult_32 (by omega) (fun hc_32 => ?_) (fun hc_32 => ?_)
        · skip
          exfalso; omega
        · skip
          refine ev_iconstN (v := 1) i_Md_isAdult_35 (by decide) ?_
          refine ev_goto i_Md_isAdult_36 ?_
          exact ev_iret i_Md_isAdult_40 rfl (by first | rfl | decide)
theorem m_stepsAd_1 {scr : Scr} {l : Launch} {S : Sto} {σ : Sg} {th : Nat} {x y : Int32} (h : MInv th σ S) (hx : ¬ inR 3 x) : MRun scr l 6 M_Md_stepsToAdult [.ref 105, .int x, .int y] S (some (.int (nI 0))) 1 σ := by
  refine MRun.th h (fun dr mo sc h0 d => ?_)
  have o1 : (S.put 105 (mO 1 σ dr mo sc)).1[105]? = _ := put_self h0
  refine MetA.of rfl (by decide +kernel) (Nat.le_of_ble_eq_true rfl) ?_
  refine ev_aload_n i_Md_stepsToAdult_0 rfl ?_
  refine ev_iload_n i_Md_stepsToAdult_1 rfl ?_
  refine ev_callS1 i_Md_stepsToAdult_2 rfl (Nat.le_of_ble_eq_true rfl) (m_isTable.2 hx) ?_
  refine ev_if_neN i_Md_stepsToAdult_5 (by omega) (fun hc_5 => ?_) (fun hc_5 => ?_)
  · skip
    exfalso; omega
  · skip
    refine ev_iconstN (v := 1) i_Md_stepsToAdult_8 (by decide) ?_
    refine ev_goto i_Md_stepsToAdult_9 ?_
    refine ev_mput_thrown i_Md_stepsToAdult_39 h0 ?_
    refine ev_aload_n i_Md_stepsToAdult_42 rfl ?_
    refine ev_get i_Md_stepsToAdult_43 o1 rfl ?_
    refine ev_if_leN i_Md_stepsToAdult_46 (by omega) (fun hc_46 => ?_) (fun hc_46 => ?_)
    · skip
      exfalso; omega
    · skip
      refine ev_iconstN (v := 0) i_Md_stepsToAdult_49 (by decide) ?_
      exact ev_iret i_Md_stepsToAdult_50 rfl (by first | rfl | decide)
theorem m_stepsAd_2 {scr : Scr} {l : Launch} {S : Sto} {σ : Sg} {th : Nat} {t : Nat} {y : Int32} (h : MInv th σ S) (ht : t < 3) (hy : ¬ inR 51 y) : MRun scr l 6 M_Md_stepsToAdult [.ref 105, .int (nI t), .int y] S (some (.int (nI 0))) 2 σ := by
  refine MRun.th h (fun dr mo sc h0 d => ?_)
  have o1 : (S.put 105 (mO 2 σ dr mo sc)).1[105]? = _ := put_self h0
  refine MetA.of rfl (by decide +kernel) (Nat.le_of_ble_eq_true rfl) ?_
  refine ev_aload_n i_Md_stepsToAdult_0 rfl ?_
  refine ev_iload_n i_Md_stepsToAdult_1 rfl ?_
  refine ev_callS1 i_Md_stepsToAdult_2 rfl (Nat.le_of_ble_eq_true rfl) (m_isTable.1 (inR.of (by decide) ht)) ?_
  refine ev_if_neN i_Md_stepsToAdult_5 (by omega) (fun hc_5 => ?_) (fun hc_5 => ?_)
  · skip
    refine ev_iload_n i_Md_stepsToAdult_12 rfl ?_
    refine ev_iconstN (v := 0) i_Md_stepsToAdult_13 (by decide) ?_
    refine ev_bipushN (v := 50) i_Md_stepsToAdult_14 (by decide) ?_
    refine ev_callS3 i_Md_stepsToAdult_16 rfl (Nat.le_of_ble_eq_true rfl) (m_in.2 (fun z => hy ((inR_inB (by decide) (by decide)).mpr z))) ?_
    refine ev_if_neN i_Md_stepsToAdult_19 (by omega) (fun hc_19 => ?_) (fun hc_19 => ?_)
    · skip
      exfalso; omega
    · skip
      refine ev_iconstN (v := 2) i_Md_stepsToAdult_22 (by decide) ?_
      refine ev_goto i_Md_stepsToAdult_23 ?_
      refine ev_mput_thrown i_Md_stepsToAdult_39 h0 ?_
      refine ev_aload_n i_Md_stepsToAdult_42 rfl ?_
      refine ev_get i_Md_stepsToAdult_43 o1 rfl ?_
      refine ev_if_leN i_Md_stepsToAdult_46 (by omega) (fun hc_46 => ?_) (fun hc_46 => ?_)
      · skip
        exfalso; omega
      · skip
        refine ev_iconstN (v := 0) i_Md_stepsToAdult_49 (by decide) ?_
        exact ev_iret i_Md_stepsToAdult_50 rfl (by first | rfl | decide)
  · skip
    exfalso; omega
theorem m_stepsAd_3 {scr : Scr} {l : Launch} {S : Sto} {σ : Sg} {th : Nat} {t n : Nat} (h : MInv th σ S) (ht : t < 3) (hn : n < 51) (hd : ¬ isDet (σ.2.1.1 t)) : MRun scr l 6 M_Md_stepsToAdult [.ref 105, .int (nI t), .int (nI n)] S (some (.int (nI 0))) 3 σ := by
  refine MRun.th h (fun dr mo sc h0 d => ?_)
  have o1 : (S.put 105 (mO 3 σ dr mo sc)).1[105]? = _ := put_self h0
  refine MetA.of rfl (by decide +kernel) (Nat.le_of_ble_eq_true rfl) ?_
  refine ev_aload_n i_Md_stepsToAdult_0 rfl ?_
  refine ev_iload_n i_Md_stepsToAdult_1 rfl ?_
  refine ev_callS1 i_Md_stepsToAdult_2 rfl (Nat.le_of_ble_eq_true rfl) (m_isTable.1 (inR.of (by decide) ht)) ?_
  refine ev_if_neN i_Md_stepsToAdult_5 (by omega) (fun hc_5 => ?_) (fun hc_5 => ?_)
  · skip
    refine ev_iload_n i_Md_stepsToAdult_12 rfl ?_
    refine ev_iconstN (v := 0) i_Md_stepsToAdult_13 (by decide) ?_
    refine ev_bipushN (v := 50) i_Md_stepsToAdult_14 (by decide) ?_
    refine ev_callS3 i_Md_stepsToAdult_16 rfl (Nat.le_of_ble_eq_true rfl) (m_in.1 ((inR_inB (n := 51) (by decide) (by decide)).mp (inR.of (by decide) hn))) ?_
    refine ev_if_neN i_Md_stepsToAdult_19 (by omega) (fun hc_19 => ?_) (fun hc_19 => ?_)
    · skip
      refine ev_aload_n i_Md_stepsToAdult_26 rfl ?_
      refine ev_iload_n i_Md_stepsToAdult_27 rfl ?_
      refine ev_callV1 i_Md_stepsToAdult_28 rfl h0 (Nat.le_of_ble_eq_true rfl) ((m_det h ht).2 hd) ?_
      refine ev_if_neN i_Md_stepsToAdult_31 (by omega) (fun hc_31 => ?_) (fun hc_31 => ?_)
      · skip
        exfalso; omega
      · skip
        refine ev_iconstN (v := 3) i_Md_stepsToAdult_34 (by decide) ?_
        refine ev_goto i_Md_stepsToAdult_35 ?_
        refine ev_mput_thrown i_Md_stepsToAdult_39 h0 ?_
        refine ev_aload_n i_Md_stepsToAdult_42 rfl ?_
        refine ev_get i_Md_stepsToAdult_43 o1 rfl ?_
        refine ev_if_leN i_Md_stepsToAdult_46 (by omega) (fun hc_46 => ?_) (fun hc_46 => ?_)
        · skip
          exfalso; omega
        · skip
          refine ev_iconstN (v := 0) i_Md_stepsToAdult_49 (by decide) ?_
          exact ev_iret i_Md_stepsToAdult_50 rfl (by first | rfl | decide)
    · skip
      exfalso; omega
  · skip
    exfalso; omega
def adV (o : Option Nat) (i : Nat) : Nat := match o with
  | some n => i + n
  | none => 0
def adC (o : Option Nat) : Nat := match o with
  | some _ => 0
  | none => 4
theorem adV_map {o : Option Nat} {i : Nat} : adV (o.map (· + 1)) i = adV o (i + 1) := by
  cases o with
  | none => rfl
  | some n => show i + (n + 1) = i + 1 + n; omega
theorem adC_map {o : Option Nat} : adC (o.map (· + 1)) = adC o := by cases o <;> rfl
abbrev trK : List Nat := [105, 116, 125]
theorem lp_mSteps {scr : Scr} {l : Launch} {S : Sto} {σ : Sg} {t lim : Nat} (ht : t < 3) (hd : isDet (σ.2.1.1 t)) (hlim : lim ≤ 50) : ∀ (k i : Nat), i + k = lim + 1 → ∀ (S2 : Sto) (xs : List Nat), MInv 0 σ S2 → TrW S2 xs → Fr trK S S2 → ∃ S3, (∀ d, Ev scr l (d + 6) M_Md_stepsToAdult 68 [some (.ref 105), some (.int (nI t)), some (.int (nI lim)), some (.int (nI i))] [] S2 (.inl (some (.int (nI (adV (adS (σ.2.1.1 t) k xs) i)))), S3)) ∧ MInv (adC (adS (σ.2.1.1 t) k xs)) σ S3 ∧ Fr trK S S3 := by
  intro k
  induction k with
  | zero =>
    intro i hi S2 xs h2 hx hF
    obtain ⟨dr, mo, sc, o2⟩ := h2.get
    obtain ⟨S3, mf, i3, f3⟩ := m_fails (scr := scr) (l := l) (k := 4) h2
    refine ⟨S3, fun d => ?_, i3, hF.tr (f3.mono (by simp))⟩
    show Ev _ _ _ _ _ _ _ _ (.inl (some (.int (nI 0))), S3)
    refine ev_iload_n i_Md_stepsToAdult_68 rfl ?_
    refine ev_iload_n i_Md_stepsToAdult_69 rfl ?_
    refine ev_icmp_gtN i_Md_stepsToAdult_70 (by omega) (by omega) (fun hc_70 => ?_) (fun hc_70 => ?_)
    · skip
      refine ev_aload_n i_Md_stepsToAdult_130 rfl ?_
      refine ev_iconstN (v := 4) i_Md_stepsToAdult_131 (by decide) ?_
      refine ev_callV1 i_Md_stepsToAdult_132 rfl o2 (Nat.le_of_ble_eq_true rfl) (mf _) ?_
      exact ev_iret i_Md_stepsToAdult_135 rfl (by first | rfl | decide)
    · skip
      exfalso; omega
  | succ k ih =>
    intro i hi S2 xs h2 hx hF
    obtain ⟨dr, mo, sc, o2⟩ := h2.get
    obtain ⟨fx, fx1, fx2⟩ := id hx
    have h60 := fx2.2.1
    have h1 := oneI_det (xs := xs) hd (fun i hi => (fx2.2.2 i hi).2)
    obtain ⟨S3, m3, ⟨x3, s3⟩, F3⟩ := m_adult (scr := scr) (l := l) ht (by decide) (h2.st3t o2 ht hx)
    have h3 : MInv 0 σ S3 := h2.ofst F3 s3
    have o3 := s3.obj
    have hsd : ∀ s s', stepW (σ.2.1.1 t) xs s = stepW (σ.2.1.1 t) xs s' := fun s s' => stepW_seed h1 (fun i hi => by rw [hd _ (fx2.2.2 i hi).2]; exact Nat.le_refl _)
    unfold adS
    by_cases he : stepW (σ.2.1.1 t) xs (nI 0) = xs
    · have hb : adB (σ.2.1.1 t) xs = true := by unfold adB; rw [h1, decide_eq_true he]; rfl
      rw [if_neg (by rw [he]; omega), if_pos he]
      refine ⟨S3, fun d => ?_, h3, hF.tr (F3.mono (by simp))⟩
      show Ev _ _ _ _ _ _ _ _ (.inl (some (.int (nI i))), S3)
      refine ev_iload_n i_Md_stepsToAdult_68 rfl ?_
      refine ev_iload_n i_Md_stepsToAdult_69 rfl ?_
      refine ev_icmp_gtN i_Md_stepsToAdult_70 (by omega) (by omega) (fun hc_70 => ?_) (fun hc_70 => ?_)
      · skip
        exfalso; omega
      · skip
        refine ev_aload_n i_Md_stepsToAdult_73 rfl ?_
        refine ev_iload_n i_Md_stepsToAdult_74 rfl ?_
        refine ev_aload_n i_Md_stepsToAdult_75 rfl ?_
        refine ev_get i_Md_stepsToAdult_76 o2 rfl ?_
        refine ev_callV2 i_Md_stepsToAdult_79 rfl o2 (Nat.le_of_ble_eq_true rfl) (m3 _) ?_
        rw [hb, bI_t]
        refine ev_if_eqN i_Md_stepsToAdult_82 (by omega) (fun hc_82 => ?_) (fun hc_82 => ?_)
        · skip
          exfalso; omega
        · skip
          refine ev_iload_n i_Md_stepsToAdult_85 rfl ?_
          exact ev_iret i_Md_stepsToAdult_86 rfl (by first | rfl | decide)
    · have hb : adB (σ.2.1.1 t) xs = false := by unfold adB; rw [decide_eq_false he, Bool.and_false]
      by_cases hl : 60 < (stepW (σ.2.1.1 t) xs (nI 0)).length
      · rw [if_pos hl]
        obtain ⟨S4, m4, ⟨x4, s4⟩, F4⟩ := (m_step3 (scr := scr) (l := l) ht (by decide) (by decide) s3).2 (by rw [hsd x3 (nI 0)]; exact hl)
        have h4 : MInv 0 σ S4 := h3.ofst F4 s4
        have o4 := s4.obj
        obtain ⟨S5, mf, i5, f5⟩ := m_fails (scr := scr) (l := l) (k := 4) h4
        refine ⟨S5, fun d => ?_, i5, ((hF.tr (F3.mono (by simp))).tr (F4.mono (by simp))).tr (f5.mono (by simp))⟩
        show Ev _ _ _ _ _ _ _ _ (.inl (some (.int (nI 0))), S5)
        refine ev_iload_n i_Md_stepsToAdult_68 rfl ?_
        refine ev_iload_n i_Md_stepsToAdult_69 rfl ?_
        refine ev_icmp_gtN i_Md_stepsToAdult_70 (by omega) (by omega) (fun hc_70 => ?_) (fun hc_70 => ?_)
        · skip
          exfalso; omega
        · skip
          refine ev_aload_n i_Md_stepsToAdult_73 rfl ?_
          refine ev_iload_n i_Md_stepsToAdult_74 rfl ?_
          refine ev_aload_n i_Md_stepsToAdult_75 rfl ?_
          refine ev_get i_Md_stepsToAdult_76 o2 rfl ?_
          refine ev_callV2 i_Md_stepsToAdult_79 rfl o2 (Nat.le_of_ble_eq_true rfl) (m3 _) ?_
          rw [hb, bI_f]
          refine ev_if_eqN i_Md_stepsToAdult_82 (by omega) (fun hc_82 => ?_) (fun hc_82 => ?_)
          · skip
            refine ev_aload_n i_Md_stepsToAdult_87 rfl ?_
            refine ev_iload_n i_Md_stepsToAdult_88 rfl ?_
            refine ev_aload_n i_Md_stepsToAdult_89 rfl ?_
            refine ev_get i_Md_stepsToAdult_90 o3 rfl ?_
            refine ev_aload_n i_Md_stepsToAdult_93 rfl ?_
            refine ev_get i_Md_stepsToAdult_94 o3 rfl ?_
            refine ev_callV3 i_Md_stepsToAdult_97 rfl o3 (Nat.le_of_ble_eq_true rfl) (m4 _) ?_
            refine ev_if_neN i_Md_stepsToAdult_100 (by omega) (fun hc_100 => ?_) (fun hc_100 => ?_)
            · skip
              exfalso; omega
            · skip
              refine ev_aload_n i_Md_stepsToAdult_103 rfl ?_
              refine ev_iconstN (v := 4) i_Md_stepsToAdult_104 (by decide) ?_
              refine ev_callV1 i_Md_stepsToAdult_105 rfl o4 (Nat.le_of_ble_eq_true rfl) (mf _) ?_
              exact ev_iret i_Md_stepsToAdult_108 rfl (by first | rfl | decide)
          · skip
            exfalso; omega
      · rw [if_neg hl, if_neg he, adV_map, adC_map]
        obtain ⟨S4, m4, ⟨x4, s4⟩, ⟨G, b4, c4⟩, F4⟩ := (m_step3 (scr := scr) (l := l) ht (by decide) (by decide) s3).1 (by rw [hsd x3 (nI 0)]; omega)
        have h4 : MInv 0 σ S4 := h3.ofst F4 s4
        have o4 := s4.obj
        have t4 := F4.at (F3.at fx1 (by decide)) (by decide)
        rw [hsd x3 (nI 0)] at c4
        have f5 : Fr trK S4 (S4.put 125 (aI 61 (va_cpy G fx 0 0 61))) := Fr.put _ _ (by simp)
        obtain ⟨S5, m5, r5⟩ := ih (i + 1) (by omega) (S4.put 125 (aI 61 (va_cpy G fx 0 0 61))) _ (h4.putTrial t4) ⟨_, put_self t4, c4.mv (fun j hj => by rw [cpy_at (by omega) (by omega)]; congr 1; omega)⟩ (((hF.tr (F3.mono (by simp))).tr (F4.mono (by simp))).tr f5)
        refine ⟨S5, fun d => ?_, r5⟩
        refine ev_iload_n i_Md_stepsToAdult_68 rfl ?_
        refine ev_iload_n i_Md_stepsToAdult_69 rfl ?_
        refine ev_icmp_gtN i_Md_stepsToAdult_70 (by omega) (by omega) (fun hc_70 => ?_) (fun hc_70 => ?_)
        · skip
          exfalso; omega
        · skip
          refine ev_aload_n i_Md_stepsToAdult_73 rfl ?_
          refine ev_iload_n i_Md_stepsToAdult_74 rfl ?_
          refine ev_aload_n i_Md_stepsToAdult_75 rfl ?_
          refine ev_get i_Md_stepsToAdult_76 o2 rfl ?_
          refine ev_callV2 i_Md_stepsToAdult_79 rfl o2 (Nat.le_of_ble_eq_true rfl) (m3 _) ?_
          rw [hb, bI_f]
          refine ev_if_eqN i_Md_stepsToAdult_82 (by omega) (fun hc_82 => ?_) (fun hc_82 => ?_)
          · skip
            refine ev_aload_n i_Md_stepsToAdult_87 rfl ?_
            refine ev_iload_n i_Md_stepsToAdult_88 rfl ?_
            refine ev_aload_n i_Md_stepsToAdult_89 rfl ?_
            refine ev_get i_Md_stepsToAdult_90 o3 rfl ?_
            refine ev_aload_n i_Md_stepsToAdult_93 rfl ?_
            refine ev_get i_Md_stepsToAdult_94 o3 rfl ?_
            refine ev_callV3 i_Md_stepsToAdult_97 rfl o3 (Nat.le_of_ble_eq_true rfl) (m4 _) ?_
            refine ev_if_neN i_Md_stepsToAdult_100 (by omega) (fun hc_100 => ?_) (fun hc_100 => ?_)
            · skip
              refine ev_aload_n i_Md_stepsToAdult_109 rfl ?_
              refine ev_get i_Md_stepsToAdult_110 o4 rfl ?_
              refine ev_iconstN (v := 0) i_Md_stepsToAdult_113 (by decide) ?_
              refine ev_aload_n i_Md_stepsToAdult_114 rfl ?_
              refine ev_get i_Md_stepsToAdult_115 o4 rfl ?_
              refine ev_iconstN (v := 0) i_Md_stepsToAdult_118 (by decide) ?_
              refine ev_bipushN (v := 61) i_Md_stepsToAdult_119 (by decide) ?_
              refine ev_cpyIN i_Md_stepsToAdult_121 rfl (Nat.le_of_ble_eq_true rfl) b4 t4 (by omega) (by omega) (by decide) (by decide) ?_
              refine ev_iincN_3 (c := 1) i_Md_stepsToAdult_124 (by decide) rfl ?_
              refine ev_goto i_Md_stepsToAdult_127 ?_
              exact m5 d
            · skip
              exfalso; omega
          · skip
            exfalso; omega
theorem m_stepsAd {scr : Scr} {l : Launch} {S : Sto} {σ : Sg} {th : Nat} {t n : Nat} (h : MInv th σ S) (ht : t < 3) (hn : n < 51) (hd : isDet (σ.2.1.1 t)) : MRun scr l 6 M_Md_stepsToAdult [.ref 105, .int (nI t), .int (nI n)] S (some (.int (nI (adV (adS (σ.2.1.1 t) (n + 1) σ.2.1.2.1) 0)))) (adC (adS (σ.2.1.1 t) (n + 1) σ.2.1.2.1)) σ := by
  obtain ⟨dr, mo, sc, h0⟩ := h.get
  obtain ⟨l1, ⟨gw, w1, w2⟩, l3⟩ := h.2.2.1
  obtain ⟨ft, t1⟩ := h.trial
  have o1 : (S.put 105 (mO 0 σ dr mo sc)).1[105]? = _ := put_self h0
  have h1 : MInv 0 σ (S.put 105 (mO 0 σ dr mo sc)) := h.th h0
  have h2 := h1.putTrial (f' := va_cpy gw ft 0 0 61) (put_at t1 (by decide))
  have hF : Fr trK S ((S.put 105 (mO 0 σ dr mo sc)).put 125 (aI 61 (va_cpy gw ft 0 0 61))) := (Fr.put _ _ (by simp)).tr (Fr.put _ _ (by simp))
  obtain ⟨S3, m3, i3, f3⟩ := lp_mSteps (scr := scr) (l := l) (S := S) ht hd (show n ≤ 50 by omega) (n + 1) 0 (by omega) _ σ.2.1.2.1 h2 ⟨_, put_self (put_at t1 (by decide)), w2.mv (fun j hj => by rw [cpy_at (by omega) (by omega)]; congr 1; omega)⟩ hF
  refine ⟨S3, fun d => ?_, i3, f3.m (by decide)⟩
  refine MetA.of rfl (by decide +kernel) (Nat.le_of_ble_eq_true rfl) ?_
  refine ev_aload_n i_Md_stepsToAdult_0 rfl ?_
  refine ev_iload_n i_Md_stepsToAdult_1 rfl ?_
  refine ev_callS1 i_Md_stepsToAdult_2 rfl (Nat.le_of_ble_eq_true rfl) (m_isTable.1 (inR.of (by decide) ht)) ?_
  refine ev_if_neN i_Md_stepsToAdult_5 (by omega) (fun hc_5 => ?_) (fun hc_5 => ?_)
  · skip
    refine ev_iload_n i_Md_stepsToAdult_12 rfl ?_
    refine ev_iconstN (v := 0) i_Md_stepsToAdult_13 (by decide) ?_
    refine ev_bipushN (v := 50) i_Md_stepsToAdult_14 (by decide) ?_
    refine ev_callS3 i_Md_stepsToAdult_16 rfl (Nat.le_of_ble_eq_true rfl) (m_in.1 ((inR_inB (n := 51) (by decide) (by decide)).mp (inR.of (by decide) hn))) ?_
    refine ev_if_neN i_Md_stepsToAdult_19 (by omega) (fun hc_19 => ?_) (fun hc_19 => ?_)
    · skip
      refine ev_aload_n i_Md_stepsToAdult_26 rfl ?_
      refine ev_iload_n i_Md_stepsToAdult_27 rfl ?_
      refine ev_callV1 i_Md_stepsToAdult_28 rfl h0 (Nat.le_of_ble_eq_true rfl) ((m_det h ht).1 hd) ?_
      refine ev_if_neN i_Md_stepsToAdult_31 (by omega) (fun hc_31 => ?_) (fun hc_31 => ?_)
      · skip
        refine ev_iconstN (v := 0) i_Md_stepsToAdult_38 (by decide) ?_
        refine ev_mput_thrown i_Md_stepsToAdult_39 h0 ?_
        refine ev_aload_n i_Md_stepsToAdult_42 rfl ?_
        refine ev_get i_Md_stepsToAdult_43 o1 rfl ?_
        refine ev_if_leN i_Md_stepsToAdult_46 (by omega) (fun hc_46 => ?_) (fun hc_46 => ?_)
        · skip
          refine ev_aload_n i_Md_stepsToAdult_51 rfl ?_
          refine ev_get i_Md_stepsToAdult_52 o1 rfl ?_
          refine ev_iconstN (v := 0) i_Md_stepsToAdult_55 (by decide) ?_
          refine ev_aload_n i_Md_stepsToAdult_56 rfl ?_
          refine ev_get i_Md_stepsToAdult_57 o1 rfl ?_
          refine ev_iconstN (v := 0) i_Md_stepsToAdult_60 (by decide) ?_
          refine ev_bipushN (v := 61) i_Md_stepsToAdult_61 (by decide) ?_
          refine ev_cpyIN i_Md_stepsToAdult_63 rfl (Nat.le_of_ble_eq_true rfl) (put_at w1 (by decide)) (put_at t1 (by decide)) (by omega) (by omega) (by decide) (by decide) ?_
          refine ev_iconstN (v := 0) i_Md_stepsToAdult_66 (by decide) ?_
          refine ev_ist_n_3 i_Md_stepsToAdult_67 rfl ?_
          exact m3 d
        · skip
          exfalso; omega
      · skip
        exfalso; omega
    · skip
      exfalso; omega
  · skip
    exfalso; omega

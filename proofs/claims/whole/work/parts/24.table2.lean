/-! dropRule, det, copy -/
theorem TabR.ruleDel {fs fl fe : Nat → Int32} {rc p q : Nat} {T : TabV} (hp : p < 6) (hq : q < 6) (hz : (T.2 p q).isSome) (hR : TabR fs fl fe rc T) : TabR fs (upd fl (18 + p * 6 + q) (-1)) fe (rc - 1) (delRule T p q) := by
  have hrc := rcount_del hp hq hz
  refine ⟨fun a ha => ?_, fun a b ha hb => ?_, by have := hR.2.2; omega⟩
  · have hold := hR.1 a ha
    refine ⟨hold.1, hold.2.1, hold.2.2.1, fun k hk => ⟨?_, (hold.2.2.2 k hk).2⟩⟩
    have hk3 : k < (T.1 a).length := hk
    have h3 := hold.2.2.1
    obtain ⟨s1, s2⟩ := (hold.2.2.2 k hk).1
    exact ⟨by unfold upd; rw [if_neg (by omega)]; exact s1, s2⟩
  · by_cases hab : a = p ∧ b = q
    · obtain ⟨rfl, rfl⟩ := hab
      refine ⟨fun _ => by unfold upd; rw [if_pos rfl], fun z hz => ?_⟩
      simp [delRule] at hz
    · have e : (delRule T p q).2 a b = T.2 a b := by
        show (if a = p ∧ b = q then _ else _) = _
        rw [if_neg hab]
      rw [e]
      have hs : 18 + a * 6 + b ≠ 18 + p * 6 + q := by omega
      obtain ⟨o1, o2⟩ := hR.2.1 a b ha hb
      refine ⟨fun z => by unfold upd; rw [if_neg hs]; exact o1 z, fun z hz => ?_⟩
      obtain ⟨⟨s1, s2⟩, s3⟩ := o2 z hz
      exact ⟨⟨by unfold upd; rw [if_neg hs]; exact s1, s2⟩, s3⟩
theorem t_delRule {scr : Scr} {l : Launch} {S : Sto} {t p q : Nat} {T : TabV} (h0 : TabAt S t T) (hp : p < 6) (hq : q < 6) (hz : (T.2 p q).isSome) : ∃ S2, (∀ d, MetA scr l (d + 2) M_Tb_dropRule [.ref t, .int (nI p), .int (nI q)] S (.inl (some (.int (nI 1))), S2)) ∧ TabAt S2 t (delRule T p q) ∧ Fr [t, t + 1, t + 2, t + 3] S S2 := by
  obtain ⟨rc, fs, fl, fe, hT, hR⟩ := id h0
  have ne := hT.ne
  have hrc : rc ≤ 36 := by rw [hR.2.2]; exact rcount_le T
  have hrc1 := rcount_del hp hq hz
  have hrc2 := hR.2.2
  have hi : (if (T.2 p q).isSome then 1 else 0) = 1 := if_pos hz
  have ht1 : (S.put (t + 2) (aI 54 (upd fl (18 + p * 6 + q) (-1)))).1[t]? = some (oB 9 [.ref (t + 1), .ref (t + 2), .ref (t + 3), .int (nI rc)]) := put_at hT.1 ne.1.2.1
  refine ⟨(S.put (t + 2) (aI 54 (upd fl (18 + p * 6 + q) (-1)))).put t (oB 9 [.ref (t + 1), .ref (t + 2), .ref (t + 3), .int (nI (rc - 1))]), fun d => ?_, ⟨rc - 1, fs, _, fe, ⟨put_self ht1, put_at (put_at hT.2.1 ne.2.1.symm) ne.1.1.symm, put_at (put_self hT.2.2.1) ne.1.2.1.symm, put_at (put_at hT.2.2.2 ne.2.2.2) ne.1.2.2.symm⟩, TabR.ruleDel hp hq hz hR⟩, (Fr.put _ _ (by simp)).tr (Fr.put _ _ (by simp))⟩
  refine MetA.of rfl (by decide +kernel) (Nat.le_of_ble_eq_true rfl) ?_
  refine ev_aload_n i_Tb_dropRule_0 rfl ?_
  refine ev_iload_n i_Tb_dropRule_1 rfl ?_
  refine ev_iload_n i_Tb_dropRule_2 rfl ?_
  refine ev_callV2 i_Tb_dropRule_3 rfl hT.1 (Nat.le_of_ble_eq_true rfl) (t_hasRule h0 hp hq) ?_
  refine ev_if_neN i_Tb_dropRule_6 (by omega) (fun hc_6 => ?_) (fun hc_6 => ?_)
  · skip
    refine ev_aload_n i_Tb_dropRule_11 rfl ?_
    refine ev_get i_Tb_dropRule_12 hT.1 rfl ?_
    refine ev_iload_n i_Tb_dropRule_15 rfl ?_
    refine ev_iload_n i_Tb_dropRule_16 rfl ?_
    refine ev_callS2 i_Tb_dropRule_17 rfl (Nat.le_of_ble_eq_true rfl) c_Tb_ruleSlot ?_
    refine ev_iconst (v := -1) i_Tb_dropRule_20 (by decide) ?_
    refine ev_iastN i_Tb_dropRule_21 hT.2.2.1 (by omega) (by decide) ?_
    refine ev_aload_n i_Tb_dropRule_22 rfl ?_
    refine ev_dup i_Tb_dropRule_23 rfl ?_
    refine ev_get i_Tb_dropRule_24 ht1 rfl ?_
    refine ev_iconstN (v := 1) i_Tb_dropRule_27 (by decide) ?_
    first | refine ev_isubN i_Tb_dropRule_28 (by omega) ?_ | refine ev_isub i_Tb_dropRule_28 ?_
    refine ev_put i_Tb_dropRule_29 ht1 (Nat.le_of_ble_eq_true rfl) rfl rfl ?_
    refine ev_iconstN (v := 1) i_Tb_dropRule_32 (by decide) ?_
    exact ev_iret i_Tb_dropRule_33 rfl (by first | rfl | decide)
  · skip
    exfalso; omega
theorem t_delRule_no {scr : Scr} {l : Launch} {S : Sto} {t p q d : Nat} {T : TabV} (h0 : TabAt S t T) (hp : p < 6) (hq : q < 6) (hz : ¬ (T.2 p q).isSome) : MetA scr l (d + 2) M_Tb_dropRule [.ref t, .int (nI p), .int (nI q)] S (.inl (some (.int (nI 0))), S) := by
  obtain ⟨rc, fs, fl, fe, hT, hR⟩ := id h0
  have hi : (if (T.2 p q).isSome then 1 else 0) = 0 := if_neg hz
  refine MetA.of rfl (by decide +kernel) (Nat.le_of_ble_eq_true rfl) ?_
  refine ev_aload_n i_Tb_dropRule_0 rfl ?_
  refine ev_iload_n i_Tb_dropRule_1 rfl ?_
  refine ev_iload_n i_Tb_dropRule_2 rfl ?_
  refine ev_callV2 i_Tb_dropRule_3 rfl hT.1 (Nat.le_of_ble_eq_true rfl) (t_hasRule h0 hp hq) ?_
  refine ev_if_neN i_Tb_dropRule_6 (by omega) (fun hc_6 => ?_) (fun hc_6 => ?_)
  · skip
    exfalso; omega
  · skip
    refine ev_iconstN (v := 0) i_Tb_dropRule_9 (by decide) ?_
    exact ev_iret i_Tb_dropRule_10 rfl (by first | rfl | decide)
def isDet (T : TabV) : Prop := ∀ a, a < 6 → (T.1 a).length = 1
theorem t_det {scr : Scr} {l : Launch} {S : Sto} {t d : Nat} {T : TabV} (h : TabAt S t T) : (isDet T → MetA scr l d M_Tb_leavesNoChoice [.ref t] S (.inl (some (.int (nI 1))), S)) ∧ (¬ isDet T → MetA scr l d M_Tb_leavesNoChoice [.ref t] S (.inl (some (.int (nI 0))), S)) := by
  obtain ⟨rc, fs, fl, fe, hT, hR⟩ := h
  have hc := c_Tb_leavesNoChoice (scr := scr) (l := l) (d := d) hT
  have hiff : detP fs = true ↔ isDet T := by
    rw [detP_iff]
    constructor
    · intro q a ha
      have h1 := hR.1 a ha
      have h2 := q a ha
      rw [h1.1] at h2
      exact nI_inj (by omega) (by omega) h2
    · intro q a ha
      rw [(hR.1 a ha).1, q a ha]
  constructor
  · intro q
    rw [if_pos (hiff.mpr q)] at hc
    exact hc
  · intro q
    rw [if_neg (fun z => q (hiff.mp z))] at hc
    exact hc
theorem cpy_fill {α : Type} (f g : Nat → α) (n : Nat) : va_cpy f g 0 0 n = fillF g 0 f n := by
  funext j
  unfold va_cpy fillF
  rw [Nat.zero_add, Nat.zero_add]
theorem fill_eq {f g : Nat → Int32} {n j : Nat} (h : j < n) : fillF g 0 f n j = f j := by
  unfold fillF
  rw [if_pos (by omega), Nat.sub_zero]
theorem TabR.same {fs fl fe fs' fl' fe' : Nat → Int32} {rc : Nat} {T : TabV} (h : TabR fs fl fe rc T) (h1 : ∀ j, j < 6 → fs' j = fs j) (h2 : ∀ j, j < 54 → fl' j = fl j) (h3 : ∀ j, j < 216 → fe' j = fe j) : TabR fs' fl' fe' rc T := by
  refine ⟨fun a ha => ?_, fun a b ha hb => ?_, h.2.2⟩
  · obtain ⟨q1, q2, q3, q4⟩ := h.1 a ha
    refine ⟨by rw [h1 a ha]; exact q1, q2, q3, fun k hk => ?_⟩
    obtain ⟨⟨s1, s2⟩, s3⟩ := q4 k hk
    exact ⟨⟨by rw [h2 _ (by omega)]; exact s1, fun i hi => by rw [h3 _ (by have := s3.1; omega)]; exact s2 i hi⟩, s3⟩
  · obtain ⟨q1, q2⟩ := h.2.1 a b ha hb
    refine ⟨fun z => by rw [h2 _ (by omega)]; exact q1 z, fun p hp => ?_⟩
    obtain ⟨⟨s1, s2⟩, s3⟩ := q2 p hp
    exact ⟨⟨by rw [h2 _ (by omega)]; exact s1, fun i hi => by rw [h3 _ (by have := s3.1; omega)]; exact s2 i hi⟩, s3⟩
theorem t_copy {scr : Scr} {l : Launch} {S : Sto} {t u : Nat} {T U : TabV} (h : TabAt S t T) (h' : TabAt S u U) : ∃ S2, (∀ d, MetA scr l d M_Tb_copy [.ref t, .ref u] S (.inl none, S2)) ∧ TabAt S2 t U ∧ Fr [t, t + 1, t + 2, t + 3] S S2 := by
  obtain ⟨rc, fs, fl, fe, hT, hR⟩ := h
  obtain ⟨rc', gs, gl, ge, hU, hQ⟩ := h'
  have ne := hT.ne
  have a1 : t + 1 ≠ u := cell_ne hT.2.1 hU.1 (by simp)
  have a2 : t + 2 ≠ u := cell_ne hT.2.2.1 hU.1 (by simp)
  have a3 : t + 3 ≠ u := cell_ne hT.2.2.2 hU.1 (by simp)
  have a4 : t + 1 ≠ u + 2 := cell_ne hT.2.1 hU.2.2.1 (by simp)
  have a5 : t + 1 ≠ u + 3 := cell_ne hT.2.1 hU.2.2.2 (by simp)
  have a6 : t + 2 ≠ u + 3 := cell_ne hT.2.2.1 hU.2.2.2 (by simp)
  obtain ⟨S1, hS1⟩ : ∃ z, z = S.put (t + 1) (aI 6 (fillF fs 0 gs 6)) := ⟨_, rfl⟩
  obtain ⟨S2, hS2⟩ : ∃ z, z = S1.put (t + 2) (aI 54 (fillF fl 0 gl 54)) := ⟨_, rfl⟩
  obtain ⟨S3, hS3⟩ : ∃ z, z = S2.put (t + 3) (aI 216 (fillF fe 0 ge 216)) := ⟨_, rfl⟩
  have t1 : S1.1[t]? = some (oB 9 [.ref (t + 1), .ref (t + 2), .ref (t + 3), .int (nI rc)]) := by rw [hS1]; exact put_at hT.1 ne.1.1
  have u1 : S1.1[u]? = some (oB 9 [.ref (u + 1), .ref (u + 2), .ref (u + 3), .int (nI rc')]) := by rw [hS1]; exact put_at hU.1 a1
  have tl1 : S1.1[t + 2]? = some (aI 54 fl) := by rw [hS1]; exact put_at hT.2.2.1 ne.2.1
  have ul1 : S1.1[u + 2]? = some (aI 54 gl) := by rw [hS1]; exact put_at hU.2.2.1 a4
  have te1 : S1.1[t + 3]? = some (aI 216 fe) := by rw [hS1]; exact put_at hT.2.2.2 ne.2.2.1
  have ue1 : S1.1[u + 3]? = some (aI 216 ge) := by rw [hS1]; exact put_at hU.2.2.2 a5
  have ts1 : S1.1[t + 1]? = some (aI 6 (fillF fs 0 gs 6)) := by rw [hS1]; exact put_self hT.2.1
  have t2 : S2.1[t]? = some (oB 9 [.ref (t + 1), .ref (t + 2), .ref (t + 3), .int (nI rc)]) := by rw [hS2]; exact put_at t1 ne.1.2.1
  have u2 : S2.1[u]? = some (oB 9 [.ref (u + 1), .ref (u + 2), .ref (u + 3), .int (nI rc')]) := by rw [hS2]; exact put_at u1 a2
  have te2 : S2.1[t + 3]? = some (aI 216 fe) := by rw [hS2]; exact put_at te1 ne.2.2.2
  have ue2 : S2.1[u + 3]? = some (aI 216 ge) := by rw [hS2]; exact put_at ue1 a6
  have ts2 : S2.1[t + 1]? = some (aI 6 (fillF fs 0 gs 6)) := by rw [hS2]; exact put_at ts1 ne.2.1.symm
  have tl2 : S2.1[t + 2]? = some (aI 54 (fillF fl 0 gl 54)) := by rw [hS2]; exact put_self tl1
  have t3 : S3.1[t]? = some (oB 9 [.ref (t + 1), .ref (t + 2), .ref (t + 3), .int (nI rc)]) := by rw [hS3]; exact put_at t2 ne.1.2.2
  have u3 : S3.1[u]? = some (oB 9 [.ref (u + 1), .ref (u + 2), .ref (u + 3), .int (nI rc')]) := by rw [hS3]; exact put_at u2 a3
  have ts3 : S3.1[t + 1]? = some (aI 6 (fillF fs 0 gs 6)) := by rw [hS3]; exact put_at ts2 ne.2.2.1.symm
  have tl3 : S3.1[t + 2]? = some (aI 54 (fillF fl 0 gl 54)) := by rw [hS3]; exact put_at tl2 ne.2.2.2.symm
  have te3 : S3.1[t + 3]? = some (aI 216 (fillF fe 0 ge 216)) := by rw [hS3]; exact put_self te2
  refine ⟨S3.put t (oB 9 [.ref (t + 1), .ref (t + 2), .ref (t + 3), .int (nI rc')]), fun d => ?_, ⟨rc', _, _, _, ⟨put_self t3, put_at ts3 ne.1.1.symm, put_at tl3 ne.1.2.1.symm, put_at te3 ne.1.2.2.symm⟩, TabR.same hQ (fun j hj => fill_eq hj) (fun j hj => fill_eq hj) (fun j hj => fill_eq hj)⟩, ?_⟩
  · refine MetA.of rfl (by decide +kernel) (Nat.le_of_ble_eq_true rfl) ?_
    refine ev_aload_n i_Tb_copy_0 rfl ?_
    refine ev_get i_Tb_copy_1 hU.1 rfl ?_
    refine ev_iconstN (v := 0) i_Tb_copy_4 (by decide) ?_
    refine ev_aload_n i_Tb_copy_5 rfl ?_
    refine ev_get i_Tb_copy_6 hT.1 rfl ?_
    refine ev_iconstN (v := 0) i_Tb_copy_9 (by decide) ?_
    refine ev_bipushN (v := 6) i_Tb_copy_10 (by decide) ?_
    have e0_12 : (nI 0).toNatClampNeg = 0 := nI_clamp (by omega)
    have em_12 : (nI 6).toNatClampNeg = 6 := nI_clamp (by omega)
    refine ev_cpyI i_Tb_copy_12 rfl (Nat.le_of_ble_eq_true rfl) hU.2.1 hT.2.1 (nI_pos (by omega)) (nI_pos (by omega)) (nI_pos (by omega)) (by rw [e0_12, em_12]; exact Nat.le_refl _) (by rw [e0_12, em_12]; exact Nat.le_refl _) ?_
    rw [e0_12, em_12, cpy_fill, ← hS1]
    refine ev_aload_n i_Tb_copy_15 rfl ?_
    refine ev_get i_Tb_copy_16 u1 rfl ?_
    refine ev_iconstN (v := 0) i_Tb_copy_19 (by decide) ?_
    refine ev_aload_n i_Tb_copy_20 rfl ?_
    refine ev_get i_Tb_copy_21 t1 rfl ?_
    refine ev_iconstN (v := 0) i_Tb_copy_24 (by decide) ?_
    refine ev_bipushN (v := 54) i_Tb_copy_25 (by decide) ?_
    have e0_27 : (nI 0).toNatClampNeg = 0 := nI_clamp (by omega)
    have em_27 : (nI 54).toNatClampNeg = 54 := nI_clamp (by omega)
    refine ev_cpyI i_Tb_copy_27 rfl (Nat.le_of_ble_eq_true rfl) ul1 tl1 (nI_pos (by omega)) (nI_pos (by omega)) (nI_pos (by omega)) (by rw [e0_27, em_27]; exact Nat.le_refl _) (by rw [e0_27, em_27]; exact Nat.le_refl _) ?_
    rw [e0_27, em_27, cpy_fill, ← hS2]
    refine ev_aload_n i_Tb_copy_30 rfl ?_
    refine ev_get i_Tb_copy_31 u2 rfl ?_
    refine ev_iconstN (v := 0) i_Tb_copy_34 (by decide) ?_
    refine ev_aload_n i_Tb_copy_35 rfl ?_
    refine ev_get i_Tb_copy_36 t2 rfl ?_
    refine ev_iconstN (v := 0) i_Tb_copy_39 (by decide) ?_
    refine ev_sipushN (v := 216) i_Tb_copy_40 (by decide) ?_
    have e0_43 : (nI 0).toNatClampNeg = 0 := nI_clamp (by omega)
    have em_43 : (nI 216).toNatClampNeg = 216 := nI_clamp (by omega)
    refine ev_cpyI i_Tb_copy_43 rfl (Nat.le_of_ble_eq_true rfl) ue2 te2 (nI_pos (by omega)) (nI_pos (by omega)) (nI_pos (by omega)) (by rw [e0_43, em_43]; exact Nat.le_refl _) (by rw [e0_43, em_43]; exact Nat.le_refl _) ?_
    rw [e0_43, em_43, cpy_fill, ← hS3]
    refine ev_aload_n i_Tb_copy_46 rfl ?_
    refine ev_aload_n i_Tb_copy_47 rfl ?_
    refine ev_get i_Tb_copy_48 u3 rfl ?_
    refine ev_put i_Tb_copy_51 t3 (Nat.le_of_ble_eq_true rfl) rfl rfl ?_
    exact ev_vret i_Tb_copy_54 rfl
  · refine Fr.tr ?_ (Fr.put _ _ (by simp))
    rw [hS3, hS2, hS1]
    exact ((Fr.put _ _ (by simp)).tr (Fr.put _ _ (by simp))).tr (Fr.put _ _ (by simp))

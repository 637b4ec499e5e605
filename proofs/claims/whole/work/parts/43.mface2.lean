/-! the model m: its face, rules and words -/
theorem ev_cpyIN {scr : Scr} {l : Launch} {d : Nat} {M : Mth} {pc : Nat} {L : List (Option Value)} {st : List Value} {S : Sto} {r : Res} {a b n0 n1 sp dp n : Nat} {f g : Nat → Int32} (h : iCpy M pc) (hlen : L.length = M.2.2.1) (hcat : (st.map fun v => v.category).sum ≤ 8) (ha : S.1[a]? = some (aI n0 f)) (hb : S.1[b]? = some (aI n1 g)) (h4 : sp + n ≤ n0) (h5 : dp + n ≤ n1) (hn0 : n0 < 2 ^ 31) (hn1 : n1 < 2 ^ 31) (k : Ev scr l d M (pc + 3) L st (S.put b (aI n1 (va_cpy f g sp dp n))) r) : Ev scr l d M pc L (.int (nI n) :: .int (nI dp) :: .ref b :: .int (nI sp) :: .ref a :: st) S r := by
  refine ev_cpyI h hlen hcat ha hb (nI_pos (by omega)) (nI_pos (by omega)) (nI_pos (by omega)) (by rw [nI_clamp (by omega), nI_clamp (by omega)]; exact h4) (by rw [nI_clamp (by omega), nI_clamp (by omega)]; exact h5) ?_
  rw [nI_clamp (by omega), nI_clamp (by omega), nI_clamp (by omega)]
  exact k
theorem m_setRule_1 {scr : Scr} {l : Launch} {S : Sto} {σ : Sg} {th : Nat} {x y z : Int32} (h : MInv th σ S) (hq : ¬ (inR 3 x ∧ inR 6 y ∧ inR 6 z)) : MRun scr l 3 M_Md_setContextRule [.ref 105, .int x, .int y, .int z] S (some (.int (nI 0))) 1 σ := by
  refine MRun.th h (fun dr mo sc h0 d => ?_)
  have o1 : (S.put 105 (mO 1 σ dr mo sc)).1[105]? = _ := put_self h0
  refine MetA.of rfl (by decide +kernel) (Nat.le_of_ble_eq_true rfl) ?_
  refine ev_aload_n i_Md_setContextRule_0 rfl ?_
  refine ev_iload_n i_Md_setContextRule_1 rfl ?_
  refine ev_iload_n i_Md_setContextRule_2 rfl ?_
  refine ev_iload_n i_Md_setContextRule_3 rfl ?_
  refine ev_callS3 i_Md_setContextRule_4 rfl (Nat.le_of_ble_eq_true rfl) (m_areLetters.2 hq) ?_
  refine ev_if_neN i_Md_setContextRule_7 (by omega) (fun hc_7 => ?_) (fun hc_7 => ?_)
  · skip
    exfalso; omega
  · skip
    refine ev_iconstN (v := 1) i_Md_setContextRule_10 (by decide) ?_
    refine ev_goto i_Md_setContextRule_11 ?_
    refine ev_mput_thrown i_Md_setContextRule_27 h0 ?_
    refine ev_aload_n i_Md_setContextRule_30 rfl ?_
    refine ev_get i_Md_setContextRule_31 o1 rfl ?_
    refine ev_if_leN i_Md_setContextRule_34 (by omega) (fun hc_34 => ?_) (fun hc_34 => ?_)
    · skip
      exfalso; omega
    · skip
      refine ev_iconstN (v := 0) i_Md_setContextRule_37 (by decide) ?_
      exact ev_iret i_Md_setContextRule_38 rfl (by first | rfl | decide)
theorem m_setRule_2 {scr : Scr} {l : Launch} {S : Sto} {σ : Sg} {th : Nat} {t a b : Nat} (h : MInv th σ S) (ht : t < 3) (ha : a < 6) (hb : b < 6) (hw : ¬ (isW σ.1 ∧ σ.1.length ≤ 4)) : MRun scr l 3 M_Md_setContextRule [.ref 105, .int (nI t), .int (nI a), .int (nI b)] S (some (.int (nI 0))) 2 σ := by
  refine MRun.th h (fun dr mo sc h0 d => ?_)
  have o1 : (S.put 105 (mO 2 σ dr mo sc)).1[105]? = _ := put_self h0
  refine MetA.of rfl (by decide +kernel) (Nat.le_of_ble_eq_true rfl) ?_
  refine ev_aload_n i_Md_setContextRule_0 rfl ?_
  refine ev_iload_n i_Md_setContextRule_1 rfl ?_
  refine ev_iload_n i_Md_setContextRule_2 rfl ?_
  refine ev_iload_n i_Md_setContextRule_3 rfl ?_
  refine ev_callS3 i_Md_setContextRule_4 rfl (Nat.le_of_ble_eq_true rfl) (m_areLetters.1 ⟨inR.of (by decide) ht, inR.of (by decide) ha, inR.of (by decide) hb⟩) ?_
  refine ev_if_neN i_Md_setContextRule_7 (by omega) (fun hc_7 => ?_) (fun hc_7 => ?_)
  · skip
    refine ev_aload_n i_Md_setContextRule_14 rfl ?_
    refine ev_iconstN (v := 4) i_Md_setContextRule_15 (by decide) ?_
    refine ev_callV1 i_Md_setContextRule_16 rfl h0 (Nat.le_of_ble_eq_true rfl) ((m_isWord h (by omega)).2 hw) ?_
    refine ev_if_neN i_Md_setContextRule_19 (by omega) (fun hc_19 => ?_) (fun hc_19 => ?_)
    · skip
      exfalso; omega
    · skip
      refine ev_iconstN (v := 2) i_Md_setContextRule_22 (by decide) ?_
      refine ev_goto i_Md_setContextRule_23 ?_
      refine ev_mput_thrown i_Md_setContextRule_27 h0 ?_
      refine ev_aload_n i_Md_setContextRule_30 rfl ?_
      refine ev_get i_Md_setContextRule_31 o1 rfl ?_
      refine ev_if_leN i_Md_setContextRule_34 (by omega) (fun hc_34 => ?_) (fun hc_34 => ?_)
      · skip
        exfalso; omega
      · skip
        refine ev_iconstN (v := 0) i_Md_setContextRule_37 (by decide) ?_
        exact ev_iret i_Md_setContextRule_38 rfl (by first | rfl | decide)
  · skip
    exfalso; omega
theorem RulesIs.some {T : TabV} {m : Nat} {r : Nat → RuleV} {a b : Nat} {p : List Nat} (h : RulesIs T m r) (ha : a < 6) (hb : b < 6) (hp : T.2 a b = some p) : ∃ k, k < m ∧ r k = (a, b, p) := (h.1 a b p ha hb).mp hp
theorem RulesIs.no {T : TabV} {m : Nat} {r : Nat → RuleV} {a b : Nat} (h : RulesIs T m r) (ha : a < 6) (hb : b < 6) (hp : ¬ (T.2 a b).isSome) : ∀ k, k < m → ¬ ((r k).1 = a ∧ (r k).2.1 = b) := fun k hk q => hp (by rw [(h.1 a b (r k).2.2 ha hb).mpr ⟨k, hk, by rw [← q.1, ← q.2]⟩]; rfl)
theorem m_setRule_old {scr : Scr} {l : Launch} {S : Sto} {σ : Sg} {th : Nat} {t a b : Nat} (h : MInv th σ S) (ht : t < 3) (ha : a < 6) (hb : b < 6) (hw : isW σ.1) (hl : σ.1.length ≤ 4) (hz : ((σ.2.1.1 t).2 a b).isSome) : MRun scr l 3 M_Md_setContextRule [.ref 105, .int (nI t), .int (nI a), .int (nI b)] S (some (.int (nI 1))) 0 (σ.1, setTab σ.2.1 t (setRule (σ.2.1.1 t) a b (wOf σ.1)), σ.2.2) := by
  obtain ⟨dr, mo, sc, h0⟩ := h.get
  obtain ⟨⟨g, t1, t2⟩, c2⟩ := h.2.2.1
  obtain ⟨hL, m, r, hR, hI⟩ := t2 t ht
  have hI : RulesIs (σ.2.1.1 t) m r := hI
  have h6 := hR.2.1
  have o1 : (S.put 105 (mO 0 σ dr mo sc)).1[105]? = _ := put_self h0
  have p1 : (S.put 105 (mO 0 σ dr mo sc)).1[106]? = _ := put_at t1 (by decide)
  obtain ⟨h60, gt, g1, g2⟩ := h.2.1
  have gw : ∀ j, j < σ.1.length → gt j = nI (σ.1.getD j 0) ∧ 97 ≤ σ.1.getD j 0 ∧ σ.1.getD j 0 < 103 := fun j hj => ⟨(g2 j hj).1, hw j hj⟩
  have hx := wOf_PrOK hw hl
  have hxl : (wOf σ.1).length = σ.1.length := wOf_len _
  have q1 : (S.put 105 (mO 0 σ dr mo sc)).1[110]? = _ := put_at g1 (by decide)
  obtain ⟨pp, hp⟩ := Option.isSome_iff_exists.mp hz
  obtain ⟨k, hk, ek⟩ := hI.some ha hb hp
  have hF : Fr [105, 106] S ((S.put 105 (mO 0 σ dr mo sc)).put 106 (aI 417 (putw g (139 * t + 96 + 1 + 7 * k + 2) (wOf σ.1) (wOf σ.1).length))) := ((Fr.put _ _ (by simp)).tr (Fr.put _ _ (by simp)))
  refine ⟨((S.put 105 (mO 0 σ dr mo sc)).put 106 (aI 417 (putw g (139 * t + 96 + 1 + 7 * k + 2) (wOf σ.1) (wOf σ.1).length))), fun d => ?_, ⟨⟨dr, mo, sc, put_at o1 (by decide)⟩, h.2.1.fr hF (by decide), ⟨⟨_, put_self p1, TabsM.upd t2 ht (fun j hj => by rw [putw_out (by omega)]) (MTab.setR hL hR hI ha hb hx hk (by rw [ek]) (by rw [ek]))⟩, ⟨c2.1.choose, hF.at c2.1.choose_spec.1 (by decide), c2.1.choose_spec.2⟩, ⟨c2.2.1.choose, hF.at c2.2.1.choose_spec.1 (by decide), c2.2.1.choose_spec.2⟩, c2.2.2.choose, hF.at c2.2.2.choose_spec.1 (by decide), c2.2.2.choose_spec.2⟩, h.2.2.2.1.fr hF ⟨by decide, by decide, by decide, by decide⟩, h.2.2.2.2.1.fr hF (by decide), h.2.2.2.2.2.fr hF (fun k a b => by simp; omega)⟩, hF.m (by decide)⟩
  refine MetA.of rfl (by decide +kernel) (Nat.le_of_ble_eq_true rfl) ?_
  refine ev_aload_n i_Md_setContextRule_0 rfl ?_
  refine ev_iload_n i_Md_setContextRule_1 rfl ?_
  refine ev_iload_n i_Md_setContextRule_2 rfl ?_
  refine ev_iload_n i_Md_setContextRule_3 rfl ?_
  refine ev_callS3 i_Md_setContextRule_4 rfl (Nat.le_of_ble_eq_true rfl) (m_areLetters.1 ⟨inR.of (by decide) ht, inR.of (by decide) ha, inR.of (by decide) hb⟩) ?_
  refine ev_if_neN i_Md_setContextRule_7 (by omega) (fun hc_7 => ?_) (fun hc_7 => ?_)
  · skip
    refine ev_aload_n i_Md_setContextRule_14 rfl ?_
    refine ev_iconstN (v := 4) i_Md_setContextRule_15 (by decide) ?_
    refine ev_callV1 i_Md_setContextRule_16 rfl h0 (Nat.le_of_ble_eq_true rfl) ((m_isWord h (by omega)).1 ⟨hw, hl⟩) ?_
    refine ev_if_neN i_Md_setContextRule_19 (by omega) (fun hc_19 => ?_) (fun hc_19 => ?_)
    · skip
      refine ev_iconstN (v := 0) i_Md_setContextRule_26 (by decide) ?_
      refine ev_mput_thrown i_Md_setContextRule_27 h0 ?_
      refine ev_aload_n i_Md_setContextRule_30 rfl ?_
      refine ev_get i_Md_setContextRule_31 o1 rfl ?_
      refine ev_if_leN i_Md_setContextRule_34 (by omega) (fun hc_34 => ?_) (fun hc_34 => ?_)
      · skip
        refine ev_aload_n i_Md_setContextRule_39 rfl ?_
        refine ev_iload_n i_Md_setContextRule_40 rfl ?_
        refine ev_iload_n i_Md_setContextRule_41 rfl ?_
        refine ev_iload_n i_Md_setContextRule_42 rfl ?_
        refine ev_callV3 i_Md_setContextRule_43 rfl o1 (Nat.le_of_ble_eq_true rfl) (m_findRule o1 p1 hR ht ha hb hk (by rw [ek]) (by rw [ek])) ?_
        refine ev_ist_4 i_Md_setContextRule_46 rfl ?_
        refine ev_iload i_Md_setContextRule_48 rfl ?_
        refine ev_if_lt_N i_Md_setContextRule_50 (by omega) (fun hc_50 => ?_) (fun hc_50 => ?_)
        · skip
          exfalso; omega
        · skip
          refine ev_iconstN (v := 1) i_Md_setContextRule_53 (by decide) ?_
          refine ev_goto i_Md_setContextRule_54 ?_
          refine ev_ist_5 i_Md_setContextRule_58 rfl ?_
          refine ev_iload i_Md_setContextRule_60 rfl ?_
          refine ev_if_neN i_Md_setContextRule_62 (by omega) (fun hc_62 => ?_) (fun hc_62 => ?_)
          · skip
            refine ev_aload_n i_Md_setContextRule_129 rfl ?_
            refine ev_aload_n i_Md_setContextRule_130 rfl ?_
            refine ev_get i_Md_setContextRule_131 o1 rfl ?_
            refine ev_iload i_Md_setContextRule_134 rfl ?_
            refine ev_iconstN (v := 2) i_Md_setContextRule_136 (by decide) ?_
            first | refine ev_iaddN i_Md_setContextRule_137 ?_ | refine ev_iadd i_Md_setContextRule_137 ?_
            refine ev_callV2 i_Md_setContextRule_138 rfl o1 (Nat.le_of_ble_eq_true rfl) (m_putWord o1 q1 h60 gw p1 (by decide) (by omega) (by decide)) ?_
            refine ev_iload i_Md_setContextRule_141 rfl ?_
            exact ev_iret i_Md_setContextRule_143 rfl (by first | rfl | decide)
          · skip
            exfalso; omega
      · skip
        exfalso; omega
    · skip
      exfalso; omega
  · skip
    exfalso; omega
theorem m_setRule_new {scr : Scr} {l : Launch} {S : Sto} {σ : Sg} {th : Nat} {t a b : Nat} (h : MInv th σ S) (ht : t < 3) (ha : a < 6) (hb : b < 6) (hw : isW σ.1) (hl : σ.1.length ≤ 4) (hz : ¬ ((σ.2.1.1 t).2 a b).isSome) (hc : rcount (σ.2.1.1 t) < 6) : MRun scr l 3 M_Md_setContextRule [.ref 105, .int (nI t), .int (nI a), .int (nI b)] S (some (.int (nI 0))) 0 (σ.1, setTab σ.2.1 t (setRule (σ.2.1.1 t) a b (wOf σ.1)), σ.2.2) := by
  obtain ⟨dr, mo, sc, h0⟩ := h.get
  obtain ⟨⟨g, t1, t2⟩, c2⟩ := h.2.2.1
  obtain ⟨hL, m, r, hR, hI⟩ := t2 t ht
  have hI : RulesIs (σ.2.1.1 t) m r := hI
  have h6 := hR.2.1
  have o1 : (S.put 105 (mO 0 σ dr mo sc)).1[105]? = _ := put_self h0
  have p1 : (S.put 105 (mO 0 σ dr mo sc)).1[106]? = _ := put_at t1 (by decide)
  obtain ⟨h60, gt, g1, g2⟩ := h.2.1
  have gw : ∀ j, j < σ.1.length → gt j = nI (σ.1.getD j 0) ∧ 97 ≤ σ.1.getD j 0 ∧ σ.1.getD j 0 < 103 := fun j hj => ⟨(g2 j hj).1, hw j hj⟩
  have hx := wOf_PrOK hw hl
  have hxl : (wOf σ.1).length = σ.1.length := wOf_len _
  have q1 : (S.put 105 (mO 0 σ dr mo sc)).1[110]? = _ := put_at g1 (by decide)
  have hm : m < 6 := by have := hI.2; omega
  have oa : ((S.put 105 (mO 0 σ dr mo sc)).put 106 (aI 417 (upd g (139 * t + 96 + 1 + 7 * m) (nI a)))).1[105]? = _ := put_at o1 (by decide)
  have pa : ((S.put 105 (mO 0 σ dr mo sc)).put 106 (aI 417 (upd g (139 * t + 96 + 1 + 7 * m) (nI a)))).1[106]? = _ := put_self p1
  have ob : (((S.put 105 (mO 0 σ dr mo sc)).put 106 (aI 417 (upd g (139 * t + 96 + 1 + 7 * m) (nI a)))).put 106 (aI 417 (upd (upd g (139 * t + 96 + 1 + 7 * m) (nI a)) (139 * t + 96 + 1 + 7 * m + 1) (nI b)))).1[105]? = _ := put_at oa (by decide)
  have pb : (((S.put 105 (mO 0 σ dr mo sc)).put 106 (aI 417 (upd g (139 * t + 96 + 1 + 7 * m) (nI a)))).put 106 (aI 417 (upd (upd g (139 * t + 96 + 1 + 7 * m) (nI a)) (139 * t + 96 + 1 + 7 * m + 1) (nI b)))).1[106]? = _ := put_self pa
  have oc : ((((S.put 105 (mO 0 σ dr mo sc)).put 106 (aI 417 (upd g (139 * t + 96 + 1 + 7 * m) (nI a)))).put 106 (aI 417 (upd (upd g (139 * t + 96 + 1 + 7 * m) (nI a)) (139 * t + 96 + 1 + 7 * m + 1) (nI b)))).put 106 (aI 417 (upd (upd (upd g (139 * t + 96 + 1 + 7 * m) (nI a)) (139 * t + 96 + 1 + 7 * m + 1) (nI b)) (139 * t + 96) (nI (m + 1))))).1[105]? = _ := put_at ob (by decide)
  have pc_ : ((((S.put 105 (mO 0 σ dr mo sc)).put 106 (aI 417 (upd g (139 * t + 96 + 1 + 7 * m) (nI a)))).put 106 (aI 417 (upd (upd g (139 * t + 96 + 1 + 7 * m) (nI a)) (139 * t + 96 + 1 + 7 * m + 1) (nI b)))).put 106 (aI 417 (upd (upd (upd g (139 * t + 96 + 1 + 7 * m) (nI a)) (139 * t + 96 + 1 + 7 * m + 1) (nI b)) (139 * t + 96) (nI (m + 1))))).1[106]? = _ := put_self pb
  have qc : ((((S.put 105 (mO 0 σ dr mo sc)).put 106 (aI 417 (upd g (139 * t + 96 + 1 + 7 * m) (nI a)))).put 106 (aI 417 (upd (upd g (139 * t + 96 + 1 + 7 * m) (nI a)) (139 * t + 96 + 1 + 7 * m + 1) (nI b)))).put 106 (aI 417 (upd (upd (upd g (139 * t + 96 + 1 + 7 * m) (nI a)) (139 * t + 96 + 1 + 7 * m + 1) (nI b)) (139 * t + 96) (nI (m + 1))))).1[110]? = _ := put_at (put_at (put_at q1 (by decide)) (by decide)) (by decide)
  have hF : Fr [105, 106] S (((((S.put 105 (mO 0 σ dr mo sc)).put 106 (aI 417 (upd g (139 * t + 96 + 1 + 7 * m) (nI a)))).put 106 (aI 417 (upd (upd g (139 * t + 96 + 1 + 7 * m) (nI a)) (139 * t + 96 + 1 + 7 * m + 1) (nI b)))).put 106 (aI 417 (upd (upd (upd g (139 * t + 96 + 1 + 7 * m) (nI a)) (139 * t + 96 + 1 + 7 * m + 1) (nI b)) (139 * t + 96) (nI (m + 1))))).put 106 (aI 417 (putw (upd (upd (upd g (139 * t + 96 + 1 + 7 * m) (nI a)) (139 * t + 96 + 1 + 7 * m + 1) (nI b)) (139 * t + 96) (nI (m + 1))) (139 * t + 96 + 1 + 7 * m + 2) (wOf σ.1) (wOf σ.1).length))) := ((((Fr.put _ _ (by simp)).tr (Fr.put _ _ (by simp))).tr (Fr.put _ _ (by simp))).tr (Fr.put _ _ (by simp))).tr (Fr.put _ _ (by simp))
  refine ⟨(((((S.put 105 (mO 0 σ dr mo sc)).put 106 (aI 417 (upd g (139 * t + 96 + 1 + 7 * m) (nI a)))).put 106 (aI 417 (upd (upd g (139 * t + 96 + 1 + 7 * m) (nI a)) (139 * t + 96 + 1 + 7 * m + 1) (nI b)))).put 106 (aI 417 (upd (upd (upd g (139 * t + 96 + 1 + 7 * m) (nI a)) (139 * t + 96 + 1 + 7 * m + 1) (nI b)) (139 * t + 96) (nI (m + 1))))).put 106 (aI 417 (putw (upd (upd (upd g (139 * t + 96 + 1 + 7 * m) (nI a)) (139 * t + 96 + 1 + 7 * m + 1) (nI b)) (139 * t + 96) (nI (m + 1))) (139 * t + 96 + 1 + 7 * m + 2) (wOf σ.1) (wOf σ.1).length))), fun d => ?_, ⟨⟨dr, mo, sc, put_at oc (by decide)⟩, h.2.1.fr hF (by decide), ⟨⟨_, put_self pc_, TabsM.upd t2 ht (fun j hj => by rw [putw_out (by omega), upd_ne (by omega), upd_ne (by omega), upd_ne (by omega)]) (MTab.addR hL hR hI ha hb hx hm (hI.no ha hb hz))⟩, ⟨c2.1.choose, hF.at c2.1.choose_spec.1 (by decide), c2.1.choose_spec.2⟩, ⟨c2.2.1.choose, hF.at c2.2.1.choose_spec.1 (by decide), c2.2.1.choose_spec.2⟩, c2.2.2.choose, hF.at c2.2.2.choose_spec.1 (by decide), c2.2.2.choose_spec.2⟩, h.2.2.2.1.fr hF ⟨by decide, by decide, by decide, by decide⟩, h.2.2.2.2.1.fr hF (by decide), h.2.2.2.2.2.fr hF (fun k a b => by simp; omega)⟩, hF.m (by decide)⟩
  refine MetA.of rfl (by decide +kernel) (Nat.le_of_ble_eq_true rfl) ?_
  refine ev_aload_n i_Md_setContextRule_0 rfl ?_
  refine ev_iload_n i_Md_setContextRule_1 rfl ?_
  refine ev_iload_n i_Md_setContextRule_2 rfl ?_
  refine ev_iload_n i_Md_setContextRule_3 rfl ?_
  refine ev_callS3 i_Md_setContextRule_4 rfl (Nat.le_of_ble_eq_true rfl) (m_areLetters.1 ⟨inR.of (by decide) ht, inR.of (by decide) ha, inR.of (by decide) hb⟩) ?_
  refine ev_if_neN i_Md_setContextRule_7 (by omega) (fun hc_7 => ?_) (fun hc_7 => ?_)
  · skip
    refine ev_aload_n i_Md_setContextRule_14 rfl ?_
    refine ev_iconstN (v := 4) i_Md_setContextRule_15 (by decide) ?_
    refine ev_callV1 i_Md_setContextRule_16 rfl h0 (Nat.le_of_ble_eq_true rfl) ((m_isWord h (by omega)).1 ⟨hw, hl⟩) ?_
    refine ev_if_neN i_Md_setContextRule_19 (by omega) (fun hc_19 => ?_) (fun hc_19 => ?_)
    · skip
      refine ev_iconstN (v := 0) i_Md_setContextRule_26 (by decide) ?_
      refine ev_mput_thrown i_Md_setContextRule_27 h0 ?_
      refine ev_aload_n i_Md_setContextRule_30 rfl ?_
      refine ev_get i_Md_setContextRule_31 o1 rfl ?_
      refine ev_if_leN i_Md_setContextRule_34 (by omega) (fun hc_34 => ?_) (fun hc_34 => ?_)
      · skip
        refine ev_aload_n i_Md_setContextRule_39 rfl ?_
        refine ev_iload_n i_Md_setContextRule_40 rfl ?_
        refine ev_iload_n i_Md_setContextRule_41 rfl ?_
        refine ev_iload_n i_Md_setContextRule_42 rfl ?_
        refine ev_callV3 i_Md_setContextRule_43 rfl o1 (Nat.le_of_ble_eq_true rfl) (m_findRule_no o1 p1 hR ht ha hb (hI.no ha hb hz)) ?_
        refine ev_ist_4 i_Md_setContextRule_46 rfl ?_
        refine ev_iload i_Md_setContextRule_48 rfl ?_
        refine ev_if_lt i_Md_setContextRule_50 (fun hc_50 => ?_) (fun hc_50 => ?_)
        · skip
          refine ev_iconstN (v := 0) i_Md_setContextRule_57 (by decide) ?_
          refine ev_ist_5 i_Md_setContextRule_58 rfl ?_
          refine ev_iload i_Md_setContextRule_60 rfl ?_
          refine ev_if_neN i_Md_setContextRule_62 (by omega) (fun hc_62 => ?_) (fun hc_62 => ?_)
          · skip
            exfalso; omega
          · skip
            refine ev_aload_n i_Md_setContextRule_65 rfl ?_
            refine ev_get i_Md_setContextRule_66 o1 rfl ?_
            refine ev_iload_n i_Md_setContextRule_69 rfl ?_
            refine ev_callS1 i_Md_setContextRule_70 rfl (Nat.le_of_ble_eq_true rfl) m_rulesAt ?_
            refine ev_ialdN i_Md_setContextRule_73 p1 (by omega) (by decide) ?_
            rw [hR.1]
            refine ev_ist_6 i_Md_setContextRule_74 rfl ?_
            refine ev_iload i_Md_setContextRule_76 rfl ?_
            refine ev_bipushN (v := 6) i_Md_setContextRule_78 (by decide) ?_
            refine ev_icmp_neN i_Md_setContextRule_80 (by omega) (by omega) (fun hc_80 => ?_) (fun hc_80 => ?_)
            · skip
              refine ev_iload_n i_Md_setContextRule_90 rfl ?_
              refine ev_iload i_Md_setContextRule_91 rfl ?_
              refine ev_callS2 i_Md_setContextRule_93 rfl (Nat.le_of_ble_eq_true rfl) m_ruleAt ?_
              refine ev_ist_4 i_Md_setContextRule_96 rfl ?_
              refine ev_aload_n i_Md_setContextRule_98 rfl ?_
              refine ev_get i_Md_setContextRule_99 o1 rfl ?_
              refine ev_iload i_Md_setContextRule_102 rfl ?_
              refine ev_iload_n i_Md_setContextRule_104 rfl ?_
              refine ev_iastN i_Md_setContextRule_105 p1 (by omega) (by decide) ?_
              refine ev_aload_n i_Md_setContextRule_106 rfl ?_
              refine ev_get i_Md_setContextRule_107 oa rfl ?_
              refine ev_iload i_Md_setContextRule_110 rfl ?_
              refine ev_iconstN (v := 1) i_Md_setContextRule_112 (by decide) ?_
              first | refine ev_iaddN i_Md_setContextRule_113 ?_ | refine ev_iadd i_Md_setContextRule_113 ?_
              refine ev_iload_n i_Md_setContextRule_114 rfl ?_
              refine ev_iastN i_Md_setContextRule_115 pa (by omega) (by decide) ?_
              refine ev_aload_n i_Md_setContextRule_116 rfl ?_
              refine ev_get i_Md_setContextRule_117 ob rfl ?_
              refine ev_iload_n i_Md_setContextRule_120 rfl ?_
              refine ev_callS1 i_Md_setContextRule_121 rfl (Nat.le_of_ble_eq_true rfl) m_rulesAt ?_
              refine ev_dup2_11 i_Md_setContextRule_124 rfl rfl ?_
              refine ev_ialdN i_Md_setContextRule_125 pb (by omega) (by decide) ?_
              rw [upd_ne (by omega), upd_ne (by omega), hR.1]
              refine ev_iconstN (v := 1) i_Md_setContextRule_126 (by decide) ?_
              first | refine ev_iaddN i_Md_setContextRule_127 ?_ | refine ev_iadd i_Md_setContextRule_127 ?_
              refine ev_iastN i_Md_setContextRule_128 pb (by omega) (by decide) ?_
              refine ev_aload_n i_Md_setContextRule_129 rfl ?_
              refine ev_aload_n i_Md_setContextRule_130 rfl ?_
              refine ev_get i_Md_setContextRule_131 oc rfl ?_
              refine ev_iload i_Md_setContextRule_134 rfl ?_
              refine ev_iconstN (v := 2) i_Md_setContextRule_136 (by decide) ?_
              first | refine ev_iaddN i_Md_setContextRule_137 ?_ | refine ev_iadd i_Md_setContextRule_137 ?_
              refine ev_callV2 i_Md_setContextRule_138 rfl oc (Nat.le_of_ble_eq_true rfl) (m_putWord oc qc h60 gw pc_ (by decide) (by omega) (by decide)) ?_
              refine ev_iload i_Md_setContextRule_141 rfl ?_
              exact ev_iret i_Md_setContextRule_143 rfl (by first | rfl | decide)
            · skip
              exfalso; omega
        · skip
          exact absurd (by decide) hc_50
      · skip
        exfalso; omega
    · skip
      exfalso; omega
  · skip
    exfalso; omega
theorem m_setRule_3 {scr : Scr} {l : Launch} {S : Sto} {σ : Sg} {th : Nat} {t a b : Nat} (h : MInv th σ S) (ht : t < 3) (ha : a < 6) (hb : b < 6) (hw : isW σ.1) (hl : σ.1.length ≤ 4) (hz : ¬ ((σ.2.1.1 t).2 a b).isSome) (hc : 6 ≤ rcount (σ.2.1.1 t)) : MRun scr l 3 M_Md_setContextRule [.ref 105, .int (nI t), .int (nI a), .int (nI b)] S (some (.int (nI 0))) 3 σ := by
  obtain ⟨dr, mo, sc, h0⟩ := h.get
  obtain ⟨⟨g, t1, t2⟩, c2⟩ := h.2.2.1
  obtain ⟨hL, m, r, hR, hI⟩ := t2 t ht
  have hI : RulesIs (σ.2.1.1 t) m r := hI
  have h6 := hR.2.1
  have o1 : (S.put 105 (mO 0 σ dr mo sc)).1[105]? = _ := put_self h0
  have p1 : (S.put 105 (mO 0 σ dr mo sc)).1[106]? = _ := put_at t1 (by decide)
  have hm : m = 6 := by have := hI.2; omega
  refine ⟨(S.put 105 (mO 0 σ dr mo sc)).put 105 (mO 3 σ dr mo sc), fun d => ?_, (h.th h0).th o1, ((Fr.put _ _ (by decide)).tr (Fr.put _ _ (by decide)))⟩
  refine MetA.of rfl (by decide +kernel) (Nat.le_of_ble_eq_true rfl) ?_
  refine ev_aload_n i_Md_setContextRule_0 rfl ?_
  refine ev_iload_n i_Md_setContextRule_1 rfl ?_
  refine ev_iload_n i_Md_setContextRule_2 rfl ?_
  refine ev_iload_n i_Md_setContextRule_3 rfl ?_
  refine ev_callS3 i_Md_setContextRule_4 rfl (Nat.le_of_ble_eq_true rfl) (m_areLetters.1 ⟨inR.of (by decide) ht, inR.of (by decide) ha, inR.of (by decide) hb⟩) ?_
  refine ev_if_neN i_Md_setContextRule_7 (by omega) (fun hc_7 => ?_) (fun hc_7 => ?_)
  · skip
    refine ev_aload_n i_Md_setContextRule_14 rfl ?_
    refine ev_iconstN (v := 4) i_Md_setContextRule_15 (by decide) ?_
    refine ev_callV1 i_Md_setContextRule_16 rfl h0 (Nat.le_of_ble_eq_true rfl) ((m_isWord h (by omega)).1 ⟨hw, hl⟩) ?_
    refine ev_if_neN i_Md_setContextRule_19 (by omega) (fun hc_19 => ?_) (fun hc_19 => ?_)
    · skip
      refine ev_iconstN (v := 0) i_Md_setContextRule_26 (by decide) ?_
      refine ev_mput_thrown i_Md_setContextRule_27 h0 ?_
      refine ev_aload_n i_Md_setContextRule_30 rfl ?_
      refine ev_get i_Md_setContextRule_31 o1 rfl ?_
      refine ev_if_leN i_Md_setContextRule_34 (by omega) (fun hc_34 => ?_) (fun hc_34 => ?_)
      · skip
        refine ev_aload_n i_Md_setContextRule_39 rfl ?_
        refine ev_iload_n i_Md_setContextRule_40 rfl ?_
        refine ev_iload_n i_Md_setContextRule_41 rfl ?_
        refine ev_iload_n i_Md_setContextRule_42 rfl ?_
        refine ev_callV3 i_Md_setContextRule_43 rfl o1 (Nat.le_of_ble_eq_true rfl) (m_findRule_no o1 p1 hR ht ha hb (hI.no ha hb hz)) ?_
        refine ev_ist_4 i_Md_setContextRule_46 rfl ?_
        refine ev_iload i_Md_setContextRule_48 rfl ?_
        refine ev_if_lt i_Md_setContextRule_50 (fun hc_50 => ?_) (fun hc_50 => ?_)
        · skip
          refine ev_iconstN (v := 0) i_Md_setContextRule_57 (by decide) ?_
          refine ev_ist_5 i_Md_setContextRule_58 rfl ?_
          refine ev_iload i_Md_setContextRule_60 rfl ?_
          refine ev_if_neN i_Md_setContextRule_62 (by omega) (fun hc_62 => ?_) (fun hc_62 => ?_)
          · skip
            exfalso; omega
          · skip
            refine ev_aload_n i_Md_setContextRule_65 rfl ?_
            refine ev_get i_Md_setContextRule_66 o1 rfl ?_
            refine ev_iload_n i_Md_setContextRule_69 rfl ?_
            refine ev_callS1 i_Md_setContextRule_70 rfl (Nat.le_of_ble_eq_true rfl) m_rulesAt ?_
            refine ev_ialdN i_Md_setContextRule_73 p1 (by omega) (by decide) ?_
            rw [hR.1]
            refine ev_ist_6 i_Md_setContextRule_74 rfl ?_
            refine ev_iload i_Md_setContextRule_76 rfl ?_
            refine ev_bipushN (v := 6) i_Md_setContextRule_78 (by decide) ?_
            refine ev_icmp_neN i_Md_setContextRule_80 (by omega) (by omega) (fun hc_80 => ?_) (fun hc_80 => ?_)
            · skip
              exfalso; omega
            · skip
              refine ev_aload_n i_Md_setContextRule_83 rfl ?_
              refine ev_iconstN (v := 3) i_Md_setContextRule_84 (by decide) ?_
              refine ev_mput_thrown i_Md_setContextRule_85 o1 ?_
              refine ev_iconstN (v := 0) i_Md_setContextRule_88 (by decide) ?_
              exact ev_iret i_Md_setContextRule_89 rfl (by first | rfl | decide)
        · skip
          exact absurd (by decide) hc_50
      · skip
        exfalso; omega
    · skip
      exfalso; omega
  · skip
    exfalso; omega
theorem m_delRule_1 {scr : Scr} {l : Launch} {S : Sto} {σ : Sg} {th : Nat} {x y z : Int32} (h : MInv th σ S) (hq : ¬ (inR 3 x ∧ inR 6 y ∧ inR 6 z)) : MRun scr l 3 M_Md_removeContextRule [.ref 105, .int x, .int y, .int z] S (some (.int (nI 0))) 1 σ := by
  refine MRun.th h (fun dr mo sc h0 d => ?_)
  have o1 : (S.put 105 (mO 1 σ dr mo sc)).1[105]? = _ := put_self h0
  refine MetA.of rfl (by decide +kernel) (Nat.le_of_ble_eq_true rfl) ?_
  refine ev_aload_n i_Md_removeContextRule_0 rfl ?_
  refine ev_iload_n i_Md_removeContextRule_1 rfl ?_
  refine ev_iload_n i_Md_removeContextRule_2 rfl ?_
  refine ev_iload_n i_Md_removeContextRule_3 rfl ?_
  refine ev_callS3 i_Md_removeContextRule_4 rfl (Nat.le_of_ble_eq_true rfl) (m_areLetters.2 hq) ?_
  refine ev_if_eqN i_Md_removeContextRule_7 (by omega) (fun hc_7 => ?_) (fun hc_7 => ?_)
  · skip
    refine ev_iconstN (v := 1) i_Md_removeContextRule_14 (by decide) ?_
    refine ev_mput_thrown i_Md_removeContextRule_15 h0 ?_
    refine ev_aload_n i_Md_removeContextRule_18 rfl ?_
    refine ev_get i_Md_removeContextRule_19 o1 rfl ?_
    refine ev_if_leN i_Md_removeContextRule_22 (by omega) (fun hc_22 => ?_) (fun hc_22 => ?_)
    · skip
      exfalso; omega
    · skip
      refine ev_iconst (v := -1) i_Md_removeContextRule_25 (by decide) ?_
      refine ev_goto i_Md_removeContextRule_26 ?_
      refine ev_ist_4 i_Md_removeContextRule_36 rfl ?_
      refine ev_iload i_Md_removeContextRule_38 rfl ?_
      refine ev_if_ge i_Md_removeContextRule_40 (fun hc_40 => ?_) (fun hc_40 => ?_)
      · skip
        exact absurd hc_40 (by decide)
      · skip
        refine ev_iconstN (v := 0) i_Md_removeContextRule_43 (by decide) ?_
        exact ev_iret i_Md_removeContextRule_44 rfl (by first | rfl | decide)
  · skip
    exfalso; omega
theorem m_delRule_no {scr : Scr} {l : Launch} {S : Sto} {σ : Sg} {th : Nat} {t a b : Nat} (h : MInv th σ S) (ht : t < 3) (ha : a < 6) (hb : b < 6)  (hz : ¬ ((σ.2.1.1 t).2 a b).isSome) : MRun scr l 3 M_Md_removeContextRule [.ref 105, .int (nI t), .int (nI a), .int (nI b)] S (some (.int (nI 0))) 0 σ := by
  obtain ⟨dr, mo, sc, h0⟩ := h.get
  obtain ⟨⟨g, t1, t2⟩, c2⟩ := h.2.2.1
  obtain ⟨hL, m, r, hR, hI⟩ := t2 t ht
  have hI : RulesIs (σ.2.1.1 t) m r := hI
  have h6 := hR.2.1
  have o1 : (S.put 105 (mO 0 σ dr mo sc)).1[105]? = _ := put_self h0
  have p1 : (S.put 105 (mO 0 σ dr mo sc)).1[106]? = _ := put_at t1 (by decide)
  refine ⟨(S.put 105 (mO 0 σ dr mo sc)), fun d => ?_, h.th h0, Fr.put _ _ (by decide)⟩
  refine MetA.of rfl (by decide +kernel) (Nat.le_of_ble_eq_true rfl) ?_
  refine ev_aload_n i_Md_removeContextRule_0 rfl ?_
  refine ev_iload_n i_Md_removeContextRule_1 rfl ?_
  refine ev_iload_n i_Md_removeContextRule_2 rfl ?_
  refine ev_iload_n i_Md_removeContextRule_3 rfl ?_
  refine ev_callS3 i_Md_removeContextRule_4 rfl (Nat.le_of_ble_eq_true rfl) (m_areLetters.1 ⟨inR.of (by decide) ht, inR.of (by decide) ha, inR.of (by decide) hb⟩) ?_
  refine ev_if_eqN i_Md_removeContextRule_7 (by omega) (fun hc_7 => ?_) (fun hc_7 => ?_)
  · skip
    exfalso; omega
  · skip
    refine ev_iconstN (v := 0) i_Md_removeContextRule_10 (by decide) ?_
    refine ev_goto i_Md_removeContextRule_11 ?_
    refine ev_mput_thrown i_Md_removeContextRule_15 h0 ?_
    refine ev_aload_n i_Md_removeContextRule_18 rfl ?_
    refine ev_get i_Md_removeContextRule_19 o1 rfl ?_
    refine ev_if_leN i_Md_removeContextRule_22 (by omega) (fun hc_22 => ?_) (fun hc_22 => ?_)
    · skip
      refine ev_aload_n i_Md_removeContextRule_29 rfl ?_
      refine ev_iload_n i_Md_removeContextRule_30 rfl ?_
      refine ev_iload_n i_Md_removeContextRule_31 rfl ?_
      refine ev_iload_n i_Md_removeContextRule_32 rfl ?_
      refine ev_callV3 i_Md_removeContextRule_33 rfl o1 (Nat.le_of_ble_eq_true rfl) (m_findRule_no o1 p1 hR ht ha hb (hI.no ha hb hz)) ?_
      refine ev_ist_4 i_Md_removeContextRule_36 rfl ?_
      refine ev_iload i_Md_removeContextRule_38 rfl ?_
      refine ev_if_ge i_Md_removeContextRule_40 (fun hc_40 => ?_) (fun hc_40 => ?_)
      · skip
        exact absurd hc_40 (by decide)
      · skip
        refine ev_iconstN (v := 0) i_Md_removeContextRule_43 (by decide) ?_
        exact ev_iret i_Md_removeContextRule_44 rfl (by first | rfl | decide)
    · skip
      exfalso; omega
theorem m_delRule {scr : Scr} {l : Launch} {S : Sto} {σ : Sg} {th : Nat} {t a b : Nat} (h : MInv th σ S) (ht : t < 3) (ha : a < 6) (hb : b < 6)  (hz : ((σ.2.1.1 t).2 a b).isSome) : MRun scr l 3 M_Md_removeContextRule [.ref 105, .int (nI t), .int (nI a), .int (nI b)] S (some (.int (nI 1))) 0 (σ.1, setTab σ.2.1 t (delRule (σ.2.1.1 t) a b), σ.2.2) := by
  obtain ⟨dr, mo, sc, h0⟩ := h.get
  obtain ⟨⟨g, t1, t2⟩, c2⟩ := h.2.2.1
  obtain ⟨hL, m, r, hR, hI⟩ := t2 t ht
  have hI : RulesIs (σ.2.1.1 t) m r := hI
  have h6 := hR.2.1
  have o1 : (S.put 105 (mO 0 σ dr mo sc)).1[105]? = _ := put_self h0
  have p1 : (S.put 105 (mO 0 σ dr mo sc)).1[106]? = _ := put_at t1 (by decide)
  obtain ⟨pp, hp⟩ := Option.isSome_iff_exists.mp hz
  obtain ⟨k, hk, ek⟩ := hI.some ha hb hp
  have oa : ((S.put 105 (mO 0 σ dr mo sc)).put 106 (aI 417 (va_cpy g g (139 * t + 96 + 1 + 7 * (m - 1)) (139 * t + 96 + 1 + 7 * k) 7))).1[105]? = _ := put_at o1 (by decide)
  have pa : ((S.put 105 (mO 0 σ dr mo sc)).put 106 (aI 417 (va_cpy g g (139 * t + 96 + 1 + 7 * (m - 1)) (139 * t + 96 + 1 + 7 * k) 7))).1[106]? = _ := put_self p1
  have hg : ∀ j, (va_cpy g g (139 * t + 96 + 1 + 7 * (m - 1)) (139 * t + 96 + 1 + 7 * k) 7) j = if 139 * t + 96 + 1 + 7 * k ≤ j ∧ j < 139 * t + 96 + 1 + 7 * k + 7 then g (j - (139 * t + 96 + 1 + 7 * k) + (139 * t + 96 + 1 + 7 * (m - 1))) else g j := fun j => by
    unfold va_cpy
    by_cases z : 139 * t + 96 + 1 + 7 * k ≤ j ∧ j < 139 * t + 96 + 1 + 7 * k + 7
    · rw [if_pos z, if_pos z]; congr 1; omega
    · rw [if_neg z, if_neg z]
  have e96 : (va_cpy g g (139 * t + 96 + 1 + 7 * (m - 1)) (139 * t + 96 + 1 + 7 * k) 7) (139 * t + 96) = g (139 * t + 96) := by rw [hg, if_neg (by omega)]
  have hF : Fr [105, 106] S (((S.put 105 (mO 0 σ dr mo sc)).put 106 (aI 417 (va_cpy g g (139 * t + 96 + 1 + 7 * (m - 1)) (139 * t + 96 + 1 + 7 * k) 7))).put 106 (aI 417 (upd (va_cpy g g (139 * t + 96 + 1 + 7 * (m - 1)) (139 * t + 96 + 1 + 7 * k) 7) (139 * t + 96) (nI (m - 1))))) := ((Fr.put _ _ (by simp)).tr (Fr.put _ _ (by simp))).tr (Fr.put _ _ (by simp))
  refine ⟨(((S.put 105 (mO 0 σ dr mo sc)).put 106 (aI 417 (va_cpy g g (139 * t + 96 + 1 + 7 * (m - 1)) (139 * t + 96 + 1 + 7 * k) 7))).put 106 (aI 417 (upd (va_cpy g g (139 * t + 96 + 1 + 7 * (m - 1)) (139 * t + 96 + 1 + 7 * k) 7) (139 * t + 96) (nI (m - 1))))), fun d => ?_, ⟨⟨dr, mo, sc, put_at oa (by decide)⟩, h.2.1.fr hF (by decide), ⟨⟨_, put_self pa, TabsM.upd t2 ht (fun j hj => by rw [upd_ne (by omega), hg, if_neg (by omega)]) (MTab.delR hL hR hI ha hb hk (by rw [ek]) (by rw [ek]) hg)⟩, ⟨c2.1.choose, hF.at c2.1.choose_spec.1 (by decide), c2.1.choose_spec.2⟩, ⟨c2.2.1.choose, hF.at c2.2.1.choose_spec.1 (by decide), c2.2.1.choose_spec.2⟩, c2.2.2.choose, hF.at c2.2.2.choose_spec.1 (by decide), c2.2.2.choose_spec.2⟩, h.2.2.2.1.fr hF ⟨by decide, by decide, by decide, by decide⟩, h.2.2.2.2.1.fr hF (by decide), h.2.2.2.2.2.fr hF (fun k a b => by simp; omega)⟩, hF.m (by decide)⟩
  refine MetA.of rfl (by decide +kernel) (Nat.le_of_ble_eq_true rfl) ?_
  refine ev_aload_n i_Md_removeContextRule_0 rfl ?_
  refine ev_iload_n i_Md_removeContextRule_1 rfl ?_
  refine ev_iload_n i_Md_removeContextRule_2 rfl ?_
  refine ev_iload_n i_Md_removeContextRule_3 rfl ?_
  refine ev_callS3 i_Md_removeContextRule_4 rfl (Nat.le_of_ble_eq_true rfl) (m_areLetters.1 ⟨inR.of (by decide) ht, inR.of (by decide) ha, inR.of (by decide) hb⟩) ?_
  refine ev_if_eqN i_Md_removeContextRule_7 (by omega) (fun hc_7 => ?_) (fun hc_7 => ?_)
  · skip
    exfalso; omega
  · skip
    refine ev_iconstN (v := 0) i_Md_removeContextRule_10 (by decide) ?_
    refine ev_goto i_Md_removeContextRule_11 ?_
    refine ev_mput_thrown i_Md_removeContextRule_15 h0 ?_
    refine ev_aload_n i_Md_removeContextRule_18 rfl ?_
    refine ev_get i_Md_removeContextRule_19 o1 rfl ?_
    refine ev_if_leN i_Md_removeContextRule_22 (by omega) (fun hc_22 => ?_) (fun hc_22 => ?_)
    · skip
      refine ev_aload_n i_Md_removeContextRule_29 rfl ?_
      refine ev_iload_n i_Md_removeContextRule_30 rfl ?_
      refine ev_iload_n i_Md_removeContextRule_31 rfl ?_
      refine ev_iload_n i_Md_removeContextRule_32 rfl ?_
      refine ev_callV3 i_Md_removeContextRule_33 rfl o1 (Nat.le_of_ble_eq_true rfl) (m_findRule o1 p1 hR ht ha hb hk (by rw [ek]) (by rw [ek])) ?_
      refine ev_ist_4 i_Md_removeContextRule_36 rfl ?_
      refine ev_iload i_Md_removeContextRule_38 rfl ?_
      refine ev_if_ge_N i_Md_removeContextRule_40 (by omega) (fun hc_40 => ?_) (fun hc_40 => ?_)
      · skip
        refine ev_iload_n i_Md_removeContextRule_45 rfl ?_
        refine ev_aload_n i_Md_removeContextRule_46 rfl ?_
        refine ev_get i_Md_removeContextRule_47 o1 rfl ?_
        refine ev_iload_n i_Md_removeContextRule_50 rfl ?_
        refine ev_callS1 i_Md_removeContextRule_51 rfl (Nat.le_of_ble_eq_true rfl) m_rulesAt ?_
        refine ev_ialdN i_Md_removeContextRule_54 p1 (by omega) (by decide) ?_
        rw [hR.1]
        refine ev_iconstN (v := 1) i_Md_removeContextRule_55 (by decide) ?_
        first | refine ev_isubN i_Md_removeContextRule_56 (by omega) ?_ | refine ev_isub i_Md_removeContextRule_56 ?_
        refine ev_callS2 i_Md_removeContextRule_57 rfl (Nat.le_of_ble_eq_true rfl) m_ruleAt ?_
        refine ev_ist_5 i_Md_removeContextRule_60 rfl ?_
        refine ev_aload_n i_Md_removeContextRule_62 rfl ?_
        refine ev_get i_Md_removeContextRule_63 o1 rfl ?_
        refine ev_iload i_Md_removeContextRule_66 rfl ?_
        refine ev_aload_n i_Md_removeContextRule_68 rfl ?_
        refine ev_get i_Md_removeContextRule_69 o1 rfl ?_
        refine ev_iload i_Md_removeContextRule_72 rfl ?_
        refine ev_bipushN (v := 7) i_Md_removeContextRule_74 (by decide) ?_
        refine ev_cpyIN i_Md_removeContextRule_76 rfl (Nat.le_of_ble_eq_true rfl) p1 p1 (by omega) (by omega) (by decide) (by decide) ?_
        refine ev_aload_n i_Md_removeContextRule_79 rfl ?_
        refine ev_get i_Md_removeContextRule_80 oa rfl ?_
        refine ev_iload_n i_Md_removeContextRule_83 rfl ?_
        refine ev_callS1 i_Md_removeContextRule_84 rfl (Nat.le_of_ble_eq_true rfl) m_rulesAt ?_
        refine ev_dup2_11 i_Md_removeContextRule_87 rfl rfl ?_
        refine ev_ialdN i_Md_removeContextRule_88 pa (by omega) (by decide) ?_
        rw [e96, hR.1]
        refine ev_iconstN (v := 1) i_Md_removeContextRule_89 (by decide) ?_
        first | refine ev_isubN i_Md_removeContextRule_90 (by omega) ?_ | refine ev_isub i_Md_removeContextRule_90 ?_
        refine ev_iastN i_Md_removeContextRule_91 pa (by omega) (by decide) ?_
        refine ev_iconstN (v := 1) i_Md_removeContextRule_92 (by decide) ?_
        exact ev_iret i_Md_removeContextRule_93 rfl (by first | rfl | decide)
      · skip
        exfalso; omega
    · skip
      exfalso; omega
theorem lp_det {scr : Scr} {l : Launch} {S : Sto} {σ : Sg} {th : Nat} {t d v : Nat} (h : MInv th σ S) (ht : t < 3) (hv1 : isDet (σ.2.1.1 t) → v = 1) (hv0 : ¬ isDet (σ.2.1.1 t) → v = 0) : ∀ (k i : Nat), i + k = 6 → ∀ b : Nat, (b = 1 → ∀ j, j < i → ((σ.2.1.1 t).1 j).length = 1) → (b = 0 → ¬ isDet (σ.2.1.1 t)) → b ≤ 1 → Ev scr l (d + 1) M_Md_deterministic 4 [some (.ref 105), some (.int (nI t)), some (.int (nI b)), some (.int (nI i))] [] S (.inl (some (.int (nI v))), S) := by
  obtain ⟨dr, mo, sc, h0⟩ := h.1
  obtain ⟨⟨g, t1, t2⟩, c2⟩ := h.2.2.1
  have hn : ∀ i, i < 6 → g (139 * t + 16 * i) = nI ((σ.2.1.1 t).1 i).length := fun i hi => ((t2 t ht).1 i hi).1
  have hn3 : ∀ i, i < 6 → ((σ.2.1.1 t).1 i).length ≤ 3 := fun i hi => ((t2 t ht).1 i hi).2.2.1
  intro k
  induction k with
  | zero =>
    intro i hi b hall hno hb
    have e : v = b := by
      by_cases q : b = 0
      · rw [hv0 (hno q), q]
      · have q1 : b = 1 := by omega
        rw [hv1 (fun j hj => hall q1 j (by omega)), q1]
    rw [e]
    refine ev_iload_n i_Md_deterministic_4 rfl ?_
    refine ev_bipushN (v := 6) i_Md_deterministic_5 (by decide) ?_
    refine ev_icmp_geN i_Md_deterministic_7 (by omega) (by omega) (fun hc_7 => ?_) (fun hc_7 => ?_)
    · skip
      refine ev_iload_n i_Md_deterministic_40 rfl ?_
      by_cases q : b = 0
      · subst q
        exact ev_iret i_Md_deterministic_41 rfl (by decide)
      · have q1 : b = 1 := by omega
        subst q1
        exact ev_iret i_Md_deterministic_41 rfl (by decide)
    · skip
      exfalso; omega
  | succ k ih =>
    intro i hi b hall hno hb
    have := hn3 i (by omega)
    by_cases q : b = 0
    · subst q
      refine ev_iload_n i_Md_deterministic_4 rfl ?_
      refine ev_bipushN (v := 6) i_Md_deterministic_5 (by decide) ?_
      refine ev_icmp_geN i_Md_deterministic_7 (by omega) (by omega) (fun hc_7 => ?_) (fun hc_7 => ?_)
      · skip
        exfalso; omega
      · skip
        refine ev_iload_n i_Md_deterministic_10 rfl ?_
        refine ev_if_eqN i_Md_deterministic_11 (by omega) (fun hc_11 => ?_) (fun hc_11 => ?_)
        · skip
          refine ev_iconstN (v := 0) i_Md_deterministic_32 (by decide) ?_
          refine ev_ist_n_2 i_Md_deterministic_33 rfl ?_
          refine ev_iincN_3 (c := 1) i_Md_deterministic_34 (by decide) rfl ?_
          refine ev_goto i_Md_deterministic_37 ?_
          exact ih (i + 1) (by omega) 0 (fun q => absurd q (by omega)) (fun _ => hno rfl) (by omega)
        · skip
          exfalso; omega
    · have q1 : b = 1 := by omega
      subst q1
      refine ev_iload_n i_Md_deterministic_4 rfl ?_
      refine ev_bipushN (v := 6) i_Md_deterministic_5 (by decide) ?_
      refine ev_icmp_geN i_Md_deterministic_7 (by omega) (by omega) (fun hc_7 => ?_) (fun hc_7 => ?_)
      · skip
        exfalso; omega
      · skip
        refine ev_iload_n i_Md_deterministic_10 rfl ?_
        refine ev_if_eqN i_Md_deterministic_11 (by omega) (fun hc_11 => ?_) (fun hc_11 => ?_)
        · skip
          exfalso; omega
        · skip
          refine ev_aload_n i_Md_deterministic_14 rfl ?_
          refine ev_get i_Md_deterministic_15 h0 rfl ?_
          refine ev_iload_n i_Md_deterministic_18 rfl ?_
          refine ev_iload_n i_Md_deterministic_19 rfl ?_
          refine ev_callS2 i_Md_deterministic_20 rfl (Nat.le_of_ble_eq_true rfl) m_listAt ?_
          refine ev_ialdN i_Md_deterministic_23 t1 (by omega) (by decide) ?_
          rw [hn i (by omega)]
          refine ev_iconstN (v := 1) i_Md_deterministic_24 (by decide) ?_
          refine ev_icmp_neN i_Md_deterministic_25 (by omega) (by omega) (fun hc_25 => ?_) (fun hc_25 => ?_)
          · skip
            refine ev_iconstN (v := 0) i_Md_deterministic_32 (by decide) ?_
            refine ev_ist_n_2 i_Md_deterministic_33 rfl ?_
            refine ev_iincN_3 (c := 1) i_Md_deterministic_34 (by decide) rfl ?_
            refine ev_goto i_Md_deterministic_37 ?_
            exact ih (i + 1) (by omega) 0 (fun q => absurd q (by omega)) (fun _ z => hc_25 (z i (by omega))) (by omega)
          · skip
            refine ev_iconstN (v := 1) i_Md_deterministic_28 (by decide) ?_
            refine ev_goto i_Md_deterministic_29 ?_
            refine ev_ist_n_2 i_Md_deterministic_33 rfl ?_
            refine ev_iincN_3 (c := 1) i_Md_deterministic_34 (by decide) rfl ?_
            refine ev_goto i_Md_deterministic_37 ?_
            refine ih (i + 1) (by omega) 1 (fun _ j hj => ?_) (fun q => absurd q (by omega)) (by omega)
            by_cases zj : j = i
            · rw [zj]; exact hc_25
            · exact hall rfl j (by omega)
theorem m_detv {scr : Scr} {l : Launch} {S : Sto} {σ : Sg} {th : Nat} {t d v : Nat} (h : MInv th σ S) (ht : t < 3) (hv1 : isDet (σ.2.1.1 t) → v = 1) (hv0 : ¬ isDet (σ.2.1.1 t) → v = 0) : MetA scr l (d + 1) M_Md_deterministic [.ref 105, .int (nI t)] S (.inl (some (.int (nI v))), S) := by
  refine MetA.of rfl (by decide +kernel) (Nat.le_of_ble_eq_true rfl) ?_
  refine ev_iconstN (v := 1) i_Md_deterministic_0 (by decide) ?_
  refine ev_ist_n_2 i_Md_deterministic_1 rfl ?_
  refine ev_iconstN (v := 0) i_Md_deterministic_2 (by decide) ?_
  refine ev_ist_n_3 i_Md_deterministic_3 rfl ?_
  exact lp_det h ht hv1 hv0 6 0 (by omega) 1 (fun _ j hj => absurd hj (by omega)) (fun q => absurd q (by omega)) (by omega)
theorem m_det {scr : Scr} {l : Launch} {S : Sto} {σ : Sg} {th : Nat} {t d : Nat} (h : MInv th σ S) (ht : t < 3) : (isDet (σ.2.1.1 t) → MetA scr l (d + 1) M_Md_deterministic [.ref 105, .int (nI t)] S (.inl (some (.int (nI 1))), S)) ∧ (¬ isDet (σ.2.1.1 t) → MetA scr l (d + 1) M_Md_deterministic [.ref 105, .int (nI t)] S (.inl (some (.int (nI 0))), S)) := ⟨fun q => m_detv h ht (fun _ => rfl) (fun z => absurd q z), fun q => m_detv h ht (fun z => absurd z q) (fun _ => rfl)⟩
theorem m_plain {scr : Scr} {l : Launch} {S : Sto} {σ : Sg} {th : Nat} {t d : Nat} (h : MInv th σ S) (ht : t < 3) : (rcount (σ.2.1.1 t) = 0 → MetA scr l (d + 1) M_Md_plain [.ref 105, .int (nI t)] S (.inl (some (.int (nI 1))), S)) ∧ (rcount (σ.2.1.1 t) ≠ 0 → MetA scr l (d + 1) M_Md_plain [.ref 105, .int (nI t)] S (.inl (some (.int (nI 0))), S)) := by
  obtain ⟨dr, mo, sc, h0⟩ := h.1
  obtain ⟨⟨g, t1, t2⟩, c2⟩ := h.2.2.1
  obtain ⟨hL, m, r, hR, hI⟩ := t2 t ht
  have h36 := rcount_le (σ.2.1.1 t)
  refine ⟨fun hq => ?_, fun hq => ?_⟩
  · refine MetA.of rfl (by decide +kernel) (Nat.le_of_ble_eq_true rfl) ?_
    refine ev_aload_n i_Md_plain_0 rfl ?_
    refine ev_get i_Md_plain_1 h0 rfl ?_
    refine ev_iload_n i_Md_plain_4 rfl ?_
    refine ev_callS1 i_Md_plain_5 rfl (Nat.le_of_ble_eq_true rfl) m_rulesAt ?_
    refine ev_ialdN i_Md_plain_8 t1 (by omega) (by decide) ?_
    rw [hR.1, ← hI.2]
    refine ev_if_neN i_Md_plain_9 (by omega) (fun hc_9 => ?_) (fun hc_9 => ?_)
    · skip
      exfalso; omega
    · skip
      refine ev_iconstN (v := 1) i_Md_plain_12 (by decide) ?_
      refine ev_goto i_Md_plain_13 ?_
      exact ev_iret i_Md_plain_17 rfl (by first | rfl | decide)
  · refine MetA.of rfl (by decide +kernel) (Nat.le_of_ble_eq_true rfl) ?_
    refine ev_aload_n i_Md_plain_0 rfl ?_
    refine ev_get i_Md_plain_1 h0 rfl ?_
    refine ev_iload_n i_Md_plain_4 rfl ?_
    refine ev_callS1 i_Md_plain_5 rfl (Nat.le_of_ble_eq_true rfl) m_rulesAt ?_
    refine ev_ialdN i_Md_plain_8 t1 (by omega) (by decide) ?_
    rw [hR.1, ← hI.2]
    refine ev_if_neN i_Md_plain_9 (by omega) (fun hc_9 => ?_) (fun hc_9 => ?_)
    · skip
      refine ev_iconstN (v := 0) i_Md_plain_16 (by decide) ?_
      exact ev_iret i_Md_plain_17 rfl (by first | rfl | decide)
    · skip
      exfalso; omega
theorem m_isDet_1 {scr : Scr} {l : Launch} {S : Sto} {σ : Sg} {th : Nat} {x : Int32} (h : MInv th σ S) (hx : ¬ inR 3 x) : MRun scr l 2 M_Md_isDeterministic [.ref 105, .int x] S (some (.int (nI 0))) 1 σ := by
  refine MRun.th h (fun dr mo sc h0 d => ?_)
  have o1 : (S.put 105 (mO 1 σ dr mo sc)).1[105]? = _ := put_self h0
  refine MetA.of rfl (by decide +kernel) (Nat.le_of_ble_eq_true rfl) ?_
  refine ev_aload_n i_Md_isDeterministic_0 rfl ?_
  refine ev_iload_n i_Md_isDeterministic_1 rfl ?_
  refine ev_callS1 i_Md_isDeterministic_2 rfl (Nat.le_of_ble_eq_true rfl) (m_isTable.2 hx) ?_
  refine ev_if_eqN i_Md_isDeterministic_5 (by omega) (fun hc_5 => ?_) (fun hc_5 => ?_)
  · skip
    refine ev_iconstN (v := 1) i_Md_isDeterministic_12 (by decide) ?_
    refine ev_mput_thrown i_Md_isDeterministic_13 h0 ?_
    refine ev_aload_n i_Md_isDeterministic_16 rfl ?_
    refine ev_get i_Md_isDeterministic_17 o1 rfl ?_
    refine ev_if_neN i_Md_isDeterministic_20 (by omega) (fun hc_20 => ?_) (fun hc_20 => ?_)
    · skip
      refine ev_iconstN (v := 0) i_Md_isDeterministic_35 (by decide) ?_
      exact ev_iret i_Md_isDeterministic_36 rfl (by first | rfl | decide)
    · skip
      exfalso; omega
  · skip
    exfalso; omega
theorem m_isDet_y {scr : Scr} {l : Launch} {S : Sto} {σ : Sg} {th : Nat} {t : Nat} (h : MInv th σ S) (ht : t < 3) (hc : isDet (σ.2.1.1 t)) : MRun scr l 2 M_Md_isDeterministic [.ref 105, .int (nI t)] S (some (.int (nI 1))) 0 σ := by
  refine MRun.th h (fun dr mo sc h0 d => ?_)
  have o1 : (S.put 105 (mO 0 σ dr mo sc)).1[105]? = _ := put_self h0
  refine MetA.of rfl (by decide +kernel) (Nat.le_of_ble_eq_true rfl) ?_
  refine ev_aload_n i_Md_isDeterministic_0 rfl ?_
  refine ev_iload_n i_Md_isDeterministic_1 rfl ?_
  refine ev_callS1 i_Md_isDeterministic_2 rfl (Nat.le_of_ble_eq_true rfl) (m_isTable.1 (inR.of (by decide) ht)) ?_
  refine ev_if_eqN i_Md_isDeterministic_5 (by omega) (fun hc_5 => ?_) (fun hc_5 => ?_)
  · skip
    exfalso; omega
  · skip
    refine ev_iconstN (v := 0) i_Md_isDeterministic_8 (by decide) ?_
    refine ev_goto i_Md_isDeterministic_9 ?_
    refine ev_mput_thrown i_Md_isDeterministic_13 h0 ?_
    refine ev_aload_n i_Md_isDeterministic_16 rfl ?_
    refine ev_get i_Md_isDeterministic_17 o1 rfl ?_
    refine ev_if_neN i_Md_isDeterministic_20 (by omega) (fun hc_20 => ?_) (fun hc_20 => ?_)
    · skip
      exfalso; omega
    · skip
      refine ev_aload_n i_Md_isDeterministic_23 rfl ?_
      refine ev_iload_n i_Md_isDeterministic_24 rfl ?_
      refine ev_callV1 i_Md_isDeterministic_25 rfl o1 (Nat.le_of_ble_eq_true rfl) ((m_det (h.th h0) ht).1 hc) ?_
      refine ev_if_eqN i_Md_isDeterministic_28 (by omega) (fun hc_28 => ?_) (fun hc_28 => ?_)
      · skip
        exfalso; omega
      · skip
        refine ev_iconstN (v := 1) i_Md_isDeterministic_31 (by decide) ?_
        refine ev_goto i_Md_isDeterministic_32 ?_
        exact ev_iret i_Md_isDeterministic_36 rfl (by first | rfl | decide)
theorem m_isDet_n {scr : Scr} {l : Launch} {S : Sto} {σ : Sg} {th : Nat} {t : Nat} (h : MInv th σ S) (ht : t < 3) (hc : ¬ isDet (σ.2.1.1 t)) : MRun scr l 2 M_Md_isDeterministic [.ref 105, .int (nI t)] S (some (.int (nI 0))) 0 σ := by
  refine MRun.th h (fun dr mo sc h0 d => ?_)
  have o1 : (S.put 105 (mO 0 σ dr mo sc)).1[105]? = _ := put_self h0
  refine MetA.of rfl (by decide +kernel) (Nat.le_of_ble_eq_true rfl) ?_
  refine ev_aload_n i_Md_isDeterministic_0 rfl ?_
  refine ev_iload_n i_Md_isDeterministic_1 rfl ?_
  refine ev_callS1 i_Md_isDeterministic_2 rfl (Nat.le_of_ble_eq_true rfl) (m_isTable.1 (inR.of (by decide) ht)) ?_
  refine ev_if_eqN i_Md_isDeterministic_5 (by omega) (fun hc_5 => ?_) (fun hc_5 => ?_)
  · skip
    exfalso; omega
  · skip
    refine ev_iconstN (v := 0) i_Md_isDeterministic_8 (by decide) ?_
    refine ev_goto i_Md_isDeterministic_9 ?_
    refine ev_mput_thrown i_Md_isDeterministic_13 h0 ?_
    refine ev_aload_n i_Md_isDeterministic_16 rfl ?_
    refine ev_get i_Md_isDeterministic_17 o1 rfl ?_
    refine ev_if_neN i_Md_isDeterministic_20 (by omega) (fun hc_20 => ?_) (fun hc_20 => ?_)
    · skip
      exfalso; omega
    · skip
      refine ev_aload_n i_Md_isDeterministic_23 rfl ?_
      refine ev_iload_n i_Md_isDeterministic_24 rfl ?_
      refine ev_callV1 i_Md_isDeterministic_25 rfl o1 (Nat.le_of_ble_eq_true rfl) ((m_det (h.th h0) ht).2 hc) ?_
      refine ev_if_eqN i_Md_isDeterministic_28 (by omega) (fun hc_28 => ?_) (fun hc_28 => ?_)
      · skip
        refine ev_iconstN (v := 0) i_Md_isDeterministic_35 (by decide) ?_
        exact ev_iret i_Md_isDeterministic_36 rfl (by first | rfl | decide)
      · skip
        exfalso; omega
theorem m_isPlain_1 {scr : Scr} {l : Launch} {S : Sto} {σ : Sg} {th : Nat} {x : Int32} (h : MInv th σ S) (hx : ¬ inR 3 x) : MRun scr l 2 M_Md_isPlain [.ref 105, .int x] S (some (.int (nI 0))) 1 σ := by
  refine MRun.th h (fun dr mo sc h0 d => ?_)
  have o1 : (S.put 105 (mO 1 σ dr mo sc)).1[105]? = _ := put_self h0
  refine MetA.of rfl (by decide +kernel) (Nat.le_of_ble_eq_true rfl) ?_
  refine ev_aload_n i_Md_isPlain_0 rfl ?_
  refine ev_iload_n i_Md_isPlain_1 rfl ?_
  refine ev_callS1 i_Md_isPlain_2 rfl (Nat.le_of_ble_eq_true rfl) (m_isTable.2 hx) ?_
  refine ev_if_eqN i_Md_isPlain_5 (by omega) (fun hc_5 => ?_) (fun hc_5 => ?_)
  · skip
    refine ev_iconstN (v := 1) i_Md_isPlain_12 (by decide) ?_
    refine ev_mput_thrown i_Md_isPlain_13 h0 ?_
    refine ev_aload_n i_Md_isPlain_16 rfl ?_
    refine ev_get i_Md_isPlain_17 o1 rfl ?_
    refine ev_if_neN i_Md_isPlain_20 (by omega) (fun hc_20 => ?_) (fun hc_20 => ?_)
    · skip
      refine ev_iconstN (v := 0) i_Md_isPlain_35 (by decide) ?_
      exact ev_iret i_Md_isPlain_36 rfl (by first | rfl | decide)
    · skip
      exfalso; omega
  · skip
    exfalso; omega
theorem m_isPlain_y {scr : Scr} {l : Launch} {S : Sto} {σ : Sg} {th : Nat} {t : Nat} (h : MInv th σ S) (ht : t < 3) (hc : rcount (σ.2.1.1 t) = 0) : MRun scr l 2 M_Md_isPlain [.ref 105, .int (nI t)] S (some (.int (nI 1))) 0 σ := by
  refine MRun.th h (fun dr mo sc h0 d => ?_)
  have o1 : (S.put 105 (mO 0 σ dr mo sc)).1[105]? = _ := put_self h0
  refine MetA.of rfl (by decide +kernel) (Nat.le_of_ble_eq_true rfl) ?_
  refine ev_aload_n i_Md_isPlain_0 rfl ?_
  refine ev_iload_n i_Md_isPlain_1 rfl ?_
  refine ev_callS1 i_Md_isPlain_2 rfl (Nat.le_of_ble_eq_true rfl) (m_isTable.1 (inR.of (by decide) ht)) ?_
  refine ev_if_eqN i_Md_isPlain_5 (by omega) (fun hc_5 => ?_) (fun hc_5 => ?_)
  · skip
    exfalso; omega
  · skip
    refine ev_iconstN (v := 0) i_Md_isPlain_8 (by decide) ?_
    refine ev_goto i_Md_isPlain_9 ?_
    refine ev_mput_thrown i_Md_isPlain_13 h0 ?_
    refine ev_aload_n i_Md_isPlain_16 rfl ?_
    refine ev_get i_Md_isPlain_17 o1 rfl ?_
    refine ev_if_neN i_Md_isPlain_20 (by omega) (fun hc_20 => ?_) (fun hc_20 => ?_)
    · skip
      exfalso; omega
    · skip
      refine ev_aload_n i_Md_isPlain_23 rfl ?_
      refine ev_iload_n i_Md_isPlain_24 rfl ?_
      refine ev_callV1 i_Md_isPlain_25 rfl o1 (Nat.le_of_ble_eq_true rfl) ((m_plain (h.th h0) ht).1 hc) ?_
      refine ev_if_eqN i_Md_isPlain_28 (by omega) (fun hc_28 => ?_) (fun hc_28 => ?_)
      · skip
        exfalso; omega
      · skip
        refine ev_iconstN (v := 1) i_Md_isPlain_31 (by decide) ?_
        refine ev_goto i_Md_isPlain_32 ?_
        exact ev_iret i_Md_isPlain_36 rfl (by first | rfl | decide)
theorem m_isPlain_n {scr : Scr} {l : Launch} {S : Sto} {σ : Sg} {th : Nat} {t : Nat} (h : MInv th σ S) (ht : t < 3) (hc : rcount (σ.2.1.1 t) ≠ 0) : MRun scr l 2 M_Md_isPlain [.ref 105, .int (nI t)] S (some (.int (nI 0))) 0 σ := by
  refine MRun.th h (fun dr mo sc h0 d => ?_)
  have o1 : (S.put 105 (mO 0 σ dr mo sc)).1[105]? = _ := put_self h0
  refine MetA.of rfl (by decide +kernel) (Nat.le_of_ble_eq_true rfl) ?_
  refine ev_aload_n i_Md_isPlain_0 rfl ?_
  refine ev_iload_n i_Md_isPlain_1 rfl ?_
  refine ev_callS1 i_Md_isPlain_2 rfl (Nat.le_of_ble_eq_true rfl) (m_isTable.1 (inR.of (by decide) ht)) ?_
  refine ev_if_eqN i_Md_isPlain_5 (by omega) (fun hc_5 => ?_) (fun hc_5 => ?_)
  · skip
    exfalso; omega
  · skip
    refine ev_iconstN (v := 0) i_Md_isPlain_8 (by decide) ?_
    refine ev_goto i_Md_isPlain_9 ?_
    refine ev_mput_thrown i_Md_isPlain_13 h0 ?_
    refine ev_aload_n i_Md_isPlain_16 rfl ?_
    refine ev_get i_Md_isPlain_17 o1 rfl ?_
    refine ev_if_neN i_Md_isPlain_20 (by omega) (fun hc_20 => ?_) (fun hc_20 => ?_)
    · skip
      exfalso; omega
    · skip
      refine ev_aload_n i_Md_isPlain_23 rfl ?_
      refine ev_iload_n i_Md_isPlain_24 rfl ?_
      refine ev_callV1 i_Md_isPlain_25 rfl o1 (Nat.le_of_ble_eq_true rfl) ((m_plain (h.th h0) ht).2 hc) ?_
      refine ev_if_eqN i_Md_isPlain_28 (by omega) (fun hc_28 => ?_) (fun hc_28 => ?_)
      · skip
        refine ev_iconstN (v := 0) i_Md_isPlain_35 (by decide) ?_
        exact ev_iret i_Md_isPlain_36 rfl (by first | rfl | decide)
      · skip
        exfalso; omega

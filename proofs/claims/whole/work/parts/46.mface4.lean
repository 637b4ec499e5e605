/-! the model m: its face, step, undo, save, restore -/
theorem RowW.mv {g g' : Nat → Int32} {o o' : Nat} {xs : List Nat} (h : RowW g o xs) (he : ∀ j, j < 61 → g' (o' + j) = g (o + j)) : RowW g' o' xs := by
  obtain ⟨h1, h2, h3⟩ := h
  refine ⟨?_, h2, fun j hj => ?_⟩
  · have := he 0 (by omega)
    rw [Nat.add_zero, Nat.add_zero] at this
    rw [this]; exact h1
  · have := he (1 + j) (by omega)
    rw [← Nat.add_assoc, ← Nat.add_assoc] at this
    rw [this]; exact h3 j hj
theorem TabsM.ext {g g' : Nat → Int32} {Ts : Nat → TabV} (h : TabsM g Ts) (he : ∀ j, j < 417 → g' j = g j) : TabsM g' Ts := fun t ht => (h t ht).ext (fun j a b => he j (by omega))
theorem cpy_at {f g : Nat → Int32} {sp dp n j : Nat} (h1 : dp ≤ j) (h2 : j < dp + n) : va_cpy f g sp dp n j = f (sp + (j - dp)) := by
  unfold va_cpy; rw [if_pos ⟨h1, h2⟩]
theorem cpy_out {f g : Nat → Int32} {sp dp n j : Nat} (h : j < dp ∨ dp + n ≤ j) : va_cpy f g sp dp n j = g j := by
  unfold va_cpy; rw [if_neg (by omega)]
theorem MObj.of {th : Nat} {σ : Sg} {S : Sto} {dr mo sc : Int32} (h : S.1[105]? = some (mO th σ dr mo sc)) : MObj th σ S := ⟨dr, mo, sc, h⟩
theorem ScrM.next {S S1 : Sto} {K : List Nat} {G : Nat → Int32} (h : ScrM S) (hF : Fr K S S1) (hk : ∀ k, k ∈ K → k = 105 ∨ k = 116) (hG : S1.1[116]? = some (aI 61 G)) : ScrM S1 := by
  obtain ⟨f1, f5, f6, f7, f8, f9, f3, f4, l1, l2, l3, e1, e2, e3, e4, h1, h2, h3, h4, h5, h6, h7, h8, h9, h10, h11, h12, h13, h14, h15⟩ := h
  have hn : ∀ k, ¬ (k = 105 ∨ k = 116) → k ∉ K := fun k q z => q (hk k z)
  exact ⟨G, f5, f6, f7, f8, f9, f3, f4, l1, l2, l3, e1, e2, e3, e4, hG, hF.at h2 (hn _ (by omega)), hF.at h3 (hn _ (by omega)), hF.at h4 (hn _ (by omega)), hF.at h5 (hn _ (by omega)), hF.at h6 (hn _ (by omega)), hF.at h7 (hn _ (by omega)), hF.at h8 (hn _ (by omega)), hF.at h9 (hn _ (by omega)), hF.at h10 (hn _ (by omega)), hF.at h11 (hn _ (by omega)), hF.at h12 (hn _ (by omega)), hF.at h13 (hn _ (by omega)), hF.at h14 (hn _ (by omega)), hF.at h15 (hn _ (by omega))⟩
/-- the numbers of the object, without its draw -/
abbrev mQ (th : Nat) (σ : Sg) (mo sc : Int32) : Int32 × Int32 × Int32 × Int32 × Int32 × Int32 := (nI th, nI σ.1.length, nI σ.2.2.2.2.1.length, nI (bI σ.2.2.2.1), mo, sc)
theorem MInv.st3 {th t : Nat} {σ : Sg} {S : Sto} {dr mo sc : Int32} (h : MInv th σ S) (h0 : S.1[105]? = some (mO th σ dr mo sc)) (ht : t < 3) : St3 S 107 116 t (σ.2.1.1 t) σ.2.1.2.1 (mQ th σ mo sc) [] dr := by
  obtain ⟨⟨g, t1, t2⟩, ⟨f, w1, w2⟩, c2⟩ := h.2.2.1
  obtain ⟨f1, f5, f6, f7, f8, f9, f3, f4, l1, l2, l3, e1, e2, e3, e4, h1, hrest⟩ := h.2.2.2.2.2
  exact ⟨h0, ⟨g, t1, t2 t ht⟩, ⟨f, w1, w2⟩, f1, h1, fun j hj => absurd hj (by show ¬ j < 0; omega)⟩
/-- only the draw and the row next have changed -/
theorem MInv.next {th : Nat} {σ : Sg} {S S1 : Sto} {K : List Nat} (h : MInv th σ S) (hF : Fr K S S1) (hk : ∀ k, k ∈ K → k = 105 ∨ k = 116) (h0 : MObj th σ S1) (hG : ∃ G, S1.1[116]? = some (aI 61 G)) : MInv th σ S1 := by
  obtain ⟨G, hG⟩ := hG
  have hn : ∀ k, ¬ (k = 105 ∨ k = 116) → k ∉ K := fun k q z => q (hk k z)
  exact ⟨h0, h.2.1.fr hF (hn _ (by omega)), h.2.2.1.fr hF ⟨hn _ (by omega), hn _ (by omega), hn _ (by omega), hn _ (by omega)⟩, h.2.2.2.1.fr hF ⟨hn _ (by omega), hn _ (by omega), hn _ (by omega), hn _ (by omega)⟩, h.2.2.2.2.1.fr hF (hn _ (by omega)), h.2.2.2.2.2.next hF hk hG⟩
theorem lp_step_88 {scr : Scr} {l : Launch} {S : Sto} {σ : Sg} {th : Nat} {ys : List Nat} {gn : Nat → Int32} {u1 u2 : Option Value} (h : MInv th σ S) (h8 : σ.2.2.2.2.1.length < 8) (hn : S.1[116]? = some (aI 61 gn)) (hy : RowW gn 0 ys) : ∃ S1, (∀ d, Ev scr l d M_Md_step 88 [some (.ref 105), u1, u2] [] S (.inl (some (.int (nI ys.length))), S1)) ∧ MInv th (σ.1, setCur σ.2.1 ys, σ.2.2.1, σ.2.2.2.1, σ.2.2.2.2.1 ++ [σ.2.1.2.1], σ.2.2.2.2.2) S1 ∧ Fr mK S S1 := by
  obtain ⟨dr, mo, sc, h0⟩ := h.get
  obtain ⟨l1, ⟨gw, w1, w2⟩, l3, l4⟩ := h.2.2.1
  obtain ⟨-, gh, q1, q2⟩ := h.2.2.2.2.1
  have o4 : (S.put 111 (aI 488 (va_cpy gw gh 0 (61 * σ.2.2.2.2.1.length) 61))).1[105]? = _ := put_at h0 (by decide)
  have o5 : ((S.put 111 (aI 488 (va_cpy gw gh 0 (61 * σ.2.2.2.2.1.length) 61))).put 105 (mObj (nI th) (nI σ.1.length) (nI (σ.2.2.2.2.1.length + 1)) (nI (bI σ.2.2.2.1)) dr mo sc)).1[105]? = _ := put_self o4
  have o6 : (((S.put 111 (aI 488 (va_cpy gw gh 0 (61 * σ.2.2.2.2.1.length) 61))).put 105 (mObj (nI th) (nI σ.1.length) (nI (σ.2.2.2.2.1.length + 1)) (nI (bI σ.2.2.2.1)) dr mo sc)).put 107 (aI 61 (va_cpy gn gw 0 0 61))).1[105]? = _ := put_at o5 (by decide)
  have n5 : ((S.put 111 (aI 488 (va_cpy gw gh 0 (61 * σ.2.2.2.2.1.length) 61))).put 105 (mObj (nI th) (nI σ.1.length) (nI (σ.2.2.2.2.1.length + 1)) (nI (bI σ.2.2.2.1)) dr mo sc)).1[116]? = _ := put_at (put_at hn (by decide)) (by decide)
  have w5 : ((S.put 111 (aI 488 (va_cpy gw gh 0 (61 * σ.2.2.2.2.1.length) 61))).put 105 (mObj (nI th) (nI σ.1.length) (nI (σ.2.2.2.2.1.length + 1)) (nI (bI σ.2.2.2.1)) dr mo sc)).1[107]? = _ := put_at (put_at w1 (by decide)) (by decide)
  have w6 : (((S.put 111 (aI 488 (va_cpy gw gh 0 (61 * σ.2.2.2.2.1.length) 61))).put 105 (mObj (nI th) (nI σ.1.length) (nI (σ.2.2.2.2.1.length + 1)) (nI (bI σ.2.2.2.1)) dr mo sc)).put 107 (aI 61 (va_cpy gn gw 0 0 61))).1[107]? = _ := put_self w5
  have hyr : RowW (va_cpy gn gw 0 0 61) 0 ys := hy.mv (fun j hj => by rw [cpy_at (by omega) (by omega)]; congr 1; omega)
  have ew := hyr.1
  have hF : Fr [105, 107, 111] S (((S.put 111 (aI 488 (va_cpy gw gh 0 (61 * σ.2.2.2.2.1.length) 61))).put 105 (mObj (nI th) (nI σ.1.length) (nI (σ.2.2.2.2.1.length + 1)) (nI (bI σ.2.2.2.1)) dr mo sc)).put 107 (aI 61 (va_cpy gn gw 0 0 61))) := ((Fr.put _ _ (by simp)).tr (Fr.put _ _ (by simp))).tr (Fr.put _ _ (by simp))
  have e8 : (σ.2.2.2.2.1 ++ [σ.2.1.2.1]).length = σ.2.2.2.2.1.length + 1 := by simp
  refine ⟨(((S.put 111 (aI 488 (va_cpy gw gh 0 (61 * σ.2.2.2.2.1.length) 61))).put 105 (mObj (nI th) (nI σ.1.length) (nI (σ.2.2.2.2.1.length + 1)) (nI (bI σ.2.2.2.1)) dr mo sc)).put 107 (aI 61 (va_cpy gn gw 0 0 61))), fun d => ?_, ⟨⟨dr, mo, sc, by show _ = some (mObj (nI th) (nI σ.1.length) (nI (σ.2.2.2.2.1 ++ [σ.2.1.2.1]).length) (nI (bI σ.2.2.2.1)) dr mo sc); rw [e8]; exact o6⟩, h.2.1.fr hF (by decide), ⟨⟨l1.choose, hF.at l1.choose_spec.1 (by decide), l1.choose_spec.2⟩, ⟨_, w6, hyr⟩, ⟨l3.choose, hF.at l3.choose_spec.1 (by decide), l3.choose_spec.2⟩, l4.choose, hF.at l4.choose_spec.1 (by decide), l4.choose_spec.2⟩, h.2.2.2.1.fr hF ⟨by decide, by decide, by decide, by decide⟩, ⟨by show (σ.2.2.2.2.1 ++ [σ.2.1.2.1]).length ≤ 8; omega, _, put_at (put_at (put_self q1) (by decide)) (by decide), fun k hk => by
    have hk : k < (σ.2.2.2.2.1 ++ [σ.2.1.2.1]).length := hk
    show RowW _ _ ((σ.2.2.2.2.1 ++ [σ.2.1.2.1]).getD k [])
    by_cases z : k = σ.2.2.2.2.1.length
    · have e : (σ.2.2.2.2.1 ++ [σ.2.1.2.1]).getD k [] = σ.2.1.2.1 := by rw [z]; simp [List.getD]
      rw [e, z]
      exact w2.mv (fun j hj => by rw [cpy_at (by omega) (by omega)]; congr 1; omega)
    · have e : (σ.2.2.2.2.1 ++ [σ.2.1.2.1]).getD k [] = σ.2.2.2.2.1.getD k [] := by
        rw [List.getD_eq_getElem?_getD, List.getD_eq_getElem?_getD, List.getElem?_append_left (by omega)]
      rw [e]
      exact (q2 k (by omega)).mv (fun j hj => by rw [cpy_out (by omega)])⟩, h.2.2.2.2.2.fr hF (fun k a b => by simp; omega)⟩, hF.m (by decide)⟩
  · skip
    refine ev_aload_n i_Md_step_88 rfl ?_
    refine ev_get i_Md_step_89 h0 rfl ?_
    refine ev_iconstN (v := 0) i_Md_step_92 (by decide) ?_
    refine ev_aload_n i_Md_step_93 rfl ?_
    refine ev_get i_Md_step_94 h0 rfl ?_
    refine ev_bipushN (v := 61) i_Md_step_97 (by decide) ?_
    refine ev_aload_n i_Md_step_99 rfl ?_
    refine ev_get i_Md_step_100 h0 rfl ?_
    refine ev_imulN i_Md_step_103 ?_
    refine ev_bipushN (v := 61) i_Md_step_104 (by decide) ?_
    refine ev_cpyIN i_Md_step_106 rfl (Nat.le_of_ble_eq_true rfl) w1 q1 (by omega) (by omega) (by decide) (by decide) ?_
    refine ev_aload_n i_Md_step_109 rfl ?_
    refine ev_dup i_Md_step_110 rfl ?_
    refine ev_get i_Md_step_111 o4 rfl ?_
    refine ev_iconstN (v := 1) i_Md_step_114 (by decide) ?_
    first | refine ev_iaddN i_Md_step_115 ?_ | refine ev_iadd i_Md_step_115 ?_
    refine ev_mput_steps i_Md_step_116 o4 ?_
    refine ev_aload_n i_Md_step_119 rfl ?_
    refine ev_get i_Md_step_120 o5 rfl ?_
    refine ev_iconstN (v := 0) i_Md_step_123 (by decide) ?_
    refine ev_aload_n i_Md_step_124 rfl ?_
    refine ev_get i_Md_step_125 o5 rfl ?_
    refine ev_iconstN (v := 0) i_Md_step_128 (by decide) ?_
    refine ev_bipushN (v := 61) i_Md_step_129 (by decide) ?_
    refine ev_cpyIN i_Md_step_131 rfl (Nat.le_of_ble_eq_true rfl) n5 w5 (by omega) (by omega) (by decide) (by decide) ?_
    refine ev_aload_n i_Md_step_134 rfl ?_
    refine ev_get i_Md_step_135 o6 rfl ?_
    refine ev_iconstN (v := 0) i_Md_step_138 (by decide) ?_
    refine ev_ialdN i_Md_step_139 w6 (by decide) (by decide) ?_
    rw [ew]
    exact ev_iret i_Md_step_140 rfl (by first | rfl | decide)

theorem tail_get {ws : List (List Nat)} {k : Nat} : ws.tail.getD k [] = ws.getD (k + 1) [] := by
  cases ws with
  | nil => rfl
  | cons a b => rfl
theorem lp_step_52 {scr : Scr} {l : Launch} {S : Sto} {σ : Sg} {th : Nat} {ys : List Nat} {gn : Nat → Int32} {u1 u2 : Option Value} (h : MInv th σ S) (hn : S.1[116]? = some (aI 61 gn)) (hy : RowW gn 0 ys) : ∃ S1, (∀ d, Ev scr l d M_Md_step 52 [some (.ref 105), u1, u2] [] S (.inl (some (.int (nI ys.length))), S1)) ∧ MInv th (σ.1, setCur σ.2.1 ys, σ.2.2.1, σ.2.2.2.1, histPush σ.2.2.2.2.1 σ.2.1.2.1, σ.2.2.2.2.2) S1 ∧ Fr mK S S1 := by
  obtain ⟨dr, mo, sc, h0⟩ := h.get
  obtain ⟨h8, gh, q1, q2⟩ := h.2.2.2.2.1
  unfold histPush
  by_cases z : σ.2.2.2.2.1.length = 8
  · rw [if_pos z]
    have h08 : S.1[105]? = some (mObj (nI th) (nI σ.1.length) (nI 8) (nI (bI σ.2.2.2.1)) dr mo sc) := by rw [← z]; exact h0
    have oa : (S.put 111 (aI 488 (va_cpy gh gh 61 0 427))).1[105]? = _ := put_at h08 (by decide)
    have hF : Fr [105, 111] S ((S.put 111 (aI 488 (va_cpy gh gh 61 0 427))).put 105 (mObj (nI th) (nI σ.1.length) (nI 7) (nI (bI σ.2.2.2.1)) dr mo sc)) := (Fr.put _ _ (by simp)).tr (Fr.put _ _ (by simp))
    have et : σ.2.2.2.2.1.tail.length = 7 := by rw [List.length_tail]; omega
    have hM : MInv th (σ.1, σ.2.1, σ.2.2.1, σ.2.2.2.1, σ.2.2.2.2.1.tail, σ.2.2.2.2.2) ((S.put 111 (aI 488 (va_cpy gh gh 61 0 427))).put 105 (mObj (nI th) (nI σ.1.length) (nI 7) (nI (bI σ.2.2.2.1)) dr mo sc)) := ⟨⟨dr, mo, sc, by show _ = some (mObj (nI th) (nI σ.1.length) (nI σ.2.2.2.2.1.tail.length) (nI (bI σ.2.2.2.1)) dr mo sc); rw [et]; exact put_self oa⟩, h.2.1.fr hF (by decide), h.2.2.1.fr hF ⟨by decide, by decide, by decide, by decide⟩, h.2.2.2.1.fr hF ⟨by decide, by decide, by decide, by decide⟩, ⟨by show σ.2.2.2.2.1.tail.length ≤ 8; omega, _, put_at (put_self q1) (by decide), fun k hk => by
      have hk : k < σ.2.2.2.2.1.tail.length := hk
      show RowW _ _ (σ.2.2.2.2.1.tail.getD k [])
      rw [tail_get]
      exact (q2 (k + 1) (by omega)).mv (fun j hj => by rw [cpy_at (by omega) (by omega)]; congr 1; omega)⟩, h.2.2.2.2.2.fr hF (fun k a b => by simp; omega)⟩
    obtain ⟨S1, m2, i2, f2⟩ := lp_step_88 (scr := scr) (l := l) (u1 := u1) (u2 := u2) hM (by show σ.2.2.2.2.1.tail.length < 8; omega) (hF.at hn (by decide)) hy
    refine ⟨S1, fun d => ?_, i2, (hF.m (by decide)).tr f2⟩
    have h0 := h08
    refine ev_aload_n i_Md_step_52 rfl ?_
    refine ev_get i_Md_step_53 h0 rfl ?_
    refine ev_bipushN (v := 8) i_Md_step_56 (by decide) ?_
    refine ev_icmp_neN i_Md_step_58 (by omega) (by omega) (fun hc_58 => ?_) (fun hc_58 => ?_)
    · skip
      exfalso; omega
    · skip
      refine ev_aload_n i_Md_step_61 rfl ?_
      refine ev_get i_Md_step_62 h0 rfl ?_
      refine ev_bipushN (v := 61) i_Md_step_65 (by decide) ?_
      refine ev_aload_n i_Md_step_67 rfl ?_
      refine ev_get i_Md_step_68 h0 rfl ?_
      refine ev_iconstN (v := 0) i_Md_step_71 (by decide) ?_
      refine ev_sipushN (v := 427) i_Md_step_72 (by decide) ?_
      refine ev_cpyIN i_Md_step_75 rfl (Nat.le_of_ble_eq_true rfl) q1 q1 (by omega) (by omega) (by decide) (by decide) ?_
      refine ev_aload_n i_Md_step_78 rfl ?_
      refine ev_dup i_Md_step_79 rfl ?_
      refine ev_get i_Md_step_80 oa rfl ?_
      refine ev_iconstN (v := 1) i_Md_step_83 (by decide) ?_
      refine ev_isubN i_Md_step_84 (by decide) ?_
      refine ev_mput_steps i_Md_step_85 oa ?_
      exact m2 d
  · rw [if_neg z]
    obtain ⟨S1, m2, i2, f2⟩ := lp_step_88 (scr := scr) (l := l) (u1 := u1) (u2 := u2) h (by omega) hn hy
    refine ⟨S1, fun d => ?_, i2, f2⟩
    refine ev_aload_n i_Md_step_52 rfl ?_
    refine ev_get i_Md_step_53 h0 rfl ?_
    refine ev_bipushN (v := 8) i_Md_step_56 (by decide) ?_
    refine ev_icmp_neN i_Md_step_58 (by omega) (by omega) (fun hc_58 => ?_) (fun hc_58 => ?_)
    · skip
      exact m2 d
    · skip
      exfalso; omega
theorem m_step_1 {scr : Scr} {l : Launch} {S : Sto} {σ : Sg} {th : Nat} {x seed : Int32} (h : MInv th σ S) (hx : ¬ inR 3 x) : MRun scr l 5 M_Md_step [.ref 105, .int x, .int seed] S (some (.int (nI 0))) 1 σ := by
  refine MRun.th h (fun dr mo sc h0 d => ?_)
  have o1 : (S.put 105 (mO 1 σ dr mo sc)).1[105]? = _ := put_self h0
  refine MetA.of rfl (by decide +kernel) (Nat.le_of_ble_eq_true rfl) ?_
  refine ev_aload_n i_Md_step_0 rfl ?_
  refine ev_iload_n i_Md_step_1 rfl ?_
  refine ev_callS1 i_Md_step_2 rfl (Nat.le_of_ble_eq_true rfl) (m_isTable.2 hx) ?_
  refine ev_if_eqN i_Md_step_5 (by omega) (fun hc_5 => ?_) (fun hc_5 => ?_)
  · skip
    refine ev_iconstN (v := 1) i_Md_step_12 (by decide) ?_
    refine ev_mput_thrown i_Md_step_13 h0 ?_
    refine ev_aload_n i_Md_step_16 rfl ?_
    refine ev_get i_Md_step_17 o1 rfl ?_
    refine ev_if_leN i_Md_step_20 (by omega) (fun hc_20 => ?_) (fun hc_20 => ?_)
    · skip
      exfalso; omega
    · skip
      refine ev_iconstN (v := 0) i_Md_step_23 (by decide) ?_
      exact ev_iret i_Md_step_24 rfl (by first | rfl | decide)
  · skip
    exfalso; omega
theorem m_step {scr : Scr} {l : Launch} {S : Sto} {σ : Sg} {th : Nat} {t : Nat} {seed : Int32} (h : MInv th σ S) (ht : t < 3) (hl : (stepW (σ.2.1.1 t) σ.2.1.2.1 seed).length ≤ 60) : MRun scr l 5 M_Md_step [.ref 105, .int (nI t), .int seed] S (some (.int (nI (stepW (σ.2.1.1 t) σ.2.1.2.1 seed).length))) 0 (σ.1, setCur σ.2.1 (stepW (σ.2.1.1 t) σ.2.1.2.1 seed), σ.2.2.1, σ.2.2.2.1, histPush σ.2.2.2.2.1 σ.2.1.2.1, σ.2.2.2.2.2) := by
  obtain ⟨dr, mo, sc, h0⟩ := h.get
  have o1 : (S.put 105 (mO 0 σ dr mo sc)).1[105]? = _ := put_self h0
  have o2 : ((S.put 105 (mO 0 σ dr mo sc)).put 105 (mO 0 σ seed mo sc)).1[105]? = _ := put_self o1
  have hF2 : Fr [105, 116] S ((S.put 105 (mO 0 σ dr mo sc)).put 105 (mO 0 σ seed mo sc)) := (Fr.put _ _ (by simp)).tr (Fr.put _ _ (by simp))
  have h2 : MInv 0 σ ((S.put 105 (mO 0 σ dr mo sc)).put 105 (mO 0 σ seed mo sc)) := (h.th (k := 0) h0).next (Fr.put (K := [105]) _ _ (by simp)) (fun k hk => Or.inl (by simpa using hk)) ⟨seed, mo, sc, o2⟩ (by
    obtain ⟨f1, f5, f6, f7, f8, f9, f3, f4, l1, l2, l3, e1, e2, e3, e4, h1, hrest⟩ := (h.th (k := 0) h0).2.2.2.2.2
    exact ⟨f1, put_at h1 (by decide)⟩)
  obtain ⟨S3, m3, ⟨x, o3, -⟩, ⟨G, b1, b2⟩, f3⟩ := (m_step3 (scr := scr) (l := l) ht (by decide) (by decide) (h2.st3 o2 ht)).1 hl
  have h3 : MInv 0 σ S3 := h2.next f3 (by simp) ⟨x, mo, sc, o3⟩ ⟨G, b1⟩
  obtain ⟨S4, m4, i4, f4⟩ := lp_step_52 (scr := scr) (l := l) (u1 := some (.int (nI t))) (u2 := some (.int seed)) h3 b1 b2
  refine ⟨S4, fun d => ?_, i4, (((hF2.tr f3).m (by decide)).tr f4)⟩
  refine MetA.of rfl (by decide +kernel) (Nat.le_of_ble_eq_true rfl) ?_
  refine ev_aload_n i_Md_step_0 rfl ?_
  refine ev_iload_n i_Md_step_1 rfl ?_
  refine ev_callS1 i_Md_step_2 rfl (Nat.le_of_ble_eq_true rfl) (m_isTable.1 (inR.of (by decide) ht)) ?_
  refine ev_if_eqN i_Md_step_5 (by omega) (fun hc_5 => ?_) (fun hc_5 => ?_)
  · skip
    exfalso; omega
  · skip
    refine ev_iconstN (v := 0) i_Md_step_8 (by decide) ?_
    refine ev_goto i_Md_step_9 ?_
    refine ev_mput_thrown i_Md_step_13 h0 ?_
    refine ev_aload_n i_Md_step_16 rfl ?_
    refine ev_get i_Md_step_17 o1 rfl ?_
    refine ev_if_leN i_Md_step_20 (by omega) (fun hc_20 => ?_) (fun hc_20 => ?_)
    · skip
      refine ev_aload_n i_Md_step_25 rfl ?_
      refine ev_iload_n i_Md_step_26 rfl ?_
      refine ev_mput_drawn i_Md_step_27 o1 ?_
      refine ev_aload_n i_Md_step_30 rfl ?_
      refine ev_iload_n i_Md_step_31 rfl ?_
      refine ev_aload_n i_Md_step_32 rfl ?_
      refine ev_get i_Md_step_33 o2 rfl ?_
      refine ev_aload_n i_Md_step_36 rfl ?_
      refine ev_get i_Md_step_37 o2 rfl ?_
      refine ev_callV3 i_Md_step_40 rfl o2 (Nat.le_of_ble_eq_true rfl) (m3 _) ?_
      refine ev_if_neN i_Md_step_43 (by omega) (fun hc_43 => ?_) (fun hc_43 => ?_)
      · skip
        exact m4 _
      · skip
        exfalso; omega
    · skip
      exfalso; omega
theorem m_step_2 {scr : Scr} {l : Launch} {S : Sto} {σ : Sg} {th : Nat} {t : Nat} {seed : Int32} (h : MInv th σ S) (ht : t < 3) (hl : 60 < (stepW (σ.2.1.1 t) σ.2.1.2.1 seed).length) : MRun scr l 5 M_Md_step [.ref 105, .int (nI t), .int seed] S (some (.int (nI 0))) 2 σ := by
  obtain ⟨dr, mo, sc, h0⟩ := h.get
  have o1 : (S.put 105 (mO 0 σ dr mo sc)).1[105]? = _ := put_self h0
  have o2 : ((S.put 105 (mO 0 σ dr mo sc)).put 105 (mO 0 σ seed mo sc)).1[105]? = _ := put_self o1
  have hF2 : Fr [105, 116] S ((S.put 105 (mO 0 σ dr mo sc)).put 105 (mO 0 σ seed mo sc)) := (Fr.put _ _ (by simp)).tr (Fr.put _ _ (by simp))
  have h2 : MInv 0 σ ((S.put 105 (mO 0 σ dr mo sc)).put 105 (mO 0 σ seed mo sc)) := (h.th (k := 0) h0).next (Fr.put (K := [105]) _ _ (by simp)) (fun k hk => Or.inl (by simpa using hk)) ⟨seed, mo, sc, o2⟩ (by
    obtain ⟨f1, f5, f6, f7, f8, f9, f3, f4, l1, l2, l3, e1, e2, e3, e4, h1, hrest⟩ := (h.th (k := 0) h0).2.2.2.2.2
    exact ⟨f1, put_at h1 (by decide)⟩)
  obtain ⟨S3, m3, ⟨x, o3, -, -, G, b1, -⟩, f3⟩ := (m_step3 (scr := scr) (l := l) ht (by decide) (by decide) (h2.st3 o2 ht)).2 hl
  have h3 : MInv 0 σ S3 := h2.next f3 (by simp) ⟨x, mo, sc, o3⟩ ⟨G, b1⟩
  obtain ⟨S4, mf, i4, f4⟩ := m_fails (scr := scr) (l := l) (k := 2) h3
  refine ⟨S4, fun d => ?_, i4, (((hF2.tr f3).m (by decide)).tr (f4.m (by decide)))⟩
  refine MetA.of rfl (by decide +kernel) (Nat.le_of_ble_eq_true rfl) ?_
  refine ev_aload_n i_Md_step_0 rfl ?_
  refine ev_iload_n i_Md_step_1 rfl ?_
  refine ev_callS1 i_Md_step_2 rfl (Nat.le_of_ble_eq_true rfl) (m_isTable.1 (inR.of (by decide) ht)) ?_
  refine ev_if_eqN i_Md_step_5 (by omega) (fun hc_5 => ?_) (fun hc_5 => ?_)
  · skip
    exfalso; omega
  · skip
    refine ev_iconstN (v := 0) i_Md_step_8 (by decide) ?_
    refine ev_goto i_Md_step_9 ?_
    refine ev_mput_thrown i_Md_step_13 h0 ?_
    refine ev_aload_n i_Md_step_16 rfl ?_
    refine ev_get i_Md_step_17 o1 rfl ?_
    refine ev_if_leN i_Md_step_20 (by omega) (fun hc_20 => ?_) (fun hc_20 => ?_)
    · skip
      refine ev_aload_n i_Md_step_25 rfl ?_
      refine ev_iload_n i_Md_step_26 rfl ?_
      refine ev_mput_drawn i_Md_step_27 o1 ?_
      refine ev_aload_n i_Md_step_30 rfl ?_
      refine ev_iload_n i_Md_step_31 rfl ?_
      refine ev_aload_n i_Md_step_32 rfl ?_
      refine ev_get i_Md_step_33 o2 rfl ?_
      refine ev_aload_n i_Md_step_36 rfl ?_
      refine ev_get i_Md_step_37 o2 rfl ?_
      refine ev_callV3 i_Md_step_40 rfl o2 (Nat.le_of_ble_eq_true rfl) (m3 _) ?_
      refine ev_if_neN i_Md_step_43 (by omega) (fun hc_43 => ?_) (fun hc_43 => ?_)
      · skip
        exfalso; omega
      · skip
        refine ev_aload_n i_Md_step_46 rfl ?_
        refine ev_iconstN (v := 2) i_Md_step_47 (by decide) ?_
        refine ev_callV1 i_Md_step_48 rfl o3 (Nat.le_of_ble_eq_true rfl) (mf _) ?_
        exact ev_iret i_Md_step_51 rfl (by first | rfl | decide)
    · skip
      exfalso; omega
theorem m_undo_no {scr : Scr} {l : Launch} {S : Sto} {σ : Sg} {th : Nat} (h : MInv th σ S) (hne : σ.2.2.2.2.1 = []) : MRun scr l 0 M_Md_undo [.ref 105] S (some (.int (nI 0))) 0 σ := by
  have hz : σ.2.2.2.2.1.length = 0 := by rw [hne]; rfl
  refine MRun.th h (fun dr mo sc h0 d => ?_)
  have o1 : (S.put 105 (mO 0 σ dr mo sc)).1[105]? = _ := put_self h0
  refine MetA.of rfl (by decide +kernel) (Nat.le_of_ble_eq_true rfl) ?_
  refine ev_aload_n i_Md_undo_0 rfl ?_
  refine ev_iconstN (v := 0) i_Md_undo_1 (by decide) ?_
  refine ev_mput_thrown i_Md_undo_2 h0 ?_
  refine ev_aload_n i_Md_undo_5 rfl ?_
  refine ev_get i_Md_undo_6 o1 rfl ?_
  refine ev_if_neN i_Md_undo_9 (by omega) (fun hc_9 => ?_) (fun hc_9 => ?_)
  · skip
    exfalso; omega
  · skip
    refine ev_iconstN (v := 0) i_Md_undo_12 (by decide) ?_
    exact ev_iret i_Md_undo_13 rfl (by first | rfl | decide)
theorem m_undo {scr : Scr} {l : Launch} {S : Sto} {σ : Sg} {th : Nat} (h : MInv th σ S) (hne : σ.2.2.2.2.1 ≠ []) : MRun scr l 0 M_Md_undo [.ref 105] S (some (.int (nI 1))) 0 (σ.1, setCur σ.2.1 (σ.2.2.2.2.1.getD (σ.2.2.2.2.1.length - 1) []), σ.2.2.1, σ.2.2.2.1, σ.2.2.2.2.1.dropLast, σ.2.2.2.2.2) := by
  obtain ⟨dr, mo, sc, h0⟩ := h.get
  obtain ⟨l1, ⟨gw, w1, w2⟩, l3, l4⟩ := h.2.2.1
  obtain ⟨h8, gh, q1, q3⟩ := h.2.2.2.2.1
  have hz : σ.2.2.2.2.1.length ≠ 0 := fun q => hne (List.length_eq_zero_iff.mp q)
  have o1 : (S.put 105 (mO 0 σ dr mo sc)).1[105]? = _ := put_self h0
  have o2 : ((S.put 105 (mO 0 σ dr mo sc)).put 105 (mObj (nI 0) (nI σ.1.length) (nI (σ.2.2.2.2.1.length - 1)) (nI (bI σ.2.2.2.1)) dr mo sc)).1[105]? = _ := put_self o1
  have q2 : ((S.put 105 (mO 0 σ dr mo sc)).put 105 (mObj (nI 0) (nI σ.1.length) (nI (σ.2.2.2.2.1.length - 1)) (nI (bI σ.2.2.2.1)) dr mo sc)).1[111]? = _ := put_at (put_at q1 (by decide)) (by decide)
  have w3 : ((S.put 105 (mO 0 σ dr mo sc)).put 105 (mObj (nI 0) (nI σ.1.length) (nI (σ.2.2.2.2.1.length - 1)) (nI (bI σ.2.2.2.1)) dr mo sc)).1[107]? = _ := put_at (put_at w1 (by decide)) (by decide)
  have hF : Fr [105, 107] S (((S.put 105 (mO 0 σ dr mo sc)).put 105 (mObj (nI 0) (nI σ.1.length) (nI (σ.2.2.2.2.1.length - 1)) (nI (bI σ.2.2.2.1)) dr mo sc)).put 107 (aI 61 (va_cpy gh gw (61 * (σ.2.2.2.2.1.length - 1)) 0 61))) := ((Fr.put _ _ (by simp)).tr (Fr.put _ _ (by simp))).tr (Fr.put _ _ (by simp))
  have et : σ.2.2.2.2.1.dropLast.length = σ.2.2.2.2.1.length - 1 := List.length_dropLast
  refine ⟨(((S.put 105 (mO 0 σ dr mo sc)).put 105 (mObj (nI 0) (nI σ.1.length) (nI (σ.2.2.2.2.1.length - 1)) (nI (bI σ.2.2.2.1)) dr mo sc)).put 107 (aI 61 (va_cpy gh gw (61 * (σ.2.2.2.2.1.length - 1)) 0 61))), fun d => ?_, ⟨⟨dr, mo, sc, by show _ = some (mObj (nI 0) (nI σ.1.length) (nI σ.2.2.2.2.1.dropLast.length) (nI (bI σ.2.2.2.1)) dr mo sc); rw [et]; exact put_at o2 (by decide)⟩, h.2.1.fr hF (by decide), ⟨⟨l1.choose, hF.at l1.choose_spec.1 (by decide), l1.choose_spec.2⟩, ⟨_, put_self w3, (q3 (σ.2.2.2.2.1.length - 1) (by omega)).mv (fun j hj => by rw [cpy_at (by omega) (by omega)]; congr 1; omega)⟩, ⟨l3.choose, hF.at l3.choose_spec.1 (by decide), l3.choose_spec.2⟩, l4.choose, hF.at l4.choose_spec.1 (by decide), l4.choose_spec.2⟩, h.2.2.2.1.fr hF ⟨by decide, by decide, by decide, by decide⟩, ⟨by show σ.2.2.2.2.1.dropLast.length ≤ 8; omega, gh, hF.at q1 (by decide), fun k hk => by
    have hk : k < σ.2.2.2.2.1.dropLast.length := hk
    show RowW _ _ (σ.2.2.2.2.1.dropLast.getD k [])
    have e : σ.2.2.2.2.1.dropLast.getD k [] = σ.2.2.2.2.1.getD k [] := by
      rw [List.getD_eq_getElem?_getD, List.getD_eq_getElem?_getD, List.getElem?_dropLast, if_pos (by omega)]
    rw [e]
    exact q3 k (by omega)⟩, h.2.2.2.2.2.fr hF (fun k a b => by simp; omega)⟩, hF.m (by decide)⟩
  refine MetA.of rfl (by decide +kernel) (Nat.le_of_ble_eq_true rfl) ?_
  refine ev_aload_n i_Md_undo_0 rfl ?_
  refine ev_iconstN (v := 0) i_Md_undo_1 (by decide) ?_
  refine ev_mput_thrown i_Md_undo_2 h0 ?_
  refine ev_aload_n i_Md_undo_5 rfl ?_
  refine ev_get i_Md_undo_6 o1 rfl ?_
  refine ev_if_neN i_Md_undo_9 (by omega) (fun hc_9 => ?_) (fun hc_9 => ?_)
  · skip
    refine ev_aload_n i_Md_undo_14 rfl ?_
    refine ev_dup i_Md_undo_15 rfl ?_
    refine ev_get i_Md_undo_16 o1 rfl ?_
    refine ev_iconstN (v := 1) i_Md_undo_19 (by decide) ?_
    refine ev_isubN i_Md_undo_20 (by omega) ?_
    refine ev_mput_steps i_Md_undo_21 o1 ?_
    refine ev_aload_n i_Md_undo_24 rfl ?_
    refine ev_get i_Md_undo_25 o2 rfl ?_
    refine ev_bipushN (v := 61) i_Md_undo_28 (by decide) ?_
    refine ev_aload_n i_Md_undo_30 rfl ?_
    refine ev_get i_Md_undo_31 o2 rfl ?_
    refine ev_imulN i_Md_undo_34 ?_
    refine ev_aload_n i_Md_undo_35 rfl ?_
    refine ev_get i_Md_undo_36 o2 rfl ?_
    refine ev_iconstN (v := 0) i_Md_undo_39 (by decide) ?_
    refine ev_bipushN (v := 61) i_Md_undo_40 (by decide) ?_
    refine ev_cpyIN i_Md_undo_42 rfl (Nat.le_of_ble_eq_true rfl) q2 w3 (by omega) (by omega) (by decide) (by decide) ?_
    refine ev_iconstN (v := 1) i_Md_undo_45 (by decide) ?_
    exact ev_iret i_Md_undo_46 rfl (by first | rfl | decide)
  · skip
    exfalso; omega
theorem m_save {scr : Scr} {l : Launch} {S : Sto} {σ : Sg} {th : Nat} (h : MInv th σ S) : MRun scr l 0 M_Md_save [.ref 105] S none 0 (σ.1, σ.2.1, σ.2.1, true, σ.2.2.2.2) := by
  obtain ⟨dr, mo, sc, h0⟩ := h.get
  obtain ⟨⟨gT, a1, a2⟩, ⟨gW, b1, b2⟩, ⟨gG, c1, c2⟩, gC, d1, d2⟩ := h.2.2.1
  obtain ⟨⟨⟨sT, a3⟩, ⟨sW, b3⟩, ⟨sG, c3⟩, sC, d3⟩, -⟩ := h.2.2.2.1
  have o1 : (S.put 105 (mO 0 σ dr mo sc)).1[105]? = _ := put_self h0
  have o2 : ((S.put 105 (mO 0 σ dr mo sc)).put 112 (aI 417 (va_cpy gT sT 0 0 417))).1[105]? = _ := put_at o1 (by decide)
  have o3 : (((S.put 105 (mO 0 σ dr mo sc)).put 112 (aI 417 (va_cpy gT sT 0 0 417))).put 113 (aI 61 (va_cpy gW sW 0 0 61))).1[105]? = _ := put_at o2 (by decide)
  have o4 : ((((S.put 105 (mO 0 σ dr mo sc)).put 112 (aI 417 (va_cpy gT sT 0 0 417))).put 113 (aI 61 (va_cpy gW sW 0 0 61))).put 114 (aI 61 (va_cpy gG sG 0 0 61))).1[105]? = _ := put_at o3 (by decide)
  have o5 : (((((S.put 105 (mO 0 σ dr mo sc)).put 112 (aI 417 (va_cpy gT sT 0 0 417))).put 113 (aI 61 (va_cpy gW sW 0 0 61))).put 114 (aI 61 (va_cpy gG sG 0 0 61))).put 115 (aI 6 (va_cpy gC sC 0 0 6))).1[105]? = _ := put_at o4 (by decide)
  have hF : Fr [105, 112, 113, 114, 115] S ((((((S.put 105 (mO 0 σ dr mo sc)).put 112 (aI 417 (va_cpy gT sT 0 0 417))).put 113 (aI 61 (va_cpy gW sW 0 0 61))).put 114 (aI 61 (va_cpy gG sG 0 0 61))).put 115 (aI 6 (va_cpy gC sC 0 0 6))).put 105 (mObj (nI 0) (nI σ.1.length) (nI σ.2.2.2.2.1.length) (nI 1) dr mo sc)) := (((((Fr.put _ _ (by simp)).tr (Fr.put _ _ (by simp))).tr (Fr.put _ _ (by simp))).tr (Fr.put _ _ (by simp))).tr (Fr.put _ _ (by simp))).tr (Fr.put _ _ (by simp))
  refine ⟨((((((S.put 105 (mO 0 σ dr mo sc)).put 112 (aI 417 (va_cpy gT sT 0 0 417))).put 113 (aI 61 (va_cpy gW sW 0 0 61))).put 114 (aI 61 (va_cpy gG sG 0 0 61))).put 115 (aI 6 (va_cpy gC sC 0 0 6))).put 105 (mObj (nI 0) (nI σ.1.length) (nI σ.2.2.2.2.1.length) (nI 1) dr mo sc)), fun d => ?_, ⟨⟨dr, mo, sc, put_self o5⟩, h.2.1.fr hF (by decide), h.2.2.1.fr hF ⟨by decide, by decide, by decide, by decide⟩, SavM.of ⟨⟨_, (put_at (put_at (put_at (put_at (put_self (put_at a3 (by decide))) (by decide)) (by decide)) (by decide)) (by decide)), TabsM.ext a2 (fun j hj => by rw [cpy_at (by omega) (by omega)]; congr 1; omega)⟩, ⟨_, (put_at (put_at (put_at (put_self (put_at (put_at b3 (by decide)) (by decide))) (by decide)) (by decide)) (by decide)), b2.mv (fun j hj => by rw [cpy_at (by omega) (by omega)]; congr 1; omega)⟩, ⟨_, (put_at (put_at (put_self (put_at (put_at (put_at c3 (by decide)) (by decide)) (by decide))) (by decide)) (by decide)), c2.mv (fun j hj => by rw [cpy_at (by omega) (by omega)]; congr 1; omega)⟩, _, (put_at (put_self (put_at (put_at (put_at (put_at d3 (by decide)) (by decide)) (by decide)) (by decide))) (by decide)), fun j hj => by rw [cpy_at (by omega) (by omega), show 0 + (j - 0) = j from by omega]; exact d2 j hj⟩, h.2.2.2.2.1.fr hF (by decide), h.2.2.2.2.2.fr hF (fun k a b => by simp; omega)⟩, hF.m (by decide)⟩
  refine MetA.of rfl (by decide +kernel) (Nat.le_of_ble_eq_true rfl) ?_
  refine ev_aload_n i_Md_save_0 rfl ?_
  refine ev_iconstN (v := 0) i_Md_save_1 (by decide) ?_
  refine ev_mput_thrown i_Md_save_2 h0 ?_
  refine ev_aload_n i_Md_save_5 rfl ?_
  refine ev_get i_Md_save_6 o1 rfl ?_
  refine ev_iconstN (v := 0) i_Md_save_9 (by decide) ?_
  refine ev_aload_n i_Md_save_10 rfl ?_
  refine ev_get i_Md_save_11 o1 rfl ?_
  refine ev_iconstN (v := 0) i_Md_save_14 (by decide) ?_
  refine ev_sipushN (v := 417) i_Md_save_15 (by decide) ?_
  refine ev_cpyIN i_Md_save_18 rfl (Nat.le_of_ble_eq_true rfl) (put_at a1 (by decide)) (put_at a3 (by decide)) (by omega) (by omega) (by decide) (by decide) ?_
  refine ev_aload_n i_Md_save_21 rfl ?_
  refine ev_get i_Md_save_22 o2 rfl ?_
  refine ev_iconstN (v := 0) i_Md_save_25 (by decide) ?_
  refine ev_aload_n i_Md_save_26 rfl ?_
  refine ev_get i_Md_save_27 o2 rfl ?_
  refine ev_iconstN (v := 0) i_Md_save_30 (by decide) ?_
  refine ev_bipushN (v := 61) i_Md_save_31 (by decide) ?_
  refine ev_cpyIN i_Md_save_33 rfl (Nat.le_of_ble_eq_true rfl) (put_at (put_at b1 (by decide)) (by decide)) (put_at (put_at b3 (by decide)) (by decide)) (by omega) (by omega) (by decide) (by decide) ?_
  refine ev_aload_n i_Md_save_36 rfl ?_
  refine ev_get i_Md_save_37 o3 rfl ?_
  refine ev_iconstN (v := 0) i_Md_save_40 (by decide) ?_
  refine ev_aload_n i_Md_save_41 rfl ?_
  refine ev_get i_Md_save_42 o3 rfl ?_
  refine ev_iconstN (v := 0) i_Md_save_45 (by decide) ?_
  refine ev_bipushN (v := 61) i_Md_save_46 (by decide) ?_
  refine ev_cpyIN i_Md_save_48 rfl (Nat.le_of_ble_eq_true rfl) (put_at (put_at (put_at c1 (by decide)) (by decide)) (by decide)) (put_at (put_at (put_at c3 (by decide)) (by decide)) (by decide)) (by omega) (by omega) (by decide) (by decide) ?_
  refine ev_aload_n i_Md_save_51 rfl ?_
  refine ev_get i_Md_save_52 o4 rfl ?_
  refine ev_iconstN (v := 0) i_Md_save_55 (by decide) ?_
  refine ev_aload_n i_Md_save_56 rfl ?_
  refine ev_get i_Md_save_57 o4 rfl ?_
  refine ev_iconstN (v := 0) i_Md_save_60 (by decide) ?_
  refine ev_bipushN (v := 6) i_Md_save_61 (by decide) ?_
  refine ev_cpyIN i_Md_save_63 rfl (Nat.le_of_ble_eq_true rfl) (put_at (put_at (put_at (put_at d1 (by decide)) (by decide)) (by decide)) (by decide)) (put_at (put_at (put_at (put_at d3 (by decide)) (by decide)) (by decide)) (by decide)) (by omega) (by omega) (by decide) (by decide) ?_
  refine ev_aload_n i_Md_save_66 rfl ?_
  refine ev_iconstN (v := 1) i_Md_save_67 (by decide) ?_
  refine ev_mput_hasSaved i_Md_save_68 o5 rfl rfl ?_
  exact ev_vret i_Md_save_71 rfl
theorem m_restore {scr : Scr} {l : Launch} {S : Sto} {σ : Sg} {th : Nat} (h : MInv th σ S) (hs : σ.2.2.2.1 = true) : MRun scr l 0 M_Md_restore [.ref 105] S none 0 (σ.1, σ.2.2.1, σ.2.2.1, σ.2.2.2.1, [], σ.2.2.2.2.2) := by
  obtain ⟨dr, mo, sc, h0⟩ := h.get
  obtain ⟨⟨gT, a1, a2⟩, ⟨gW, b1, b2⟩, ⟨gG, c1, c2⟩, gC, d1, d2⟩ := h.2.2.1
  obtain ⟨⟨sT, a3, a4⟩, ⟨sW, b3, b4⟩, ⟨sG, c3, c4⟩, sC, d3, d4⟩ := h.2.2.2.1.2 hs
  have o1 : (S.put 105 (mO 0 σ dr mo sc)).1[105]? = _ := put_self h0
  have hb : bI σ.2.2.2.1 = 1 := by rw [hs]; rfl
  have o2 : ((S.put 105 (mO 0 σ dr mo sc)).put 106 (aI 417 (va_cpy sT gT 0 0 417))).1[105]? = _ := put_at o1 (by decide)
  have o3 : (((S.put 105 (mO 0 σ dr mo sc)).put 106 (aI 417 (va_cpy sT gT 0 0 417))).put 107 (aI 61 (va_cpy sW gW 0 0 61))).1[105]? = _ := put_at o2 (by decide)
  have o4 : ((((S.put 105 (mO 0 σ dr mo sc)).put 106 (aI 417 (va_cpy sT gT 0 0 417))).put 107 (aI 61 (va_cpy sW gW 0 0 61))).put 108 (aI 61 (va_cpy sG gG 0 0 61))).1[105]? = _ := put_at o3 (by decide)
  have o5 : (((((S.put 105 (mO 0 σ dr mo sc)).put 106 (aI 417 (va_cpy sT gT 0 0 417))).put 107 (aI 61 (va_cpy sW gW 0 0 61))).put 108 (aI 61 (va_cpy sG gG 0 0 61))).put 109 (aI 6 (va_cpy sC gC 0 0 6))).1[105]? = _ := put_at o4 (by decide)
  have hF : Fr [105, 106, 107, 108, 109] S ((((((S.put 105 (mO 0 σ dr mo sc)).put 106 (aI 417 (va_cpy sT gT 0 0 417))).put 107 (aI 61 (va_cpy sW gW 0 0 61))).put 108 (aI 61 (va_cpy sG gG 0 0 61))).put 109 (aI 6 (va_cpy sC gC 0 0 6))).put 105 (mObj (nI 0) (nI σ.1.length) (nI 0) (nI (bI σ.2.2.2.1)) dr mo sc)) := (((((Fr.put _ _ (by simp)).tr (Fr.put _ _ (by simp))).tr (Fr.put _ _ (by simp))).tr (Fr.put _ _ (by simp))).tr (Fr.put _ _ (by simp))).tr (Fr.put _ _ (by simp))
  refine ⟨((((((S.put 105 (mO 0 σ dr mo sc)).put 106 (aI 417 (va_cpy sT gT 0 0 417))).put 107 (aI 61 (va_cpy sW gW 0 0 61))).put 108 (aI 61 (va_cpy sG gG 0 0 61))).put 109 (aI 6 (va_cpy sC gC 0 0 6))).put 105 (mObj (nI 0) (nI σ.1.length) (nI 0) (nI (bI σ.2.2.2.1)) dr mo sc)), fun d => ?_, ⟨⟨dr, mo, sc, put_self o5⟩, h.2.1.fr hF (by decide), ⟨⟨_, (put_at (put_at (put_at (put_at (put_self (put_at a1 (by decide))) (by decide)) (by decide)) (by decide)) (by decide)), TabsM.ext a4 (fun j hj => by rw [cpy_at (by omega) (by omega)]; congr 1; omega)⟩, ⟨_, (put_at (put_at (put_at (put_self (put_at (put_at b1 (by decide)) (by decide))) (by decide)) (by decide)) (by decide)), b4.mv (fun j hj => by rw [cpy_at (by omega) (by omega)]; congr 1; omega)⟩, ⟨_, (put_at (put_at (put_self (put_at (put_at (put_at c1 (by decide)) (by decide)) (by decide))) (by decide)) (by decide)), c4.mv (fun j hj => by rw [cpy_at (by omega) (by omega)]; congr 1; omega)⟩, _, (put_at (put_self (put_at (put_at (put_at (put_at d1 (by decide)) (by decide)) (by decide)) (by decide))) (by decide)), fun j hj => by rw [cpy_at (by omega) (by omega), show 0 + (j - 0) = j from by omega]; exact d4 j hj⟩, h.2.2.2.1.fr hF ⟨by decide, by decide, by decide, by decide⟩, ⟨by show 0 ≤ 8; omega, h.2.2.2.2.1.2.choose, hF.at h.2.2.2.2.1.2.choose_spec.1 (by decide), fun k hk => absurd hk (by show ¬ k < 0; omega)⟩, h.2.2.2.2.2.fr hF (fun k a b => by simp; omega)⟩, hF.m (by decide)⟩
  refine MetA.of rfl (by decide +kernel) (Nat.le_of_ble_eq_true rfl) ?_
  refine ev_aload_n i_Md_restore_0 rfl ?_
  refine ev_aload_n i_Md_restore_1 rfl ?_
  refine ev_get i_Md_restore_2 h0 rfl ?_
  refine ev_if_eqN i_Md_restore_5 (by omega) (fun hc_5 => ?_) (fun hc_5 => ?_)
  · skip
    exfalso; omega
  · skip
    refine ev_iconstN (v := 0) i_Md_restore_8 (by decide) ?_
    refine ev_goto i_Md_restore_9 ?_
    refine ev_mput_thrown i_Md_restore_13 h0 ?_
    refine ev_aload_n i_Md_restore_16 rfl ?_
    refine ev_get i_Md_restore_17 o1 rfl ?_
    refine ev_if_neN i_Md_restore_20 (by omega) (fun hc_20 => ?_) (fun hc_20 => ?_)
    · skip
      exfalso; omega
    · skip
      refine ev_aload_n i_Md_restore_23 rfl ?_
      refine ev_get i_Md_restore_24 o1 rfl ?_
      refine ev_iconstN (v := 0) i_Md_restore_27 (by decide) ?_
      refine ev_aload_n i_Md_restore_28 rfl ?_
      refine ev_get i_Md_restore_29 o1 rfl ?_
      refine ev_iconstN (v := 0) i_Md_restore_32 (by decide) ?_
      refine ev_sipushN (v := 417) i_Md_restore_33 (by decide) ?_
      refine ev_cpyIN i_Md_restore_36 rfl (Nat.le_of_ble_eq_true rfl) (put_at a3 (by decide)) (put_at a1 (by decide)) (by omega) (by omega) (by decide) (by decide) ?_
      refine ev_aload_n i_Md_restore_39 rfl ?_
      refine ev_get i_Md_restore_40 o2 rfl ?_
      refine ev_iconstN (v := 0) i_Md_restore_43 (by decide) ?_
      refine ev_aload_n i_Md_restore_44 rfl ?_
      refine ev_get i_Md_restore_45 o2 rfl ?_
      refine ev_iconstN (v := 0) i_Md_restore_48 (by decide) ?_
      refine ev_bipushN (v := 61) i_Md_restore_49 (by decide) ?_
      refine ev_cpyIN i_Md_restore_51 rfl (Nat.le_of_ble_eq_true rfl) (put_at (put_at b3 (by decide)) (by decide)) (put_at (put_at b1 (by decide)) (by decide)) (by omega) (by omega) (by decide) (by decide) ?_
      refine ev_aload_n i_Md_restore_54 rfl ?_
      refine ev_get i_Md_restore_55 o3 rfl ?_
      refine ev_iconstN (v := 0) i_Md_restore_58 (by decide) ?_
      refine ev_aload_n i_Md_restore_59 rfl ?_
      refine ev_get i_Md_restore_60 o3 rfl ?_
      refine ev_iconstN (v := 0) i_Md_restore_63 (by decide) ?_
      refine ev_bipushN (v := 61) i_Md_restore_64 (by decide) ?_
      refine ev_cpyIN i_Md_restore_66 rfl (Nat.le_of_ble_eq_true rfl) (put_at (put_at (put_at c3 (by decide)) (by decide)) (by decide)) (put_at (put_at (put_at c1 (by decide)) (by decide)) (by decide)) (by omega) (by omega) (by decide) (by decide) ?_
      refine ev_aload_n i_Md_restore_69 rfl ?_
      refine ev_get i_Md_restore_70 o4 rfl ?_
      refine ev_iconstN (v := 0) i_Md_restore_73 (by decide) ?_
      refine ev_aload_n i_Md_restore_74 rfl ?_
      refine ev_get i_Md_restore_75 o4 rfl ?_
      refine ev_iconstN (v := 0) i_Md_restore_78 (by decide) ?_
      refine ev_bipushN (v := 6) i_Md_restore_79 (by decide) ?_
      refine ev_cpyIN i_Md_restore_81 rfl (Nat.le_of_ble_eq_true rfl) (put_at (put_at (put_at (put_at d3 (by decide)) (by decide)) (by decide)) (by decide)) (put_at (put_at (put_at (put_at d1 (by decide)) (by decide)) (by decide)) (by decide)) (by omega) (by omega) (by decide) (by decide) ?_
      refine ev_aload_n i_Md_restore_84 rfl ?_
      refine ev_iconstN (v := 0) i_Md_restore_85 (by decide) ?_
      refine ev_mput_steps i_Md_restore_86 o5 ?_
      exact ev_vret i_Md_restore_89 rfl
theorem m_restore_1 {scr : Scr} {l : Launch} {S : Sto} {σ : Sg} {th : Nat} (h : MInv th σ S) (hs : σ.2.2.2.1 = false) : MRun scr l 0 M_Md_restore [.ref 105] S none 1 σ := by
  have hb : bI σ.2.2.2.1 = 0 := by rw [hs]; rfl
  refine MRun.th h (fun dr mo sc h0 d => ?_)
  have o1 : (S.put 105 (mO 1 σ dr mo sc)).1[105]? = _ := put_self h0
  refine MetA.of rfl (by decide +kernel) (Nat.le_of_ble_eq_true rfl) ?_
  refine ev_aload_n i_Md_restore_0 rfl ?_
  refine ev_aload_n i_Md_restore_1 rfl ?_
  refine ev_get i_Md_restore_2 h0 rfl ?_
  refine ev_if_eqN i_Md_restore_5 (by omega) (fun hc_5 => ?_) (fun hc_5 => ?_)
  · skip
    refine ev_iconstN (v := 1) i_Md_restore_12 (by decide) ?_
    refine ev_mput_thrown i_Md_restore_13 h0 ?_
    refine ev_aload_n i_Md_restore_16 rfl ?_
    refine ev_get i_Md_restore_17 o1 rfl ?_
    refine ev_if_neN i_Md_restore_20 (by omega) (fun hc_20 => ?_) (fun hc_20 => ?_)
    · skip
      exact ev_vret i_Md_restore_89 rfl
    · skip
      exfalso; omega
  · skip
    exfalso; omega

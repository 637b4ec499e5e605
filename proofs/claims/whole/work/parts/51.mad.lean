/-! the model m: adult words -/
theorem ScrM.up {K : List Nat} {S S1 : Sto} (h : ScrM S) (hF : Fr K S S1) (h116 : 116 ∉ K ∨ ∃ f, S1.1[116]? = some (aI 61 f)) (h117 : 117 ∉ K ∨ ∃ f, S1.1[117]? = some (aJ 6 f)) (h118 : 118 ∉ K ∨ ∃ f, S1.1[118]? = some (aJ 6 f)) (h119 : 119 ∉ K ∨ ∃ f, S1.1[119]? = some (aZ 6 f)) (h120 : 120 ∉ K ∨ ∃ f, S1.1[120]? = some (aZ 36 f)) (h121 : 121 ∉ K ∨ ∃ f, S1.1[121]? = some (aI 6 f)) (h122 : 122 ∉ K ∨ ∃ f, S1.1[122]? = some (aI 18 f)) (h123 : 123 ∉ K ∨ ∃ f, S1.1[123]? = some (aI 84 f)) (h124 : 124 ∉ K ∨ ∃ f, S1.1[124]? = some (aI 7 f)) (h125 : 125 ∉ K ∨ ∃ f, S1.1[125]? = some (aI 61 f)) (h126 : 126 ∉ K ∨ ∃ f, S1.1[126]? = some (aJ 3721 f)) (h127 : 127 ∉ K ∨ ∃ f, S1.1[127]? = some (aD 61 f)) (h128 : 128 ∉ K ∨ ∃ f, S1.1[128]? = some (aD 61 f)) (h129 : 129 ∉ K ∨ ∃ f, S1.1[129]? = some (aD 80 f)) (h130 : 130 ∉ K ∨ ∃ f, S1.1[130]? = some (aD 240 f)) : ScrM S1 := by
  obtain ⟨f116, f121, f122, f123, f124, f125, f119, f120, f117, f118, f126, f127, f128, f129, f130, e116, e117, e118, e119, e120, e121, e122, e123, e124, e125, e126, e127, e128, e129, e130⟩ := h
  have g116 : ∃ f, S1.1[116]? = some (aI 61 f) := by
    rcases h116 with q | q
    · exact ⟨f116, hF.at e116 q⟩
    · exact q
  obtain ⟨g116, x116⟩ := g116
  have g117 : ∃ f, S1.1[117]? = some (aJ 6 f) := by
    rcases h117 with q | q
    · exact ⟨f117, hF.at e117 q⟩
    · exact q
  obtain ⟨g117, x117⟩ := g117
  have g118 : ∃ f, S1.1[118]? = some (aJ 6 f) := by
    rcases h118 with q | q
    · exact ⟨f118, hF.at e118 q⟩
    · exact q
  obtain ⟨g118, x118⟩ := g118
  have g119 : ∃ f, S1.1[119]? = some (aZ 6 f) := by
    rcases h119 with q | q
    · exact ⟨f119, hF.at e119 q⟩
    · exact q
  obtain ⟨g119, x119⟩ := g119
  have g120 : ∃ f, S1.1[120]? = some (aZ 36 f) := by
    rcases h120 with q | q
    · exact ⟨f120, hF.at e120 q⟩
    · exact q
  obtain ⟨g120, x120⟩ := g120
  have g121 : ∃ f, S1.1[121]? = some (aI 6 f) := by
    rcases h121 with q | q
    · exact ⟨f121, hF.at e121 q⟩
    · exact q
  obtain ⟨g121, x121⟩ := g121
  have g122 : ∃ f, S1.1[122]? = some (aI 18 f) := by
    rcases h122 with q | q
    · exact ⟨f122, hF.at e122 q⟩
    · exact q
  obtain ⟨g122, x122⟩ := g122
  have g123 : ∃ f, S1.1[123]? = some (aI 84 f) := by
    rcases h123 with q | q
    · exact ⟨f123, hF.at e123 q⟩
    · exact q
  obtain ⟨g123, x123⟩ := g123
  have g124 : ∃ f, S1.1[124]? = some (aI 7 f) := by
    rcases h124 with q | q
    · exact ⟨f124, hF.at e124 q⟩
    · exact q
  obtain ⟨g124, x124⟩ := g124
  have g125 : ∃ f, S1.1[125]? = some (aI 61 f) := by
    rcases h125 with q | q
    · exact ⟨f125, hF.at e125 q⟩
    · exact q
  obtain ⟨g125, x125⟩ := g125
  have g126 : ∃ f, S1.1[126]? = some (aJ 3721 f) := by
    rcases h126 with q | q
    · exact ⟨f126, hF.at e126 q⟩
    · exact q
  obtain ⟨g126, x126⟩ := g126
  have g127 : ∃ f, S1.1[127]? = some (aD 61 f) := by
    rcases h127 with q | q
    · exact ⟨f127, hF.at e127 q⟩
    · exact q
  obtain ⟨g127, x127⟩ := g127
  have g128 : ∃ f, S1.1[128]? = some (aD 61 f) := by
    rcases h128 with q | q
    · exact ⟨f128, hF.at e128 q⟩
    · exact q
  obtain ⟨g128, x128⟩ := g128
  have g129 : ∃ f, S1.1[129]? = some (aD 80 f) := by
    rcases h129 with q | q
    · exact ⟨f129, hF.at e129 q⟩
    · exact q
  obtain ⟨g129, x129⟩ := g129
  have g130 : ∃ f, S1.1[130]? = some (aD 240 f) := by
    rcases h130 with q | q
    · exact ⟨f130, hF.at e130 q⟩
    · exact q
  obtain ⟨g130, x130⟩ := g130
  exact ⟨g116, g121, g122, g123, g124, g125, g119, g120, g117, g118, g126, g127, g128, g129, g130, x116, x117, x118, x119, x120, x121, x122, x123, x124, x125, x126, x127, x128, x129, x130⟩
theorem MInv.scr {th th' : Nat} {σ : Sg} {S S1 : Sto} {K : List Nat} (h : MInv th σ S) (hF : Fr K S S1) (hk : ∀ k, k ∈ K → k = 105 ∨ (116 ≤ k ∧ k < 131)) (h0 : MObj th' σ S1) (hs : ScrM S1) : MInv th' σ S1 := by
  have hn : ∀ k, ¬ (k = 105 ∨ (116 ≤ k ∧ k < 131)) → k ∉ K := fun k q z => q (hk k z)
  exact ⟨h0, h.2.1.fr hF (hn _ (by omega)), h.2.2.1.fr hF ⟨hn _ (by omega), hn _ (by omega), hn _ (by omega), hn _ (by omega)⟩, h.2.2.2.1.fr hF ⟨hn _ (by omega), hn _ (by omega), hn _ (by omega), hn _ (by omega)⟩, h.2.2.2.2.1.fr hF (hn _ (by omega)), hs⟩
theorem prod_eq {g : Nat → Int32} {o1 o2 : Nat} {p q : List Nat} (hp : MProd g o1 p) (hq : MProd g o2 q) (hp4 : PrOK p) (hq4 : PrOK q) : allB (fun j => decide (g (o2 + j) = g (o1 + j))) (p.length + 1) = decide (p = q) := by
  have l1 := hp4.1
  have l2 := hq4.1
  by_cases e : p = q
  · rw [decide_eq_true e]
    subst e
    refine allB_iff.mpr (fun i hi => ?_)
    by_cases z : i = 0
    · subst z
      exact decide_eq_true (hq.1.trans hp.1.symm)
    · have e1 := hp.2 (i - 1) (by omega)
      have e2 := hq.2 (i - 1) (by omega)
      rw [show o1 + 1 + (i - 1) = o1 + i from by omega] at e1
      rw [show o2 + 1 + (i - 1) = o2 + i from by omega] at e2
      exact decide_eq_true (e2.trans e1.symm)
  · rw [decide_eq_false e]
    cases hz : allB (fun j => decide (g (o2 + j) = g (o1 + j))) (p.length + 1) with
    | false => rfl
    | true =>
      exfalso
      have ha : ∀ i, i < p.length + 1 → g (o2 + i) = g (o1 + i) := fun i hi => of_decide_eq_true (allB_iff.mp hz i hi)
      have hl : q.length = p.length := by
        have := ha 0 (by omega)
        rw [Nat.add_zero, Nat.add_zero, hp.1, hq.1] at this
        exact nI_inj (by omega) (by omega) this
      refine e (list_ext hl.symm (fun j hj => ?_))
      have := ha (1 + j) (by omega)
      rw [← Nat.add_assoc, ← Nat.add_assoc, hp.2 j hj, hq.2 j (by omega)] at this
      exact (nI_inj (by have := hq4.2 j (by omega); omega) (by have := hp4.2 j hj; omega) this).symm
theorem ev_eqL {scr : Scr} {l : Launch} {d : Nat} {M : Mth} {pc : Nat} {L L1 : List (Option Value)} {st : List Value} {S : Sto} {r : Res} (h : L1 = L) (k : Ev scr l d M pc L1 st S r) : Ev scr l d M pc L st S r := h ▸ k
theorem lp_equalP {scr : Scr} {l : Launch} {S : Sto} {o d : Nat} {g : Nat → Int32} {ps : List (List Nat)} {q1 q2 q3 q4 q5 q6 q7 : Int32} (h0 : S.1[105]? = some (mObj q1 q2 q3 q4 q5 q6 q7)) (hg : S.1[106]? = some (aI 417 g)) (hL : MList g o ps) (ho : o + 16 ≤ 417) : ∀ (k i : Nat), i + k = ps.length - 1 → ∀ u4, Ev scr l (d + 1) M_Md_equalProductions 4 [some (.ref 105), some (.int (nI o)), some (.int (nI (bI (allB (fun k => decide (ps.getD 0 [] = ps.getD (1 + k) [])) i)))), some (.int (nI (1 + i))), u4] [] S (.inl (some (.int (nI (bI (uniP ps))))), S) := by
  have h3 := hL.2.2.1
  have h1 := hL.2.1
  have hp0 := hL.2.2.2 0 (by omega)
  have h40 := hp0.2.1
  intro k
  induction k with
  | zero =>
    intro i hi u4
    have z : i = ps.length - 1 := by omega
    subst z
    unfold uniP
    refine ev_iload_n i_Md_equalProductions_4 rfl ?_
    refine ev_aload_n i_Md_equalProductions_5 rfl ?_
    refine ev_get i_Md_equalProductions_6 h0 rfl ?_
    refine ev_iload_n i_Md_equalProductions_9 rfl ?_
    refine ev_ialdN i_Md_equalProductions_10 hg (by omega) (by decide) ?_
    rw [hL.1]
    refine ev_icmp_geN i_Md_equalProductions_11 (by omega) (by omega) (fun hc_11 => ?_) (fun hc_11 => ?_)
    · skip
      refine ev_iload_n i_Md_equalProductions_83 rfl ?_
      exact ev_iretB i_Md_equalProductions_84 rfl
    · skip
      exfalso; omega
  | succ k ih =>
    intro i hi u4
    have hpk := hL.2.2.2 (1 + i) (by omega)
    have h4k := hpk.2.1
    have ki := ih (i + 1) (by omega)
    refine ev_iload_n i_Md_equalProductions_4 rfl ?_
    refine ev_aload_n i_Md_equalProductions_5 rfl ?_
    refine ev_get i_Md_equalProductions_6 h0 rfl ?_
    refine ev_iload_n i_Md_equalProductions_9 rfl ?_
    refine ev_ialdN i_Md_equalProductions_10 hg (by omega) (by decide) ?_
    rw [hL.1]
    refine ev_icmp_geN i_Md_equalProductions_11 (by omega) (by omega) (fun hc_11 => ?_) (fun hc_11 => ?_)
    · skip
      exfalso; omega
    · skip
      refine ev_iconstN (v := 0) i_Md_equalProductions_14 (by decide) ?_
      refine ev_ist_4 i_Md_equalProductions_15 rfl ?_
      refine ev_eqL (L1 := [some (.ref 105), some (.int (nI o)), some (.int (nI (bI ((allB (fun k => decide (ps.getD 0 [] = ps.getD (1 + k) [])) i) && allB (fun j => decide (g (o + 1 + 5 * (1 + i) + j) = g (o + 1 + 5 * 0 + j))) 0)))), some (.int (nI (1 + i))), some (.int (nI 0))]) (by rw [show allB (fun j => decide (g (o + 1 + 5 * (1 + i) + j) = g (o + 1 + 5 * 0 + j))) 0 = true from rfl, Bool.and_true]) ?_
      refine ev_loop (n := (ps.getD 0 []).length + 1) (fun j => [some (.ref 105), some (.int (nI o)), some (.int (nI (bI ((allB (fun k => decide (ps.getD 0 [] = ps.getD (1 + k) [])) i) && allB (fun j => decide (g (o + 1 + 5 * (1 + i) + j) = g (o + 1 + 5 * 0 + j))) j)))), some (.int (nI (1 + i))), some (.int (nI j))]) (fun j => S) (fun j hj kj => ?_) ?_
      · try dsimp only at kj ⊢
        have e2 : ((allB (fun k => decide (ps.getD 0 [] = ps.getD (1 + k) [])) i) && allB (fun j => decide (g (o + 1 + 5 * (1 + i) + j) = g (o + 1 + 5 * 0 + j))) (j + 1)) = (((allB (fun k => decide (ps.getD 0 [] = ps.getD (1 + k) [])) i) && allB (fun j => decide (g (o + 1 + 5 * (1 + i) + j) = g (o + 1 + 5 * 0 + j))) j) && (fun j => decide (g (o + 1 + 5 * (1 + i) + j) = g (o + 1 + 5 * 0 + j))) j) := by
          show ((allB (fun k => decide (ps.getD 0 [] = ps.getD (1 + k) [])) i) && (allB (fun j => decide (g (o + 1 + 5 * (1 + i) + j) = g (o + 1 + 5 * 0 + j))) j && (fun j => decide (g (o + 1 + 5 * (1 + i) + j) = g (o + 1 + 5 * 0 + j))) j)) = _
          rw [Bool.and_assoc]
        cases hb : ((allB (fun k => decide (ps.getD 0 [] = ps.getD (1 + k) [])) i) && allB (fun j => decide (g (o + 1 + 5 * (1 + i) + j) = g (o + 1 + 5 * 0 + j))) j) with
        | false =>
          rw [bI_f]
          refine ev_iload i_Md_equalProductions_17 rfl ?_
          refine ev_aload_n i_Md_equalProductions_19 rfl ?_
          refine ev_get i_Md_equalProductions_20 h0 rfl ?_
          refine ev_iload_n i_Md_equalProductions_23 rfl ?_
          refine ev_iconstN (v := 0) i_Md_equalProductions_24 (by decide) ?_
          refine ev_callS2 i_Md_equalProductions_25 rfl (Nat.le_of_ble_eq_true rfl) m_productionAt ?_
          refine ev_ialdN i_Md_equalProductions_28 hg (by omega) (by decide) ?_
          rw [hp0.1.1]
          refine ev_icmp_gtN i_Md_equalProductions_29 (by omega) (by omega) (fun hc_29 => ?_) (fun hc_29 => ?_)
          · skip
            exfalso; omega
          · skip
            refine ev_iload_n i_Md_equalProductions_32 rfl ?_
            refine ev_if_eqN i_Md_equalProductions_33 (by omega) (fun hc_33 => ?_) (fun hc_33 => ?_)
            · skip
              refine ev_iconstN (v := 0) i_Md_equalProductions_69 (by decide) ?_
              refine ev_ist_n_2 i_Md_equalProductions_70 rfl ?_
              refine ev_iincN_4 (c := 1) i_Md_equalProductions_71 (by decide) rfl ?_
              refine ev_goto i_Md_equalProductions_74 ?_
              rw [e2, hb] at kj
              exact kj
            · skip
              exfalso; omega
        | true =>
          rw [bI_t]
          refine ev_iload i_Md_equalProductions_17 rfl ?_
          refine ev_aload_n i_Md_equalProductions_19 rfl ?_
          refine ev_get i_Md_equalProductions_20 h0 rfl ?_
          refine ev_iload_n i_Md_equalProductions_23 rfl ?_
          refine ev_iconstN (v := 0) i_Md_equalProductions_24 (by decide) ?_
          refine ev_callS2 i_Md_equalProductions_25 rfl (Nat.le_of_ble_eq_true rfl) m_productionAt ?_
          refine ev_ialdN i_Md_equalProductions_28 hg (by omega) (by decide) ?_
          rw [hp0.1.1]
          refine ev_icmp_gtN i_Md_equalProductions_29 (by omega) (by omega) (fun hc_29 => ?_) (fun hc_29 => ?_)
          · skip
            exfalso; omega
          · skip
            refine ev_iload_n i_Md_equalProductions_32 rfl ?_
            refine ev_if_eqN i_Md_equalProductions_33 (by omega) (fun hc_33 => ?_) (fun hc_33 => ?_)
            · skip
              exfalso; omega
            · skip
              refine ev_aload_n i_Md_equalProductions_36 rfl ?_
              refine ev_get i_Md_equalProductions_37 h0 rfl ?_
              refine ev_iload_n i_Md_equalProductions_40 rfl ?_
              refine ev_iload_n i_Md_equalProductions_41 rfl ?_
              refine ev_callS2 i_Md_equalProductions_42 rfl (Nat.le_of_ble_eq_true rfl) m_productionAt ?_
              refine ev_iload i_Md_equalProductions_45 rfl ?_
              first | refine ev_iaddN i_Md_equalProductions_47 ?_ | refine ev_iadd i_Md_equalProductions_47 ?_
              refine ev_ialdN i_Md_equalProductions_48 hg (by omega) (by decide) ?_
              refine ev_aload_n i_Md_equalProductions_49 rfl ?_
              refine ev_get i_Md_equalProductions_50 h0 rfl ?_
              refine ev_iload_n i_Md_equalProductions_53 rfl ?_
              refine ev_iconstN (v := 0) i_Md_equalProductions_54 (by decide) ?_
              refine ev_callS2 i_Md_equalProductions_55 rfl (Nat.le_of_ble_eq_true rfl) m_productionAt ?_
              refine ev_iload i_Md_equalProductions_58 rfl ?_
              first | refine ev_iaddN i_Md_equalProductions_60 ?_ | refine ev_iadd i_Md_equalProductions_60 ?_
              refine ev_ialdN i_Md_equalProductions_61 hg (by omega) (by decide) ?_
              refine ev_icmp_ne i_Md_equalProductions_62 (fun hc_62 => ?_) (fun hc_62 => ?_)
              · skip
                have hf : (fun j => decide (g (o + 1 + 5 * (1 + i) + j) = g (o + 1 + 5 * 0 + j))) j = false := decide_eq_false hc_62
                refine ev_iconstN (v := 0) i_Md_equalProductions_69 (by decide) ?_
                refine ev_ist_n_2 i_Md_equalProductions_70 rfl ?_
                refine ev_iincN_4 (c := 1) i_Md_equalProductions_71 (by decide) rfl ?_
                refine ev_goto i_Md_equalProductions_74 ?_
                rw [e2, hb, hf] at kj
                exact kj
              · skip
                refine ev_iconstN (v := 1) i_Md_equalProductions_65 (by decide) ?_
                refine ev_goto i_Md_equalProductions_66 ?_
                refine ev_ist_n_2 i_Md_equalProductions_70 rfl ?_
                refine ev_iincN_4 (c := 1) i_Md_equalProductions_71 (by decide) rfl ?_
                refine ev_goto i_Md_equalProductions_74 ?_
                have hf : (fun j => decide (g (o + 1 + 5 * (1 + i) + j) = g (o + 1 + 5 * 0 + j))) j = true := decide_eq_true hc_62
                rw [e2, hb, hf] at kj
                exact kj
      · try dsimp only
        refine ev_iload i_Md_equalProductions_17 rfl ?_
        refine ev_aload_n i_Md_equalProductions_19 rfl ?_
        refine ev_get i_Md_equalProductions_20 h0 rfl ?_
        refine ev_iload_n i_Md_equalProductions_23 rfl ?_
        refine ev_iconstN (v := 0) i_Md_equalProductions_24 (by decide) ?_
        refine ev_callS2 i_Md_equalProductions_25 rfl (Nat.le_of_ble_eq_true rfl) m_productionAt ?_
        refine ev_ialdN i_Md_equalProductions_28 hg (by omega) (by decide) ?_
        rw [hp0.1.1]
        refine ev_icmp_gtN i_Md_equalProductions_29 (by omega) (by omega) (fun hc_29 => ?_) (fun hc_29 => ?_)
        · skip
          refine ev_iincN_3 (c := 1) i_Md_equalProductions_77 (by decide) rfl ?_
          refine ev_goto i_Md_equalProductions_80 ?_
          rw [prod_eq hp0.1 hpk.1 hp0.2 hpk.2, show 1 + i + 1 = 1 + (i + 1) from by omega]
          exact ki _
        · skip
          exfalso; omega
theorem m_equalP {scr : Scr} {l : Launch} {S : Sto} {o d : Nat} {g : Nat → Int32} {ps : List (List Nat)} {q1 q2 q3 q4 q5 q6 q7 : Int32} (h0 : S.1[105]? = some (mObj q1 q2 q3 q4 q5 q6 q7)) (hg : S.1[106]? = some (aI 417 g)) (hL : MList g o ps) (ho : o + 16 ≤ 417) : MetA scr l (d + 1) M_Md_equalProductions [.ref 105, .int (nI o)] S (.inl (some (.int (nI (bI (uniP ps))))), S) := by
  refine MetA.of rfl (by decide +kernel) (Nat.le_of_ble_eq_true rfl) ?_
  refine ev_iconstN (v := 1) i_Md_equalProductions_0 (by decide) ?_
  refine ev_ist_n_2 i_Md_equalProductions_1 rfl ?_
  refine ev_iconstN (v := 1) i_Md_equalProductions_2 (by decide) ?_
  refine ev_ist_n_3 i_Md_equalProductions_3 rfl ?_
  exact lp_equalP h0 hg hL ho (ps.length - 1) 0 (by omega) _
theorem uni_get {ps : List (List Nat)} {k : Nat} (h : uniP ps = true) (hk : k < ps.length) : ps.getD k [] = ps.getD 0 [] := by
  by_cases z : k = 0
  · rw [z]
  · have := of_decide_eq_true (allB_iff.mp h (k - 1) (by omega))
    rw [show 1 + (k - 1) = k from by omega] at this
    exact this.symm
theorem stepN_seed {T : TabV} {xs : List Nat} {s s' : Int32} (h : oneI T xs = true) (hT : ∀ i, i < xs.length → 1 ≤ (T.1 (xs.getD i 0)).length) : ∀ i, i ≤ xs.length → (stepN T xs s i).1 = (stepN T xs s' i).1 := by
  intro i
  induction i with
  | zero => intro _; rfl
  | succ i ih =>
    intro hi
    show (stepN T xs s i).1 ++ (prodAt T xs i (stepN T xs s i).2).1 = (stepN T xs s' i).1 ++ (prodAt T xs i (stepN T xs s' i).2).1
    rw [ih (by omega)]
    congr 1
    have hx := allB_iff.mp h i (by omega)
    unfold prodAt
    cases hr : ruleAt T xs i with
    | some p => rfl
    | none =>
      rw [hr] at hx
      have hx : uniP (T.1 (xs.getD i 0)) = true := hx
      have h1 := hT i (by omega)
      show listAt T xs i _ = listAt T xs i _
      unfold listAt
      rw [uni_get hx (Nat.mod_lt _ h1), uni_get hx (Nat.mod_lt _ h1)]
theorem stepW_seed {T : TabV} {xs : List Nat} {s s' : Int32} (h : oneI T xs = true) (hT : ∀ i, i < xs.length → 1 ≤ (T.1 (xs.getD i 0)).length) : stepW T xs s = stepW T xs s' := stepN_seed h hT _ (Nat.le_refl _)
theorem oneI_det {T : TabV} {xs : List Nat} (h : isDet T) (hx : ∀ i, i < xs.length → xs.getD i 0 < 6) : oneI T xs = true := by
  refine allB_iff.mpr (fun i hi => ?_)
  have e : uniP (T.1 (xs.getD i 0)) = true := by
    unfold uniP
    rw [h _ (hx i hi)]
    rfl
  rw [e, Bool.or_true]
theorem m_adult {scr : Scr} {l : Launch} {S : Sto} {t a : Nat} {T : TabV} {xs : List Nat} {seed : Int32} {q : Int32 × Int32 × Int32 × Int32 × Int32 × Int32} (ht : t < 3) (hna : a ≠ 105 ∧ a ≠ 116) (h2 : St3 S a 116 t T xs q [] seed) : ∃ S3, (∀ d, MetA scr l (d + 5) M_Md_adult [.ref 105, .int (nI t), .ref a] S (.inl (some (.int (nI (bI (adB T xs))))), S3)) ∧ (∃ x, St3 S3 a 116 t T xs q [] x) ∧ Fr [105, 116] S S3 := by
  obtain ⟨h1, ⟨g, g1, g2⟩, ⟨f, f1, f2⟩, G, b1, b2⟩ := id h2
  have h60 := f2.2.1
  have ex : ∀ i, i < xs.length → f (i + 1) = nI (xs.getD i 0) := fun i hi => by rw [show i + 1 = 0 + 1 + i from by omega]; exact (f2.2.2 i hi).1
  unfold adB
  rcases first_or (fun i => (ruleAt T xs i).isNone && !uniP (T.1 (xs.getD i 0))) xs.length with hf | ⟨m, hm, hne, hf⟩
  · have e : oneI T xs = true := allB_iff.mpr (fun i hi => by
      have := hf i hi
      cases hr : ruleAt T xs i with
      | none => simp only [hr] at this; simpa using this
      | some p => rfl)
    have es : stepW T xs seed = stepW T xs (nI 0) := stepW_seed e (fun i hi => (g2.1 _ (f2.2.2 i hi).2).2.1)
    rw [e, Bool.true_and]
    by_cases hl : (stepW T xs seed).length ≤ 60
    · obtain ⟨S3, m3, s3, ⟨G3, b3, c3⟩, F3⟩ := (m_step3 (scr := scr) (l := l) ht ⟨by decide, by decide, fun z => hna.2 z.symm⟩ hna.1 h2).1 hl
      have a3 := F3.at f1 (by simp; exact ⟨hna.1, hna.2⟩)
      obtain ⟨x3, o3, r3⟩ := id s3
      refine ⟨S3, fun d => ?_, s3, F3⟩
      by_cases he : xs = stepW T xs seed
      · rw [decide_eq_true (by rw [← es]; exact he.symm), bI_t]
        refine MetA.of rfl (by decide +kernel) (Nat.le_of_ble_eq_true rfl) ?_
        refine ev_iconstN (v := 1) i_Md_adult_0 (by decide) ?_
        refine ev_ist_n_3 i_Md_adult_1 rfl ?_
        refine ev_loop (n := xs.length) (fun i => [some (.ref 105), some (.int (nI t)), some (.ref a), some (.int (nI (i + 1)))]) (fun i => S) (fun i hi ki => ?_) ?_
        · try dsimp only at ki ⊢
          have hfi := hf i (by omega)
          cases hr : ruleAt T xs i with
          | none =>
            have hu : uniP (T.1 (xs.getD i 0)) = true := by
              simp only [hr] at hfi
              simpa using hfi
            refine ev_iload_n i_Md_adult_2 rfl ?_
            refine ev_aload_n i_Md_adult_3 rfl ?_
            refine ev_iconstN (v := 0) i_Md_adult_4 (by decide) ?_
            refine ev_ialdN i_Md_adult_5 f1 (by decide) (by decide) ?_
            rw [f2.1]
            refine ev_icmp_gtN i_Md_adult_6 (by omega) (by omega) (fun hc_6 => ?_) (fun hc_6 => ?_)
            · skip
              exfalso; omega
            · skip
              refine ev_aload_n i_Md_adult_9 rfl ?_
              refine ev_iload_n i_Md_adult_10 rfl ?_
              refine ev_aload_n i_Md_adult_11 rfl ?_
              refine ev_iload_n i_Md_adult_12 rfl ?_
              refine ev_callV3 i_Md_adult_13 rfl h1 (Nat.le_of_ble_eq_true rfl) ((m_ruled h1 g1 g2 ht f1 f2 (by omega)).1 hr _) ?_
              refine ev_if_ge i_Md_adult_16 (fun hc_16 => ?_) (fun hc_16 => ?_)
              · skip
                exact absurd hc_16 (by decide)
              · skip
                refine ev_aload_n i_Md_adult_19 rfl ?_
                refine ev_iload_n i_Md_adult_20 rfl ?_
                refine ev_aload_n i_Md_adult_21 rfl ?_
                refine ev_iload_n i_Md_adult_22 rfl ?_
                refine ev_ialdN i_Md_adult_23 f1 (by omega) (by decide) ?_
                rw [ex i (by omega)]
                refine ev_callS2 i_Md_adult_24 rfl (Nat.le_of_ble_eq_true rfl) m_listAt ?_
                refine ev_callV1 i_Md_adult_27 rfl h1 (Nat.le_of_ble_eq_true rfl) (m_equalP h1 g1 (g2.1 _ (f2.2.2 i (by omega)).2) (by have := (f2.2.2 i (by omega)).2; omega)) ?_
                rw [hu, bI_t]
                refine ev_if_neN i_Md_adult_30 (by omega) (fun hc_30 => ?_) (fun hc_30 => ?_)
                · skip
                  refine ev_iincN_3 (c := 1) i_Md_adult_35 (by decide) rfl ?_
                  refine ev_goto i_Md_adult_38 ?_
                  exact ki
                · skip
                  exfalso; omega
          | some p =>
            obtain ⟨o, ho, -, -, mo⟩ := (m_ruled (scr := scr) (l := l) h1 g1 g2 ht f1 f2 (show i < xs.length by omega)).2 p hr
            refine ev_iload_n i_Md_adult_2 rfl ?_
            refine ev_aload_n i_Md_adult_3 rfl ?_
            refine ev_iconstN (v := 0) i_Md_adult_4 (by decide) ?_
            refine ev_ialdN i_Md_adult_5 f1 (by decide) (by decide) ?_
            rw [f2.1]
            refine ev_icmp_gtN i_Md_adult_6 (by omega) (by omega) (fun hc_6 => ?_) (fun hc_6 => ?_)
            · skip
              exfalso; omega
            · skip
              refine ev_aload_n i_Md_adult_9 rfl ?_
              refine ev_iload_n i_Md_adult_10 rfl ?_
              refine ev_aload_n i_Md_adult_11 rfl ?_
              refine ev_iload_n i_Md_adult_12 rfl ?_
              refine ev_callV3 i_Md_adult_13 rfl h1 (Nat.le_of_ble_eq_true rfl) (mo _) ?_
              refine ev_if_ge_N i_Md_adult_16 (by omega) (fun hc_16 => ?_) (fun hc_16 => ?_)
              · skip
                refine ev_iincN_3 (c := 1) i_Md_adult_35 (by decide) rfl ?_
                refine ev_goto i_Md_adult_38 ?_
                exact ki
              · skip
                exfalso; omega
        · try dsimp only
          refine ev_iload_n i_Md_adult_2 rfl ?_
          refine ev_aload_n i_Md_adult_3 rfl ?_
          refine ev_iconstN (v := 0) i_Md_adult_4 (by decide) ?_
          refine ev_ialdN i_Md_adult_5 f1 (by decide) (by decide) ?_
          rw [f2.1]
          refine ev_icmp_gtN i_Md_adult_6 (by omega) (by omega) (fun hc_6 => ?_) (fun hc_6 => ?_)
          · skip
            refine ev_aload_n i_Md_adult_41 rfl ?_
            refine ev_iload_n i_Md_adult_42 rfl ?_
            refine ev_aload_n i_Md_adult_43 rfl ?_
            refine ev_aload_n i_Md_adult_44 rfl ?_
            refine ev_get i_Md_adult_45 h1 rfl ?_
            refine ev_callV3 i_Md_adult_48 rfl h1 (Nat.le_of_ble_eq_true rfl) (m3 _) ?_
            refine ev_if_eqN i_Md_adult_51 (by omega) (fun hc_51 => ?_) (fun hc_51 => ?_)
            · skip
              exfalso; omega
            · skip
              refine ev_aload_n i_Md_adult_54 rfl ?_
              refine ev_aload_n i_Md_adult_55 rfl ?_
              refine ev_get i_Md_adult_56 o3 rfl ?_
              refine ev_callS2 i_Md_adult_59 rfl (Nat.le_of_ble_eq_true rfl) (m_same a3 b3 f2 c3) ?_
              rw [if_pos he]
              refine ev_if_eqN i_Md_adult_62 (by omega) (fun hc_62 => ?_) (fun hc_62 => ?_)
              · skip
                exfalso; omega
              · skip
                refine ev_iconstN (v := 1) i_Md_adult_65 (by decide) ?_
                refine ev_goto i_Md_adult_66 ?_
                exact ev_iret i_Md_adult_70 rfl (by first | rfl | decide)
          · skip
            exfalso; omega
      · rw [decide_eq_false (by rw [← es]; exact fun z => he z.symm), bI_f]
        refine MetA.of rfl (by decide +kernel) (Nat.le_of_ble_eq_true rfl) ?_
        refine ev_iconstN (v := 1) i_Md_adult_0 (by decide) ?_
        refine ev_ist_n_3 i_Md_adult_1 rfl ?_
        refine ev_loop (n := xs.length) (fun i => [some (.ref 105), some (.int (nI t)), some (.ref a), some (.int (nI (i + 1)))]) (fun i => S) (fun i hi ki => ?_) ?_
        · try dsimp only at ki ⊢
          have hfi := hf i (by omega)
          cases hr : ruleAt T xs i with
          | none =>
            have hu : uniP (T.1 (xs.getD i 0)) = true := by
              simp only [hr] at hfi
              simpa using hfi
            refine ev_iload_n i_Md_adult_2 rfl ?_
            refine ev_aload_n i_Md_adult_3 rfl ?_
            refine ev_iconstN (v := 0) i_Md_adult_4 (by decide) ?_
            refine ev_ialdN i_Md_adult_5 f1 (by decide) (by decide) ?_
            rw [f2.1]
            refine ev_icmp_gtN i_Md_adult_6 (by omega) (by omega) (fun hc_6 => ?_) (fun hc_6 => ?_)
            · skip
              exfalso; omega
            · skip
              refine ev_aload_n i_Md_adult_9 rfl ?_
              refine ev_iload_n i_Md_adult_10 rfl ?_
              refine ev_aload_n i_Md_adult_11 rfl ?_
              refine ev_iload_n i_Md_adult_12 rfl ?_
              refine ev_callV3 i_Md_adult_13 rfl h1 (Nat.le_of_ble_eq_true rfl) ((m_ruled h1 g1 g2 ht f1 f2 (by omega)).1 hr _) ?_
              refine ev_if_ge i_Md_adult_16 (fun hc_16 => ?_) (fun hc_16 => ?_)
              · skip
                exact absurd hc_16 (by decide)
              · skip
                refine ev_aload_n i_Md_adult_19 rfl ?_
                refine ev_iload_n i_Md_adult_20 rfl ?_
                refine ev_aload_n i_Md_adult_21 rfl ?_
                refine ev_iload_n i_Md_adult_22 rfl ?_
                refine ev_ialdN i_Md_adult_23 f1 (by omega) (by decide) ?_
                rw [ex i (by omega)]
                refine ev_callS2 i_Md_adult_24 rfl (Nat.le_of_ble_eq_true rfl) m_listAt ?_
                refine ev_callV1 i_Md_adult_27 rfl h1 (Nat.le_of_ble_eq_true rfl) (m_equalP h1 g1 (g2.1 _ (f2.2.2 i (by omega)).2) (by have := (f2.2.2 i (by omega)).2; omega)) ?_
                rw [hu, bI_t]
                refine ev_if_neN i_Md_adult_30 (by omega) (fun hc_30 => ?_) (fun hc_30 => ?_)
                · skip
                  refine ev_iincN_3 (c := 1) i_Md_adult_35 (by decide) rfl ?_
                  refine ev_goto i_Md_adult_38 ?_
                  exact ki
                · skip
                  exfalso; omega
          | some p =>
            obtain ⟨o, ho, -, -, mo⟩ := (m_ruled (scr := scr) (l := l) h1 g1 g2 ht f1 f2 (show i < xs.length by omega)).2 p hr
            refine ev_iload_n i_Md_adult_2 rfl ?_
            refine ev_aload_n i_Md_adult_3 rfl ?_
            refine ev_iconstN (v := 0) i_Md_adult_4 (by decide) ?_
            refine ev_ialdN i_Md_adult_5 f1 (by decide) (by decide) ?_
            rw [f2.1]
            refine ev_icmp_gtN i_Md_adult_6 (by omega) (by omega) (fun hc_6 => ?_) (fun hc_6 => ?_)
            · skip
              exfalso; omega
            · skip
              refine ev_aload_n i_Md_adult_9 rfl ?_
              refine ev_iload_n i_Md_adult_10 rfl ?_
              refine ev_aload_n i_Md_adult_11 rfl ?_
              refine ev_iload_n i_Md_adult_12 rfl ?_
              refine ev_callV3 i_Md_adult_13 rfl h1 (Nat.le_of_ble_eq_true rfl) (mo _) ?_
              refine ev_if_ge_N i_Md_adult_16 (by omega) (fun hc_16 => ?_) (fun hc_16 => ?_)
              · skip
                refine ev_iincN_3 (c := 1) i_Md_adult_35 (by decide) rfl ?_
                refine ev_goto i_Md_adult_38 ?_
                exact ki
              · skip
                exfalso; omega
        · try dsimp only
          refine ev_iload_n i_Md_adult_2 rfl ?_
          refine ev_aload_n i_Md_adult_3 rfl ?_
          refine ev_iconstN (v := 0) i_Md_adult_4 (by decide) ?_
          refine ev_ialdN i_Md_adult_5 f1 (by decide) (by decide) ?_
          rw [f2.1]
          refine ev_icmp_gtN i_Md_adult_6 (by omega) (by omega) (fun hc_6 => ?_) (fun hc_6 => ?_)
          · skip
            refine ev_aload_n i_Md_adult_41 rfl ?_
            refine ev_iload_n i_Md_adult_42 rfl ?_
            refine ev_aload_n i_Md_adult_43 rfl ?_
            refine ev_aload_n i_Md_adult_44 rfl ?_
            refine ev_get i_Md_adult_45 h1 rfl ?_
            refine ev_callV3 i_Md_adult_48 rfl h1 (Nat.le_of_ble_eq_true rfl) (m3 _) ?_
            refine ev_if_eqN i_Md_adult_51 (by omega) (fun hc_51 => ?_) (fun hc_51 => ?_)
            · skip
              exfalso; omega
            · skip
              refine ev_aload_n i_Md_adult_54 rfl ?_
              refine ev_aload_n i_Md_adult_55 rfl ?_
              refine ev_get i_Md_adult_56 o3 rfl ?_
              refine ev_callS2 i_Md_adult_59 rfl (Nat.le_of_ble_eq_true rfl) (m_same a3 b3 f2 c3) ?_
              rw [if_neg he]
              refine ev_if_eqN i_Md_adult_62 (by omega) (fun hc_62 => ?_) (fun hc_62 => ?_)
              · skip
                refine ev_iconstN (v := 0) i_Md_adult_69 (by decide) ?_
                exact ev_iret i_Md_adult_70 rfl (by first | rfl | decide)
              · skip
                exfalso; omega
          · skip
            exfalso; omega
    · obtain ⟨S3, m3, s3, F3⟩ := (m_step3 (scr := scr) (l := l) ht ⟨by decide, by decide, fun z => hna.2 z.symm⟩ hna.1 h2).2 (by omega)
      refine ⟨S3, fun d => ?_, s3, F3⟩
      rw [decide_eq_false (by rw [← es]; exact fun z => hl (by rw [z]; exact h60)), bI_f]
      refine MetA.of rfl (by decide +kernel) (Nat.le_of_ble_eq_true rfl) ?_
      refine ev_iconstN (v := 1) i_Md_adult_0 (by decide) ?_
      refine ev_ist_n_3 i_Md_adult_1 rfl ?_
      refine ev_loop (n := xs.length) (fun i => [some (.ref 105), some (.int (nI t)), some (.ref a), some (.int (nI (i + 1)))]) (fun i => S) (fun i hi ki => ?_) ?_
      · try dsimp only at ki ⊢
        have hfi := hf i (by omega)
        cases hr : ruleAt T xs i with
        | none =>
          have hu : uniP (T.1 (xs.getD i 0)) = true := by
            simp only [hr] at hfi
            simpa using hfi
          refine ev_iload_n i_Md_adult_2 rfl ?_
          refine ev_aload_n i_Md_adult_3 rfl ?_
          refine ev_iconstN (v := 0) i_Md_adult_4 (by decide) ?_
          refine ev_ialdN i_Md_adult_5 f1 (by decide) (by decide) ?_
          rw [f2.1]
          refine ev_icmp_gtN i_Md_adult_6 (by omega) (by omega) (fun hc_6 => ?_) (fun hc_6 => ?_)
          · skip
            exfalso; omega
          · skip
            refine ev_aload_n i_Md_adult_9 rfl ?_
            refine ev_iload_n i_Md_adult_10 rfl ?_
            refine ev_aload_n i_Md_adult_11 rfl ?_
            refine ev_iload_n i_Md_adult_12 rfl ?_
            refine ev_callV3 i_Md_adult_13 rfl h1 (Nat.le_of_ble_eq_true rfl) ((m_ruled h1 g1 g2 ht f1 f2 (by omega)).1 hr _) ?_
            refine ev_if_ge i_Md_adult_16 (fun hc_16 => ?_) (fun hc_16 => ?_)
            · skip
              exact absurd hc_16 (by decide)
            · skip
              refine ev_aload_n i_Md_adult_19 rfl ?_
              refine ev_iload_n i_Md_adult_20 rfl ?_
              refine ev_aload_n i_Md_adult_21 rfl ?_
              refine ev_iload_n i_Md_adult_22 rfl ?_
              refine ev_ialdN i_Md_adult_23 f1 (by omega) (by decide) ?_
              rw [ex i (by omega)]
              refine ev_callS2 i_Md_adult_24 rfl (Nat.le_of_ble_eq_true rfl) m_listAt ?_
              refine ev_callV1 i_Md_adult_27 rfl h1 (Nat.le_of_ble_eq_true rfl) (m_equalP h1 g1 (g2.1 _ (f2.2.2 i (by omega)).2) (by have := (f2.2.2 i (by omega)).2; omega)) ?_
              rw [hu, bI_t]
              refine ev_if_neN i_Md_adult_30 (by omega) (fun hc_30 => ?_) (fun hc_30 => ?_)
              · skip
                refine ev_iincN_3 (c := 1) i_Md_adult_35 (by decide) rfl ?_
                refine ev_goto i_Md_adult_38 ?_
                exact ki
              · skip
                exfalso; omega
        | some p =>
          obtain ⟨o, ho, -, -, mo⟩ := (m_ruled (scr := scr) (l := l) h1 g1 g2 ht f1 f2 (show i < xs.length by omega)).2 p hr
          refine ev_iload_n i_Md_adult_2 rfl ?_
          refine ev_aload_n i_Md_adult_3 rfl ?_
          refine ev_iconstN (v := 0) i_Md_adult_4 (by decide) ?_
          refine ev_ialdN i_Md_adult_5 f1 (by decide) (by decide) ?_
          rw [f2.1]
          refine ev_icmp_gtN i_Md_adult_6 (by omega) (by omega) (fun hc_6 => ?_) (fun hc_6 => ?_)
          · skip
            exfalso; omega
          · skip
            refine ev_aload_n i_Md_adult_9 rfl ?_
            refine ev_iload_n i_Md_adult_10 rfl ?_
            refine ev_aload_n i_Md_adult_11 rfl ?_
            refine ev_iload_n i_Md_adult_12 rfl ?_
            refine ev_callV3 i_Md_adult_13 rfl h1 (Nat.le_of_ble_eq_true rfl) (mo _) ?_
            refine ev_if_ge_N i_Md_adult_16 (by omega) (fun hc_16 => ?_) (fun hc_16 => ?_)
            · skip
              refine ev_iincN_3 (c := 1) i_Md_adult_35 (by decide) rfl ?_
              refine ev_goto i_Md_adult_38 ?_
              exact ki
            · skip
              exfalso; omega
      · try dsimp only
        refine ev_iload_n i_Md_adult_2 rfl ?_
        refine ev_aload_n i_Md_adult_3 rfl ?_
        refine ev_iconstN (v := 0) i_Md_adult_4 (by decide) ?_
        refine ev_ialdN i_Md_adult_5 f1 (by decide) (by decide) ?_
        rw [f2.1]
        refine ev_icmp_gtN i_Md_adult_6 (by omega) (by omega) (fun hc_6 => ?_) (fun hc_6 => ?_)
        · skip
          refine ev_aload_n i_Md_adult_41 rfl ?_
          refine ev_iload_n i_Md_adult_42 rfl ?_
          refine ev_aload_n i_Md_adult_43 rfl ?_
          refine ev_aload_n i_Md_adult_44 rfl ?_
          refine ev_get i_Md_adult_45 h1 rfl ?_
          refine ev_callV3 i_Md_adult_48 rfl h1 (Nat.le_of_ble_eq_true rfl) (m3 _) ?_
          refine ev_if_eqN i_Md_adult_51 (by omega) (fun hc_51 => ?_) (fun hc_51 => ?_)
          · skip
            refine ev_iconstN (v := 0) i_Md_adult_69 (by decide) ?_
            exact ev_iret i_Md_adult_70 rfl (by first | rfl | decide)
          · skip
            exfalso; omega
        · skip
          exfalso; omega
  · obtain ⟨hr, hu⟩ : ruleAt T xs m = none ∧ uniP (T.1 (xs.getD m 0)) = false := by
      simpa using hne
    have e : oneI T xs = false := by
      cases hz : oneI T xs with
      | false => rfl
      | true =>
        have this : ((ruleAt T xs m).isSome || uniP (T.1 (xs.getD m 0))) = true := allB_iff.mp hz m hm
        rw [hr, hu] at this
        cases this
    refine ⟨S, fun d => ?_, ⟨seed, h2⟩, Fr.rf _ _⟩
    rw [e, Bool.false_and, bI_f]
    refine MetA.of rfl (by decide +kernel) (Nat.le_of_ble_eq_true rfl) ?_
    refine ev_iconstN (v := 1) i_Md_adult_0 (by decide) ?_
    refine ev_ist_n_3 i_Md_adult_1 rfl ?_
    refine ev_loop (n := m) (fun i => [some (.ref 105), some (.int (nI t)), some (.ref a), some (.int (nI (i + 1)))]) (fun i => S) (fun i hi ki => ?_) ?_
    · try dsimp only at ki ⊢
      have hfi := hf i (by omega)
      cases hr : ruleAt T xs i with
      | none =>
        have hu : uniP (T.1 (xs.getD i 0)) = true := by
          simp only [hr] at hfi
          simpa using hfi
        refine ev_iload_n i_Md_adult_2 rfl ?_
        refine ev_aload_n i_Md_adult_3 rfl ?_
        refine ev_iconstN (v := 0) i_Md_adult_4 (by decide) ?_
        refine ev_ialdN i_Md_adult_5 f1 (by decide) (by decide) ?_
        rw [f2.1]
        refine ev_icmp_gtN i_Md_adult_6 (by omega) (by omega) (fun hc_6 => ?_) (fun hc_6 => ?_)
        · skip
          exfalso; omega
        · skip
          refine ev_aload_n i_Md_adult_9 rfl ?_
          refine ev_iload_n i_Md_adult_10 rfl ?_
          refine ev_aload_n i_Md_adult_11 rfl ?_
          refine ev_iload_n i_Md_adult_12 rfl ?_
          refine ev_callV3 i_Md_adult_13 rfl h1 (Nat.le_of_ble_eq_true rfl) ((m_ruled h1 g1 g2 ht f1 f2 (by omega)).1 hr _) ?_
          refine ev_if_ge i_Md_adult_16 (fun hc_16 => ?_) (fun hc_16 => ?_)
          · skip
            exact absurd hc_16 (by decide)
          · skip
            refine ev_aload_n i_Md_adult_19 rfl ?_
            refine ev_iload_n i_Md_adult_20 rfl ?_
            refine ev_aload_n i_Md_adult_21 rfl ?_
            refine ev_iload_n i_Md_adult_22 rfl ?_
            refine ev_ialdN i_Md_adult_23 f1 (by omega) (by decide) ?_
            rw [ex i (by omega)]
            refine ev_callS2 i_Md_adult_24 rfl (Nat.le_of_ble_eq_true rfl) m_listAt ?_
            refine ev_callV1 i_Md_adult_27 rfl h1 (Nat.le_of_ble_eq_true rfl) (m_equalP h1 g1 (g2.1 _ (f2.2.2 i (by omega)).2) (by have := (f2.2.2 i (by omega)).2; omega)) ?_
            rw [hu, bI_t]
            refine ev_if_neN i_Md_adult_30 (by omega) (fun hc_30 => ?_) (fun hc_30 => ?_)
            · skip
              refine ev_iincN_3 (c := 1) i_Md_adult_35 (by decide) rfl ?_
              refine ev_goto i_Md_adult_38 ?_
              exact ki
            · skip
              exfalso; omega
      | some p =>
        obtain ⟨o, ho, -, -, mo⟩ := (m_ruled (scr := scr) (l := l) h1 g1 g2 ht f1 f2 (show i < xs.length by omega)).2 p hr
        refine ev_iload_n i_Md_adult_2 rfl ?_
        refine ev_aload_n i_Md_adult_3 rfl ?_
        refine ev_iconstN (v := 0) i_Md_adult_4 (by decide) ?_
        refine ev_ialdN i_Md_adult_5 f1 (by decide) (by decide) ?_
        rw [f2.1]
        refine ev_icmp_gtN i_Md_adult_6 (by omega) (by omega) (fun hc_6 => ?_) (fun hc_6 => ?_)
        · skip
          exfalso; omega
        · skip
          refine ev_aload_n i_Md_adult_9 rfl ?_
          refine ev_iload_n i_Md_adult_10 rfl ?_
          refine ev_aload_n i_Md_adult_11 rfl ?_
          refine ev_iload_n i_Md_adult_12 rfl ?_
          refine ev_callV3 i_Md_adult_13 rfl h1 (Nat.le_of_ble_eq_true rfl) (mo _) ?_
          refine ev_if_ge_N i_Md_adult_16 (by omega) (fun hc_16 => ?_) (fun hc_16 => ?_)
          · skip
            refine ev_iincN_3 (c := 1) i_Md_adult_35 (by decide) rfl ?_
            refine ev_goto i_Md_adult_38 ?_
            exact ki
          · skip
            exfalso; omega
    · try dsimp only
      refine ev_iload_n i_Md_adult_2 rfl ?_
      refine ev_aload_n i_Md_adult_3 rfl ?_
      refine ev_iconstN (v := 0) i_Md_adult_4 (by decide) ?_
      refine ev_ialdN i_Md_adult_5 f1 (by decide) (by decide) ?_
      rw [f2.1]
      refine ev_icmp_gtN i_Md_adult_6 (by omega) (by omega) (fun hc_6 => ?_) (fun hc_6 => ?_)
      · skip
        exfalso; omega
      · skip
        refine ev_aload_n i_Md_adult_9 rfl ?_
        refine ev_iload_n i_Md_adult_10 rfl ?_
        refine ev_aload_n i_Md_adult_11 rfl ?_
        refine ev_iload_n i_Md_adult_12 rfl ?_
        refine ev_callV3 i_Md_adult_13 rfl h1 (Nat.le_of_ble_eq_true rfl) ((m_ruled h1 g1 g2 ht f1 f2 (by omega)).1 hr _) ?_
        refine ev_if_ge i_Md_adult_16 (fun hc_16 => ?_) (fun hc_16 => ?_)
        · skip
          exact absurd hc_16 (by decide)
        · skip
          refine ev_aload_n i_Md_adult_19 rfl ?_
          refine ev_iload_n i_Md_adult_20 rfl ?_
          refine ev_aload_n i_Md_adult_21 rfl ?_
          refine ev_iload_n i_Md_adult_22 rfl ?_
          refine ev_ialdN i_Md_adult_23 f1 (by omega) (by decide) ?_
          rw [ex m (by omega)]
          refine ev_callS2 i_Md_adult_24 rfl (Nat.le_of_ble_eq_true rfl) m_listAt ?_
          refine ev_callV1 i_Md_adult_27 rfl h1 (Nat.le_of_ble_eq_true rfl) (m_equalP h1 g1 (g2.1 _ (f2.2.2 m (by omega)).2) (by have := (f2.2.2 m (by omega)).2; omega)) ?_
          rw [hu, bI_f]
          refine ev_if_neN i_Md_adult_30 (by omega) (fun hc_30 => ?_) (fun hc_30 => ?_)
          · skip
            exfalso; omega
          · skip
            refine ev_iconstN (v := 0) i_Md_adult_33 (by decide) ?_
            exact ev_iret i_Md_adult_34 rfl (by first | rfl | decide)

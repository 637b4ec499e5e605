/-! the loop of the law -/
theorem and63 (x : Int32) : ∃ n, n < 64 ∧ x &&& nI 63 = nI n := by
  refine ⟨x.toBitVec.toNat % 64, Nat.mod_lt _ (by decide), ?_⟩
  apply Int32.toBitVec_inj.mp
  apply BitVec.eq_of_toNat_eq
  show (x.toBitVec &&& (nI 63).toBitVec).toNat = _
  rw [BitVec.toNat_and, show (nI 63).toBitVec.toNat = 2 ^ 6 - 1 from rfl, Nat.and_two_pow_sub_one_eq_mod]
  show _ = (BitVec.ofNat 32 (x.toBitVec.toNat % 64)).toNat
  rw [BitVec.toNat_ofNat, Nat.mod_eq_of_lt (a := x.toBitVec.toNat % 64)]
  have := Nat.mod_lt x.toBitVec.toNat (show 64 > 0 by decide)
  omega
theorem law_sw_out {n : Nat} (h : 37 ≤ n) (h2 : n < 64) : iSw M_Lw_law 44 (nI n) 2266 := ⟨_, _, _, _, _, i_Lw_law_44, Or.inr ⟨Or.inr (by show (36 : Int) < (Int32.ofNat n).toInt; rw [Int32.toInt_ofNat_of_lt (by omega)]; omega), rfl⟩⟩
theorem Cost.rf (S : Sto) : Cost S S := ⟨rfl, by omega, by omega⟩
theorem law_sw_0 : iSw M_Lw_law 44 (nI 0) 208 := ⟨_, _, _, _, _, i_Lw_law_44, Or.inl ⟨by decide, by decide, 164, rfl, rfl⟩⟩
theorem law_sw_1 : iSw M_Lw_law 44 (nI 1) 264 := ⟨_, _, _, _, _, i_Lw_law_44, Or.inl ⟨by decide, by decide, 220, rfl, rfl⟩⟩
theorem law_sw_2 : iSw M_Lw_law 44 (nI 2) 277 := ⟨_, _, _, _, _, i_Lw_law_44, Or.inl ⟨by decide, by decide, 233, rfl, rfl⟩⟩
theorem law_sw_3 : iSw M_Lw_law 44 (nI 3) 345 := ⟨_, _, _, _, _, i_Lw_law_44, Or.inl ⟨by decide, by decide, 301, rfl, rfl⟩⟩
theorem law_sw_4 : iSw M_Lw_law 44 (nI 4) 413 := ⟨_, _, _, _, _, i_Lw_law_44, Or.inl ⟨by decide, by decide, 369, rfl, rfl⟩⟩
theorem law_sw_5 : iSw M_Lw_law 44 (nI 5) 481 := ⟨_, _, _, _, _, i_Lw_law_44, Or.inl ⟨by decide, by decide, 437, rfl, rfl⟩⟩
theorem law_sw_6 : iSw M_Lw_law 44 (nI 6) 568 := ⟨_, _, _, _, _, i_Lw_law_44, Or.inl ⟨by decide, by decide, 524, rfl, rfl⟩⟩
theorem law_sw_7 : iSw M_Lw_law 44 (nI 7) 655 := ⟨_, _, _, _, _, i_Lw_law_44, Or.inl ⟨by decide, by decide, 611, rfl, rfl⟩⟩
theorem law_sw_8 : iSw M_Lw_law 44 (nI 8) 718 := ⟨_, _, _, _, _, i_Lw_law_44, Or.inl ⟨by decide, by decide, 674, rfl, rfl⟩⟩
theorem law_sw_9 : iSw M_Lw_law 44 (nI 9) 781 := ⟨_, _, _, _, _, i_Lw_law_44, Or.inl ⟨by decide, by decide, 737, rfl, rfl⟩⟩
theorem law_sw_10 : iSw M_Lw_law 44 (nI 10) 825 := ⟨_, _, _, _, _, i_Lw_law_44, Or.inl ⟨by decide, by decide, 781, rfl, rfl⟩⟩
theorem law_sw_11 : iSw M_Lw_law 44 (nI 11) 869 := ⟨_, _, _, _, _, i_Lw_law_44, Or.inl ⟨by decide, by decide, 825, rfl, rfl⟩⟩
theorem law_sw_12 : iSw M_Lw_law 44 (nI 12) 882 := ⟨_, _, _, _, _, i_Lw_law_44, Or.inl ⟨by decide, by decide, 838, rfl, rfl⟩⟩
theorem law_sw_13 : iSw M_Lw_law 44 (nI 13) 938 := ⟨_, _, _, _, _, i_Lw_law_44, Or.inl ⟨by decide, by decide, 894, rfl, rfl⟩⟩
theorem law_sw_14 : iSw M_Lw_law 44 (nI 14) 951 := ⟨_, _, _, _, _, i_Lw_law_44, Or.inl ⟨by decide, by decide, 907, rfl, rfl⟩⟩
theorem law_sw_15 : iSw M_Lw_law 44 (nI 15) 1019 := ⟨_, _, _, _, _, i_Lw_law_44, Or.inl ⟨by decide, by decide, 975, rfl, rfl⟩⟩
theorem law_sw_16 : iSw M_Lw_law 44 (nI 16) 1032 := ⟨_, _, _, _, _, i_Lw_law_44, Or.inl ⟨by decide, by decide, 988, rfl, rfl⟩⟩
theorem law_sw_17 : iSw M_Lw_law 44 (nI 17) 1099 := ⟨_, _, _, _, _, i_Lw_law_44, Or.inl ⟨by decide, by decide, 1055, rfl, rfl⟩⟩
theorem law_sw_18 : iSw M_Lw_law 44 (nI 18) 1178 := ⟨_, _, _, _, _, i_Lw_law_44, Or.inl ⟨by decide, by decide, 1134, rfl, rfl⟩⟩
theorem law_sw_19 : iSw M_Lw_law 44 (nI 19) 1234 := ⟨_, _, _, _, _, i_Lw_law_44, Or.inl ⟨by decide, by decide, 1190, rfl, rfl⟩⟩
theorem law_sw_20 : iSw M_Lw_law 44 (nI 20) 1290 := ⟨_, _, _, _, _, i_Lw_law_44, Or.inl ⟨by decide, by decide, 1246, rfl, rfl⟩⟩
theorem law_sw_21 : iSw M_Lw_law 44 (nI 21) 1346 := ⟨_, _, _, _, _, i_Lw_law_44, Or.inl ⟨by decide, by decide, 1302, rfl, rfl⟩⟩
theorem law_sw_22 : iSw M_Lw_law 44 (nI 22) 1414 := ⟨_, _, _, _, _, i_Lw_law_44, Or.inl ⟨by decide, by decide, 1370, rfl, rfl⟩⟩
theorem law_sw_23 : iSw M_Lw_law 44 (nI 23) 1477 := ⟨_, _, _, _, _, i_Lw_law_44, Or.inl ⟨by decide, by decide, 1433, rfl, rfl⟩⟩
theorem law_sw_24 : iSw M_Lw_law 44 (nI 24) 1545 := ⟨_, _, _, _, _, i_Lw_law_44, Or.inl ⟨by decide, by decide, 1501, rfl, rfl⟩⟩
theorem law_sw_25 : iSw M_Lw_law 44 (nI 25) 1613 := ⟨_, _, _, _, _, i_Lw_law_44, Or.inl ⟨by decide, by decide, 1569, rfl, rfl⟩⟩
theorem law_sw_26 : iSw M_Lw_law 44 (nI 26) 1668 := ⟨_, _, _, _, _, i_Lw_law_44, Or.inl ⟨by decide, by decide, 1624, rfl, rfl⟩⟩
theorem law_sw_27 : iSw M_Lw_law 44 (nI 27) 1724 := ⟨_, _, _, _, _, i_Lw_law_44, Or.inl ⟨by decide, by decide, 1680, rfl, rfl⟩⟩
theorem law_sw_28 : iSw M_Lw_law 44 (nI 28) 1780 := ⟨_, _, _, _, _, i_Lw_law_44, Or.inl ⟨by decide, by decide, 1736, rfl, rfl⟩⟩
theorem law_sw_29 : iSw M_Lw_law 44 (nI 29) 1816 := ⟨_, _, _, _, _, i_Lw_law_44, Or.inl ⟨by decide, by decide, 1772, rfl, rfl⟩⟩
theorem law_sw_30 : iSw M_Lw_law 44 (nI 30) 1860 := ⟨_, _, _, _, _, i_Lw_law_44, Or.inl ⟨by decide, by decide, 1816, rfl, rfl⟩⟩
theorem law_sw_31 : iSw M_Lw_law 44 (nI 31) 1925 := ⟨_, _, _, _, _, i_Lw_law_44, Or.inl ⟨by decide, by decide, 1881, rfl, rfl⟩⟩
theorem law_sw_32 : iSw M_Lw_law 44 (nI 32) 2002 := ⟨_, _, _, _, _, i_Lw_law_44, Or.inl ⟨by decide, by decide, 1958, rfl, rfl⟩⟩
theorem law_sw_33 : iSw M_Lw_law 44 (nI 33) 2046 := ⟨_, _, _, _, _, i_Lw_law_44, Or.inl ⟨by decide, by decide, 2002, rfl, rfl⟩⟩
theorem law_sw_34 : iSw M_Lw_law 44 (nI 34) 2130 := ⟨_, _, _, _, _, i_Lw_law_44, Or.inl ⟨by decide, by decide, 2086, rfl, rfl⟩⟩
theorem law_sw_35 : iSw M_Lw_law 44 (nI 35) 2231 := ⟨_, _, _, _, _, i_Lw_law_44, Or.inl ⟨by decide, by decide, 2187, rfl, rfl⟩⟩
theorem law_sw_36 : iSw M_Lw_law 44 (nI 36) 2242 := ⟨_, _, _, _, _, i_Lw_law_44, Or.inl ⟨by decide, by decide, 2198, rfl, rfl⟩⟩
theorem law_case {scr : Scr} {l : Launch} {S : Sto} {i : Nat} {σ : Sg} (hs : scr.1 < 2 ^ 31) (hi : i + 3 < scr.1) (h : Jn σ S) {n : Nat} (hn : n < 64) : ∃ pc, iSw M_Lw_law 44 (nI n) pc ∧ Sim scr l pc i S := by
  match n, hn with
  | 0, _ => exact ⟨208, law_sw_0, sim_appendCharacter hs hi (op_appendCharacter h (scr.2 (i + 1)))⟩
  | 1, _ => exact ⟨264, law_sw_1, sim_clearText h⟩
  | 2, _ => exact ⟨277, law_sw_2, sim_setProduction hs hi (op_setProduction h (scr.2 (i + 1)) (scr.2 (i + 2)))⟩
  | 3, _ => exact ⟨345, law_sw_3, sim_addProduction hs hi (op_addProduction h (scr.2 (i + 1)) (scr.2 (i + 2)))⟩
  | 4, _ => exact ⟨413, law_sw_4, sim_productionCount hs hi (op_productionCount h (scr.2 (i + 1)) (scr.2 (i + 2)))⟩
  | 5, _ => exact ⟨481, law_sw_5, sim_setContextRule hs hi (op_setContextRule h (scr.2 (i + 1)) (scr.2 (i + 2)) (scr.2 (i + 3)))⟩
  | 6, _ => exact ⟨568, law_sw_6, sim_removeContextRule hs hi (op_removeContextRule h (scr.2 (i + 1)) (scr.2 (i + 2)) (scr.2 (i + 3)))⟩
  | 7, _ => exact ⟨655, law_sw_7, sim_isDeterministic hs hi (op_isDeterministic h (scr.2 (i + 1)))⟩
  | 8, _ => exact ⟨718, law_sw_8, sim_isPlain hs hi (op_isPlain h (scr.2 (i + 1)))⟩
  | 9, _ => exact ⟨781, law_sw_9, sim_setWord hs hi (op_setWord h)⟩
  | 10, _ => exact ⟨825, law_sw_10, sim_setTarget hs hi (op_setTarget h)⟩
  | 11, _ => exact ⟨869, law_sw_11, sim_wordLength h⟩
  | 12, _ => exact ⟨882, law_sw_12, sim_wordLetter hs hi (op_wordLetter h (scr.2 (i + 1)))⟩
  | 13, _ => exact ⟨938, law_sw_13, sim_isTarget h⟩
  | 14, _ => exact ⟨951, law_sw_14, sim_step hs hi (op_step h (scr.2 (i + 1)) (scr.2 (i + 2)))⟩
  | 15, _ => exact ⟨1019, law_sw_15, sim_undo h⟩
  | 16, _ => exact ⟨1032, law_sw_16, sim_lengthAfter hs hi (op_lengthAfter h (scr.2 (i + 1)) (scr.2 (i + 2)))⟩
  | 17, _ => exact ⟨1099, law_sw_17, sim_countAfter hs hi (op_countAfter h (scr.2 (i + 1)) (scr.2 (i + 2)) (scr.2 (i + 3)))⟩
  | 18, _ => exact ⟨1178, law_sw_18, sim_growthKind hs hi (op_growthKind h (scr.2 (i + 1)))⟩
  | 19, _ => exact ⟨1234, law_sw_19, sim_growthDegree hs hi (op_growthDegree h (scr.2 (i + 1)))⟩
  | 20, _ => exact ⟨1290, law_sw_20, sim_recurrenceOrder hs hi (op_recurrenceOrder h (scr.2 (i + 1)))⟩
  | 21, _ => exact ⟨1346, law_sw_21, sim_recurrenceCoefficient hs hi (op_recurrenceCoefficient h (scr.2 (i + 1)) (scr.2 (i + 2)))⟩
  | 22, _ => exact ⟨1414, law_sw_22, sim_isAdult hs hi (op_isAdult h (scr.2 (i + 1)))⟩
  | 23, _ => exact ⟨1477, law_sw_23, sim_stepsToAdult hs hi (op_stepsToAdult h (scr.2 (i + 1)) (scr.2 (i + 2)))⟩
  | 24, _ => exact ⟨1545, law_sw_24, sim_adultWords hs hi (op_adultWords h (scr.2 (i + 1)) (scr.2 (i + 2)))⟩
  | 25, _ => exact ⟨1613, law_sw_25, sim_ways hs hi (op_ways h (scr.2 (i + 1)))⟩
  | 26, _ => exact ⟨1668, law_sw_26, sim_sequenceCount hs hi (op_sequenceCount h (scr.2 (i + 1)))⟩
  | 27, _ => exact ⟨1724, law_sw_27, sim_firstSequence hs hi (op_firstSequence h (scr.2 (i + 1)))⟩
  | 28, _ => exact ⟨1780, law_sw_28, sim_setCommand hs hi (op_setCommand h (scr.2 (i + 1)))⟩
  | 29, _ => exact ⟨1816, law_sw_29, sim_segmentCount hs hi (op_segmentCount h)⟩
  | 30, _ => exact ⟨1860, law_sw_30, sim_inkLength hs hi (op_inkLength h)⟩
  | 31, _ => exact ⟨1925, law_sw_31, sim_extent hs hi (op_extent h (scr.2 (i + 1)))⟩
  | 32, _ => exact ⟨2002, law_sw_32, sim_openDepth hs hi (op_openDepth h)⟩
  | 33, _ => exact ⟨2046, law_sw_33, sim_keepPoints hs hi rfl (op_keepPoints h (scr.2 (i + 1)) (decide (scr.2 (i + 2) ≠ 0)))⟩
  | 34, _ => exact ⟨2130, law_sw_34, sim_remainder hs hi (op_remainder h (scr.2 (i + 1)) (scr.2 (i + 2)) (scr.2 (i + 3)))⟩
  | 35, _ => exact ⟨2231, law_sw_35, sim_save h⟩
  | 36, _ => exact ⟨2242, law_sw_36, sim_restore hs hi (op_restore h)⟩
  | n + 37, hn => exact ⟨2266, law_sw_out (by omega) hn, σ, S, h, Cost.rf S, fun d r u6 u7 u8 kx => kx _ _ _⟩
theorem law_loop {scr : Scr} {l : Launch} (hs : scr.1 < 2 ^ 30) : ∀ (n i : Nat) (S : Sto) (σ : Sg), scr.1 < i + 4 * n + 4 → i < 2 ^ 30 → Jn σ S → ∃ S2 : Sto, (S2.2.1 ≤ S.2.1 + n ∧ S2.2.2 ≤ S.2.2 + 6 * n) ∧ ∀ d u6 u7 u8, Ev scr l (d + 13) M_Lw_law 28 (LL i u6 u7 u8) [] S (.inl (some (.int (nI 1))), S2) := by
  have ex : ∀ (i : Nat) (S : Sto), scr.1 < i + 4 → i < 2 ^ 30 → ∀ d u6 u7 u8, Ev scr l (d + 13) M_Lw_law 28 (LL i u6 u7 u8) [] S (.inl (some (.int (nI 1))), S) := by
    intro i S hlt hi d u6 u7 u8
    have hgt : nI scr.1 - nI 4 < nI i := by
      by_cases q : 4 ≤ scr.1
      · rw [nI_sub q]
        exact nI_lt (by omega) (by omega)
      · rcases (show scr.1 = 0 ∨ scr.1 = 1 ∨ scr.1 = 2 ∨ scr.1 = 3 by omega) with e | e | e | e
        all_goals
          rw [e]
          exact Int32.lt_of_lt_of_le (b := 0) (by decide) (nI_pos' (by omega))
    refine ev_iload i_Lw_law_28 rfl ?_
    refine ev_aload_n i_Lw_law_30 rfl ?_
    refine ev_slen i_Lw_law_31 ?_
    refine ev_iconstN (v := 4) i_Lw_law_32 (by decide) ?_
    refine ev_isub i_Lw_law_33 ?_
    refine ev_icmp_gt i_Lw_law_34 (fun hc_34 => ?_) (fun hc_34 => ?_)
    · skip
      refine ev_iconstN (v := 1) i_Lw_law_2272 (by decide) ?_
      exact ev_iret i_Lw_law_2273 rfl (by decide)
    · skip
      exact absurd hgt hc_34
  intro n
  induction n with
  | zero =>
    intro i S σ h1 h2 h
    exact ⟨S, ⟨by omega, by omega⟩, ex i S (by omega) h2⟩
  | succ n ih =>
    intro i S σ h1 h2 h
    by_cases hlt : scr.1 < i + 4
    · exact ⟨S, ⟨by omega, by omega⟩, ex i S hlt h2⟩
    · obtain ⟨v, hv, hne⟩ := and63 (scr.2 i)
      obtain ⟨pc, hsw, σ2, S2, hJ, hc, sim⟩ := law_case (scr := scr) (l := l) (i := i) (by omega) (by omega) h hv
      obtain ⟨S3, hb, ih2⟩ := ih (i + 4) S2 σ2 (by omega) (by omega) hJ
      have c1 := hc.2.1
      have c2 := hc.2.2
      refine ⟨S3, ⟨by omega, by omega⟩, fun d u6 u7 u8 => ?_⟩
      have hs : scr.1 < 2 ^ 31 := by omega
      refine ev_iload i_Lw_law_28 rfl ?_
      refine ev_aload_n i_Lw_law_30 rfl ?_
      refine ev_slen i_Lw_law_31 ?_
      refine ev_iconstN (v := 4) i_Lw_law_32 (by decide) ?_
      first | refine ev_isubN i_Lw_law_33 (by omega) ?_ | refine ev_isub i_Lw_law_33 ?_
      refine ev_icmp_gtN i_Lw_law_34 (by omega) (by omega) (fun hc_34 => ?_) (fun hc_34 => ?_)
      · skip
        exfalso; omega
      · skip
        refine ev_aload_n i_Lw_law_37 rfl ?_
        refine ev_iload i_Lw_law_38 rfl ?_
        refine ev_sldN i_Lw_law_40 (by omega) hs ?_
        refine ev_bipushN (v := 63) i_Lw_law_41 (by decide) ?_
        refine ev_iand i_Lw_law_43 ?_
        rw [hne]
        refine ev_switch hsw ?_
        refine sim d _ u6 u7 u8 (fun u6 u7 u8 => ?_)
        refine ev_iincN_5 (c := 4) i_Lw_law_2266 (by decide) rfl ?_
        refine ev_goto i_Lw_law_2269 ?_
        exact ih2 d u6 u7 u8

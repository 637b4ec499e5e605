/-! the model m: remainder -/
theorem m_rem_1 {scr : Scr} {l : Launch} {S : Sto} {σ : Sg} {th : Nat} {q y z : Int32} (h : MInv th σ S) (hq : ¬ inR 2 q) : MRun scr l 3 M_Md_remainder [.ref 105, .int q, .int y, .int z] S (some (.double FP.dconst0)) 1 σ := by
  refine MRun.th h (fun dr mo sc h0 d => ?_)
  have o1 : (S.put 105 (mO 1 σ dr mo sc)).1[105]? = _ := put_self h0
  refine MetA.of rfl (by decide +kernel) (Nat.le_of_ble_eq_true rfl) ?_
  refine ev_aload_n i_Md_remainder_0 rfl ?_
  refine ev_iload_n i_Md_remainder_1 rfl ?_
  refine ev_iconstN (v := 0) i_Md_remainder_2 (by decide) ?_
  refine ev_iconstN (v := 1) i_Md_remainder_3 (by decide) ?_
  refine ev_callS3 i_Md_remainder_4 rfl (Nat.le_of_ble_eq_true rfl) (m_in.2 (fun w => hq ((inR_inB (n := 2) (by decide) (by decide)).mpr w))) ?_
  refine ev_if_neN i_Md_remainder_7 (by omega) (fun hc_7 => ?_) (fun hc_7 => ?_)
  · skip
    exfalso; omega
  · skip
    refine ev_iconstN (v := 1) i_Md_remainder_10 (by decide) ?_
    refine ev_goto i_Md_remainder_11 ?_
    refine ev_mput_thrown i_Md_remainder_84 h0 ?_
    refine ev_aload_n i_Md_remainder_87 rfl ?_
    refine ev_get i_Md_remainder_88 o1 rfl ?_
    refine ev_if_leN i_Md_remainder_91 (by omega) (fun hc_91 => ?_) (fun hc_91 => ?_)
    · skip
      exfalso; omega
    · skip
      refine ev_dconst0 i_Md_remainder_94 ?_
      exact ev_dret i_Md_remainder_95 rfl
theorem m_rem_2 {scr : Scr} {l : Launch} {S : Sto} {σ : Sg} {th : Nat} {R : Rows} {row : Nat} {y z : Int32} (h : MInv th σ S) (hR : RowM R S) (hr : row < 2) (h0 : (R row).1 = 0) : MRun scr l 3 M_Md_remainder [.ref 105, .int (nI row), .int y, .int z] S (some (.double FP.dconst0)) 2 σ := by
  obtain ⟨⟨gz, z1, z2⟩, ⟨fl, gb, b1, b2⟩, fe, e1, e2⟩ := id hR
  have hsz := z2 row hr
  rw [if_pos h0] at hsz
  refine MRun.th h (fun dr mo sc h0 d => ?_)
  have o1 : (S.put 105 (mO 2 σ dr mo sc)).1[105]? = _ := put_self h0
  refine MetA.of rfl (by decide +kernel) (Nat.le_of_ble_eq_true rfl) ?_
  refine ev_aload_n i_Md_remainder_0 rfl ?_
  refine ev_iload_n i_Md_remainder_1 rfl ?_
  refine ev_iconstN (v := 0) i_Md_remainder_2 (by decide) ?_
  refine ev_iconstN (v := 1) i_Md_remainder_3 (by decide) ?_
  refine ev_callS3 i_Md_remainder_4 rfl (Nat.le_of_ble_eq_true rfl) (m_in.1 ((inR_inB (n := 2) (by decide) (by decide)).mp (inR.of (by decide) hr))) ?_
  refine ev_if_neN i_Md_remainder_7 (by omega) (fun hc_7 => ?_) (fun hc_7 => ?_)
  · skip
    refine ev_aload_n i_Md_remainder_14 rfl ?_
    refine ev_get i_Md_remainder_15 h0 rfl ?_
    refine ev_iload_n i_Md_remainder_18 rfl ?_
    refine ev_ialdN i_Md_remainder_19 z1 hr (by decide) ?_
    rw [hsz]
    refine ev_if_ge i_Md_remainder_20 (fun hc_20 => ?_) (fun hc_20 => ?_)
    · skip
      exact absurd hc_20 (by decide)
    · skip
      refine ev_iconstN (v := 2) i_Md_remainder_23 (by decide) ?_
      refine ev_goto i_Md_remainder_24 ?_
      refine ev_mput_thrown i_Md_remainder_84 h0 ?_
      refine ev_aload_n i_Md_remainder_87 rfl ?_
      refine ev_get i_Md_remainder_88 o1 rfl ?_
      refine ev_if_leN i_Md_remainder_91 (by omega) (fun hc_91 => ?_) (fun hc_91 => ?_)
      · skip
        exfalso; omega
      · skip
        refine ev_dconst0 i_Md_remainder_94 ?_
        exact ev_dret i_Md_remainder_95 rfl
  · skip
    exfalso; omega
theorem m_rem_3a {scr : Scr} {l : Launch} {S : Sto} {σ : Sg} {th : Nat} {R : Rows} {row : Nat} {y z : Int32} (h : MInv th σ S) (hR : RowM R S) (hr : row < 2) (hne : (R row).1 ≠ 0) (hy : ¬ inR (R row).1 y) : MRun scr l 3 M_Md_remainder [.ref 105, .int (nI row), .int y, .int z] S (some (.double FP.dconst0)) 3 σ := by
  obtain ⟨⟨gz, z1, z2⟩, ⟨fl, gb, b1, b2⟩, fe, e1, e2⟩ := id hR
  have hsz := z2 row hr
  rw [if_neg hne] at hsz
  have h122 := (b2 row hr).2.1
  refine MRun.th h (fun dr mo sc h0 d => ?_)
  have o1 : (S.put 105 (mO 3 σ dr mo sc)).1[105]? = _ := put_self h0
  refine MetA.of rfl (by decide +kernel) (Nat.le_of_ble_eq_true rfl) ?_
  refine ev_aload_n i_Md_remainder_0 rfl ?_
  refine ev_iload_n i_Md_remainder_1 rfl ?_
  refine ev_iconstN (v := 0) i_Md_remainder_2 (by decide) ?_
  refine ev_iconstN (v := 1) i_Md_remainder_3 (by decide) ?_
  refine ev_callS3 i_Md_remainder_4 rfl (Nat.le_of_ble_eq_true rfl) (m_in.1 ((inR_inB (n := 2) (by decide) (by decide)).mp (inR.of (by decide) hr))) ?_
  refine ev_if_neN i_Md_remainder_7 (by omega) (fun hc_7 => ?_) (fun hc_7 => ?_)
  · skip
    refine ev_aload_n i_Md_remainder_14 rfl ?_
    refine ev_get i_Md_remainder_15 h0 rfl ?_
    refine ev_iload_n i_Md_remainder_18 rfl ?_
    refine ev_ialdN i_Md_remainder_19 z1 hr (by decide) ?_
    rw [hsz]
    refine ev_if_ge_N i_Md_remainder_20 (by omega) (fun hc_20 => ?_) (fun hc_20 => ?_)
    · skip
      refine ev_iload_n i_Md_remainder_27 rfl ?_
      refine ev_iconstN (v := 0) i_Md_remainder_28 (by decide) ?_
      refine ev_aload_n i_Md_remainder_29 rfl ?_
      refine ev_get i_Md_remainder_30 h0 rfl ?_
      refine ev_iload_n i_Md_remainder_33 rfl ?_
      refine ev_ialdN i_Md_remainder_34 z1 hr (by decide) ?_
      rw [hsz]
      refine ev_iconstN (v := 1) i_Md_remainder_35 (by decide) ?_
      first | refine ev_isubN i_Md_remainder_36 (by omega) ?_ | refine ev_isub i_Md_remainder_36 ?_
      refine ev_callS3 i_Md_remainder_37 rfl (Nat.le_of_ble_eq_true rfl) (m_in.2 (fun w => hy ((inR_inB (n := (R row).1) (by omega) (by omega)).mpr w))) ?_
      refine ev_if_eqN i_Md_remainder_40 (by omega) (fun hc_40 => ?_) (fun hc_40 => ?_)
      · skip
        refine ev_iconstN (v := 3) i_Md_remainder_59 (by decide) ?_
        refine ev_goto i_Md_remainder_60 ?_
        refine ev_mput_thrown i_Md_remainder_84 h0 ?_
        refine ev_aload_n i_Md_remainder_87 rfl ?_
        refine ev_get i_Md_remainder_88 o1 rfl ?_
        refine ev_if_leN i_Md_remainder_91 (by omega) (fun hc_91 => ?_) (fun hc_91 => ?_)
        · skip
          exfalso; omega
        · skip
          refine ev_dconst0 i_Md_remainder_94 ?_
          exact ev_dret i_Md_remainder_95 rfl
      · skip
        exfalso; omega
    · skip
      exfalso; omega
  · skip
    exfalso; omega
theorem m_rem_3b {scr : Scr} {l : Launch} {S : Sto} {σ : Sg} {th : Nat} {R : Rows} {row : Nat} {y z : Int32} (h : MInv th σ S) (hR : RowM R S) (hr : row < 2) (hne : (R row).1 ≠ 0) (hy : inR (R row).1 y) (hz : ¬ inR (R row).1 z) : MRun scr l 3 M_Md_remainder [.ref 105, .int (nI row), .int y, .int z] S (some (.double FP.dconst0)) 3 σ := by
  obtain ⟨⟨gz, z1, z2⟩, ⟨fl, gb, b1, b2⟩, fe, e1, e2⟩ := id hR
  have hsz := z2 row hr
  rw [if_neg hne] at hsz
  have h122 := (b2 row hr).2.1
  refine MRun.th h (fun dr mo sc h0 d => ?_)
  have o1 : (S.put 105 (mO 3 σ dr mo sc)).1[105]? = _ := put_self h0
  refine MetA.of rfl (by decide +kernel) (Nat.le_of_ble_eq_true rfl) ?_
  refine ev_aload_n i_Md_remainder_0 rfl ?_
  refine ev_iload_n i_Md_remainder_1 rfl ?_
  refine ev_iconstN (v := 0) i_Md_remainder_2 (by decide) ?_
  refine ev_iconstN (v := 1) i_Md_remainder_3 (by decide) ?_
  refine ev_callS3 i_Md_remainder_4 rfl (Nat.le_of_ble_eq_true rfl) (m_in.1 ((inR_inB (n := 2) (by decide) (by decide)).mp (inR.of (by decide) hr))) ?_
  refine ev_if_neN i_Md_remainder_7 (by omega) (fun hc_7 => ?_) (fun hc_7 => ?_)
  · skip
    refine ev_aload_n i_Md_remainder_14 rfl ?_
    refine ev_get i_Md_remainder_15 h0 rfl ?_
    refine ev_iload_n i_Md_remainder_18 rfl ?_
    refine ev_ialdN i_Md_remainder_19 z1 hr (by decide) ?_
    rw [hsz]
    refine ev_if_ge_N i_Md_remainder_20 (by omega) (fun hc_20 => ?_) (fun hc_20 => ?_)
    · skip
      refine ev_iload_n i_Md_remainder_27 rfl ?_
      refine ev_iconstN (v := 0) i_Md_remainder_28 (by decide) ?_
      refine ev_aload_n i_Md_remainder_29 rfl ?_
      refine ev_get i_Md_remainder_30 h0 rfl ?_
      refine ev_iload_n i_Md_remainder_33 rfl ?_
      refine ev_ialdN i_Md_remainder_34 z1 hr (by decide) ?_
      rw [hsz]
      refine ev_iconstN (v := 1) i_Md_remainder_35 (by decide) ?_
      first | refine ev_isubN i_Md_remainder_36 (by omega) ?_ | refine ev_isub i_Md_remainder_36 ?_
      refine ev_callS3 i_Md_remainder_37 rfl (Nat.le_of_ble_eq_true rfl) (m_in.1 ((inR_inB (n := (R row).1) (by omega) (by omega)).mp hy)) ?_
      refine ev_if_eqN i_Md_remainder_40 (by omega) (fun hc_40 => ?_) (fun hc_40 => ?_)
      · skip
        exfalso; omega
      · skip
        refine ev_iload_n i_Md_remainder_43 rfl ?_
        refine ev_iconstN (v := 0) i_Md_remainder_44 (by decide) ?_
        refine ev_aload_n i_Md_remainder_45 rfl ?_
        refine ev_get i_Md_remainder_46 h0 rfl ?_
        refine ev_iload_n i_Md_remainder_49 rfl ?_
        refine ev_ialdN i_Md_remainder_50 z1 hr (by decide) ?_
        rw [hsz]
        refine ev_iconstN (v := 1) i_Md_remainder_51 (by decide) ?_
        first | refine ev_isubN i_Md_remainder_52 (by omega) ?_ | refine ev_isub i_Md_remainder_52 ?_
        refine ev_callS3 i_Md_remainder_53 rfl (Nat.le_of_ble_eq_true rfl) (m_in.2 (fun w => hz ((inR_inB (n := (R row).1) (by omega) (by omega)).mpr w))) ?_
        refine ev_if_neN i_Md_remainder_56 (by omega) (fun hc_56 => ?_) (fun hc_56 => ?_)
        · skip
          exfalso; omega
        · skip
          refine ev_iconstN (v := 3) i_Md_remainder_59 (by decide) ?_
          refine ev_goto i_Md_remainder_60 ?_
          refine ev_mput_thrown i_Md_remainder_84 h0 ?_
          refine ev_aload_n i_Md_remainder_87 rfl ?_
          refine ev_get i_Md_remainder_88 o1 rfl ?_
          refine ev_if_leN i_Md_remainder_91 (by omega) (fun hc_91 => ?_) (fun hc_91 => ?_)
          · skip
            exfalso; omega
          · skip
            refine ev_dconst0 i_Md_remainder_94 ?_
            exact ev_dret i_Md_remainder_95 rfl
    · skip
      exfalso; omega
  · skip
    exfalso; omega
theorem m_rem_4 {scr : Scr} {l : Launch} {S : Sto} {σ : Sg} {th : Nat} {R : Rows} {row i j : Nat} {ka kb : Int} (h : MInv th σ S) (hR : RowM R S) (hr : row < 2) (hi : i < (R row).1) (hj : j < (R row).1) (da : DV ((R row).2 i) ka) (db : DV ((R row).2 j) kb) (hb : kb = 0) : MRun scr l 3 M_Md_remainder [.ref 105, .int (nI row), .int (nI i), .int (nI j)] S (some (.double FP.dconst0)) 4 σ := by
  obtain ⟨⟨gz, z1, z2⟩, ⟨fl, gb, b1, b2⟩, fe, e1, e2⟩ := id hR
  have hsz := z2 row hr
  rw [if_neg (by omega)] at hsz
  have h122 := (b2 row hr).2.1
  refine MRun.th h (fun dr mo sc h0 d => ?_)
  have o1 : (S.put 105 (mO 4 σ dr mo sc)).1[105]? = _ := put_self h0
  refine MetA.of rfl (by decide +kernel) (Nat.le_of_ble_eq_true rfl) ?_
  refine ev_aload_n i_Md_remainder_0 rfl ?_
  refine ev_iload_n i_Md_remainder_1 rfl ?_
  refine ev_iconstN (v := 0) i_Md_remainder_2 (by decide) ?_
  refine ev_iconstN (v := 1) i_Md_remainder_3 (by decide) ?_
  refine ev_callS3 i_Md_remainder_4 rfl (Nat.le_of_ble_eq_true rfl) (m_in.1 ((inR_inB (n := 2) (by decide) (by decide)).mp (inR.of (by decide) hr))) ?_
  refine ev_if_neN i_Md_remainder_7 (by omega) (fun hc_7 => ?_) (fun hc_7 => ?_)
  · skip
    refine ev_aload_n i_Md_remainder_14 rfl ?_
    refine ev_get i_Md_remainder_15 h0 rfl ?_
    refine ev_iload_n i_Md_remainder_18 rfl ?_
    refine ev_ialdN i_Md_remainder_19 z1 hr (by decide) ?_
    rw [hsz]
    refine ev_if_ge_N i_Md_remainder_20 (by omega) (fun hc_20 => ?_) (fun hc_20 => ?_)
    · skip
      refine ev_iload_n i_Md_remainder_27 rfl ?_
      refine ev_iconstN (v := 0) i_Md_remainder_28 (by decide) ?_
      refine ev_aload_n i_Md_remainder_29 rfl ?_
      refine ev_get i_Md_remainder_30 h0 rfl ?_
      refine ev_iload_n i_Md_remainder_33 rfl ?_
      refine ev_ialdN i_Md_remainder_34 z1 hr (by decide) ?_
      rw [hsz]
      refine ev_iconstN (v := 1) i_Md_remainder_35 (by decide) ?_
      first | refine ev_isubN i_Md_remainder_36 (by omega) ?_ | refine ev_isub i_Md_remainder_36 ?_
      refine ev_callS3 i_Md_remainder_37 rfl (Nat.le_of_ble_eq_true rfl) (m_in.1 ((inR_inB (n := (R row).1) (by omega) (by omega)).mp (inR.of (by omega) hi))) ?_
      refine ev_if_eqN i_Md_remainder_40 (by omega) (fun hc_40 => ?_) (fun hc_40 => ?_)
      · skip
        exfalso; omega
      · skip
        refine ev_iload_n i_Md_remainder_43 rfl ?_
        refine ev_iconstN (v := 0) i_Md_remainder_44 (by decide) ?_
        refine ev_aload_n i_Md_remainder_45 rfl ?_
        refine ev_get i_Md_remainder_46 h0 rfl ?_
        refine ev_iload_n i_Md_remainder_49 rfl ?_
        refine ev_ialdN i_Md_remainder_50 z1 hr (by decide) ?_
        rw [hsz]
        refine ev_iconstN (v := 1) i_Md_remainder_51 (by decide) ?_
        first | refine ev_isubN i_Md_remainder_52 (by omega) ?_ | refine ev_isub i_Md_remainder_52 ?_
        refine ev_callS3 i_Md_remainder_53 rfl (Nat.le_of_ble_eq_true rfl) (m_in.1 ((inR_inB (n := (R row).1) (by omega) (by omega)).mp (inR.of (by omega) hj))) ?_
        refine ev_if_neN i_Md_remainder_56 (by omega) (fun hc_56 => ?_) (fun hc_56 => ?_)
        · skip
          refine ev_aload_n i_Md_remainder_63 rfl ?_
          refine ev_get i_Md_remainder_64 h0 rfl ?_
          refine ev_bipushN (v := 122) i_Md_remainder_67 (by decide) ?_
          refine ev_iload_n i_Md_remainder_69 rfl ?_
          first | refine ev_imulN i_Md_remainder_70 ?_ | refine ev_imul i_Md_remainder_70 ?_
          refine ev_iload_n i_Md_remainder_71 rfl ?_
          first | refine ev_iaddN i_Md_remainder_72 ?_ | refine ev_iadd i_Md_remainder_72 ?_
          refine ev_daldN i_Md_remainder_73 e1 (by omega) (by decide) ?_
          rw [e2 row hr j hj]
          refine ev_dconst0 i_Md_remainder_74 ?_
          refine ev_dne i_Md_remainder_75 i_Md_remainder_76 (fun q => ?_) (fun q => ?_)
          · have w := (deq_iff db DV.zero).mpr hb
            rw [q] at w; cases w
          refine ev_iconstN (v := 4) i_Md_remainder_79 (by decide) ?_
          refine ev_goto i_Md_remainder_80 ?_
          refine ev_mput_thrown i_Md_remainder_84 h0 ?_
          refine ev_aload_n i_Md_remainder_87 rfl ?_
          refine ev_get i_Md_remainder_88 o1 rfl ?_
          refine ev_if_leN i_Md_remainder_91 (by omega) (fun hc_91 => ?_) (fun hc_91 => ?_)
          · skip
            exfalso; omega
          · skip
            refine ev_dconst0 i_Md_remainder_94 ?_
            exact ev_dret i_Md_remainder_95 rfl
        · skip
          exfalso; omega
    · skip
      exfalso; omega
  · skip
    exfalso; omega
theorem m_rem {scr : Scr} {l : Launch} {S : Sto} {σ : Sg} {th : Nat} {R : Rows} {row i j : Nat} {ka kb : Int} (h : MInv th σ S) (hR : RowM R S) (hr : row < 2) (hi : i < (R row).1) (hj : j < (R row).1) (da : DV ((R row).2 i) ka) (db : DV ((R row).2 j) kb) (hb : kb ≠ 0) : ∃ z, DV z (ka.tmod kb) ∧ MRun scr l 3 M_Md_remainder [.ref 105, .int (nI row), .int (nI i), .int (nI j)] S (some (.double z)) 0 σ := by
  obtain ⟨⟨gz, z1, z2⟩, ⟨fl, gb, b1, b2⟩, fe, e1, e2⟩ := id hR
  have hsz := z2 row hr
  rw [if_neg (by omega)] at hsz
  have h122 := (b2 row hr).2.1
  obtain ⟨ka', da', ba, ra⟩ := (b2 row hr).2.2 i hi
  obtain ⟨kb', db', bb, rb⟩ := (b2 row hr).2.2 j hj
  rw [← da.uniq da'] at ba ra
  rw [← db.uniq db'] at bb rb
  cases hf : fl row with
  | true =>
    have fa := da.toF (ra hf)
    have fb := db.toF (rb hf)
    have fr := fa.rem fb hb
    have hm : (ka.tmod kb).natAbs ≤ 2 ^ 28 := by
      rw [Int.natAbs_tmod]
      have := Nat.mod_le ka.natAbs kb.natAbs
      omega
    have fd := fr.toD hm
    refine ⟨_, fd, MRun.th h (fun dr mo sc h0 d => ?_)⟩
    have o1 : (S.put 105 (mO 0 σ dr mo sc)).1[105]? = _ := put_self h0
    have E1 : (S.put 105 (mO 0 σ dr mo sc)).1[133]? = _ := put_at e1 (by decide)
    have B1 : (S.put 105 (mO 0 σ dr mo sc)).1[132]? = _ := put_at b1 (by decide)
    refine MetA.of rfl (by decide +kernel) (Nat.le_of_ble_eq_true rfl) ?_
    refine ev_aload_n i_Md_remainder_0 rfl ?_
    refine ev_iload_n i_Md_remainder_1 rfl ?_
    refine ev_iconstN (v := 0) i_Md_remainder_2 (by decide) ?_
    refine ev_iconstN (v := 1) i_Md_remainder_3 (by decide) ?_
    refine ev_callS3 i_Md_remainder_4 rfl (Nat.le_of_ble_eq_true rfl) (m_in.1 ((inR_inB (n := 2) (by decide) (by decide)).mp (inR.of (by decide) hr))) ?_
    refine ev_if_neN i_Md_remainder_7 (by omega) (fun hc_7 => ?_) (fun hc_7 => ?_)
    · skip
      refine ev_aload_n i_Md_remainder_14 rfl ?_
      refine ev_get i_Md_remainder_15 h0 rfl ?_
      refine ev_iload_n i_Md_remainder_18 rfl ?_
      refine ev_ialdN i_Md_remainder_19 z1 hr (by decide) ?_
      rw [hsz]
      refine ev_if_ge_N i_Md_remainder_20 (by omega) (fun hc_20 => ?_) (fun hc_20 => ?_)
      · skip
        refine ev_iload_n i_Md_remainder_27 rfl ?_
        refine ev_iconstN (v := 0) i_Md_remainder_28 (by decide) ?_
        refine ev_aload_n i_Md_remainder_29 rfl ?_
        refine ev_get i_Md_remainder_30 h0 rfl ?_
        refine ev_iload_n i_Md_remainder_33 rfl ?_
        refine ev_ialdN i_Md_remainder_34 z1 hr (by decide) ?_
        rw [hsz]
        refine ev_iconstN (v := 1) i_Md_remainder_35 (by decide) ?_
        first | refine ev_isubN i_Md_remainder_36 (by omega) ?_ | refine ev_isub i_Md_remainder_36 ?_
        refine ev_callS3 i_Md_remainder_37 rfl (Nat.le_of_ble_eq_true rfl) (m_in.1 ((inR_inB (n := (R row).1) (by omega) (by omega)).mp (inR.of (by omega) hi))) ?_
        refine ev_if_eqN i_Md_remainder_40 (by omega) (fun hc_40 => ?_) (fun hc_40 => ?_)
        · skip
          exfalso; omega
        · skip
          refine ev_iload_n i_Md_remainder_43 rfl ?_
          refine ev_iconstN (v := 0) i_Md_remainder_44 (by decide) ?_
          refine ev_aload_n i_Md_remainder_45 rfl ?_
          refine ev_get i_Md_remainder_46 h0 rfl ?_
          refine ev_iload_n i_Md_remainder_49 rfl ?_
          refine ev_ialdN i_Md_remainder_50 z1 hr (by decide) ?_
          rw [hsz]
          refine ev_iconstN (v := 1) i_Md_remainder_51 (by decide) ?_
          first | refine ev_isubN i_Md_remainder_52 (by omega) ?_ | refine ev_isub i_Md_remainder_52 ?_
          refine ev_callS3 i_Md_remainder_53 rfl (Nat.le_of_ble_eq_true rfl) (m_in.1 ((inR_inB (n := (R row).1) (by omega) (by omega)).mp (inR.of (by omega) hj))) ?_
          refine ev_if_neN i_Md_remainder_56 (by omega) (fun hc_56 => ?_) (fun hc_56 => ?_)
          · skip
            refine ev_aload_n i_Md_remainder_63 rfl ?_
            refine ev_get i_Md_remainder_64 h0 rfl ?_
            refine ev_bipushN (v := 122) i_Md_remainder_67 (by decide) ?_
            refine ev_iload_n i_Md_remainder_69 rfl ?_
            first | refine ev_imulN i_Md_remainder_70 ?_ | refine ev_imul i_Md_remainder_70 ?_
            refine ev_iload_n i_Md_remainder_71 rfl ?_
            first | refine ev_iaddN i_Md_remainder_72 ?_ | refine ev_iadd i_Md_remainder_72 ?_
            refine ev_daldN i_Md_remainder_73 e1 (by omega) (by decide) ?_
            rw [e2 row hr j hj]
            refine ev_dconst0 i_Md_remainder_74 ?_
            refine ev_dne i_Md_remainder_75 i_Md_remainder_76 (fun q => ?_) (fun q => absurd ((deq_iff db DV.zero).mp q) hb)
            refine ev_iconstN (v := 0) i_Md_remainder_83 (by decide) ?_
            refine ev_mput_thrown i_Md_remainder_84 h0 ?_
            refine ev_aload_n i_Md_remainder_87 rfl ?_
            refine ev_get i_Md_remainder_88 o1 rfl ?_
            refine ev_if_leN i_Md_remainder_91 (by omega) (fun hc_91 => ?_) (fun hc_91 => ?_)
            · skip
              refine ev_aload_n i_Md_remainder_96 rfl ?_
              refine ev_get i_Md_remainder_97 o1 rfl ?_
              refine ev_bipushN (v := 122) i_Md_remainder_100 (by decide) ?_
              refine ev_iload_n i_Md_remainder_102 rfl ?_
              first | refine ev_imulN i_Md_remainder_103 ?_ | refine ev_imul i_Md_remainder_103 ?_
              refine ev_iload_n i_Md_remainder_104 rfl ?_
              first | refine ev_iaddN i_Md_remainder_105 ?_ | refine ev_iadd i_Md_remainder_105 ?_
              refine ev_daldN i_Md_remainder_106 E1 (by omega) (by decide) ?_
              rw [e2 row hr i hi]
              refine ev_dst_4 i_Md_remainder_107 rfl ?_
              refine ev_aload_n i_Md_remainder_109 rfl ?_
              refine ev_get i_Md_remainder_110 o1 rfl ?_
              refine ev_bipushN (v := 122) i_Md_remainder_113 (by decide) ?_
              refine ev_iload_n i_Md_remainder_115 rfl ?_
              first | refine ev_imulN i_Md_remainder_116 ?_ | refine ev_imul i_Md_remainder_116 ?_
              refine ev_iload_n i_Md_remainder_117 rfl ?_
              first | refine ev_iaddN i_Md_remainder_118 ?_ | refine ev_iadd i_Md_remainder_118 ?_
              refine ev_daldN i_Md_remainder_119 E1 (by omega) (by decide) ?_
              rw [e2 row hr j hj]
              refine ev_dst_6 i_Md_remainder_120 rfl ?_
              refine ev_aload_n i_Md_remainder_122 rfl ?_
              refine ev_get i_Md_remainder_123 o1 rfl ?_
              refine ev_iload_n i_Md_remainder_126 rfl ?_
              refine ev_zaldN i_Md_remainder_127 B1 hr (by decide) ?_
              rw [(b2 row hr).1, hf, show bI true = 1 from rfl]
              refine ev_if_eqN i_Md_remainder_128 (by omega) (fun hc_128 => ?_) (fun hc_128 => ?_)
              · skip
                exfalso; omega
              · skip
                refine ev_dload i_Md_remainder_131 rfl ?_
                refine ev_d2f i_Md_remainder_133 fa.n32 ?_
                refine ev_dload i_Md_remainder_134 rfl ?_
                refine ev_d2f i_Md_remainder_136 fb.n32 ?_
                refine ev_frem i_Md_remainder_137 fr.n32 ?_
                refine ev_f2d i_Md_remainder_138 fd.n64 ?_
                refine ev_goto i_Md_remainder_139 ?_
                exact ev_dret i_Md_remainder_147 rfl
            · skip
              exfalso; omega
          · skip
            exfalso; omega
      · skip
        exfalso; omega
    · skip
      exfalso; omega
  | false =>
    have dd := da.rem db hb (by omega)
    refine ⟨_, dd, MRun.th h (fun dr mo sc h0 d => ?_)⟩
    have o1 : (S.put 105 (mO 0 σ dr mo sc)).1[105]? = _ := put_self h0
    have E1 : (S.put 105 (mO 0 σ dr mo sc)).1[133]? = _ := put_at e1 (by decide)
    have B1 : (S.put 105 (mO 0 σ dr mo sc)).1[132]? = _ := put_at b1 (by decide)
    refine MetA.of rfl (by decide +kernel) (Nat.le_of_ble_eq_true rfl) ?_
    refine ev_aload_n i_Md_remainder_0 rfl ?_
    refine ev_iload_n i_Md_remainder_1 rfl ?_
    refine ev_iconstN (v := 0) i_Md_remainder_2 (by decide) ?_
    refine ev_iconstN (v := 1) i_Md_remainder_3 (by decide) ?_
    refine ev_callS3 i_Md_remainder_4 rfl (Nat.le_of_ble_eq_true rfl) (m_in.1 ((inR_inB (n := 2) (by decide) (by decide)).mp (inR.of (by decide) hr))) ?_
    refine ev_if_neN i_Md_remainder_7 (by omega) (fun hc_7 => ?_) (fun hc_7 => ?_)
    · skip
      refine ev_aload_n i_Md_remainder_14 rfl ?_
      refine ev_get i_Md_remainder_15 h0 rfl ?_
      refine ev_iload_n i_Md_remainder_18 rfl ?_
      refine ev_ialdN i_Md_remainder_19 z1 hr (by decide) ?_
      rw [hsz]
      refine ev_if_ge_N i_Md_remainder_20 (by omega) (fun hc_20 => ?_) (fun hc_20 => ?_)
      · skip
        refine ev_iload_n i_Md_remainder_27 rfl ?_
        refine ev_iconstN (v := 0) i_Md_remainder_28 (by decide) ?_
        refine ev_aload_n i_Md_remainder_29 rfl ?_
        refine ev_get i_Md_remainder_30 h0 rfl ?_
        refine ev_iload_n i_Md_remainder_33 rfl ?_
        refine ev_ialdN i_Md_remainder_34 z1 hr (by decide) ?_
        rw [hsz]
        refine ev_iconstN (v := 1) i_Md_remainder_35 (by decide) ?_
        first | refine ev_isubN i_Md_remainder_36 (by omega) ?_ | refine ev_isub i_Md_remainder_36 ?_
        refine ev_callS3 i_Md_remainder_37 rfl (Nat.le_of_ble_eq_true rfl) (m_in.1 ((inR_inB (n := (R row).1) (by omega) (by omega)).mp (inR.of (by omega) hi))) ?_
        refine ev_if_eqN i_Md_remainder_40 (by omega) (fun hc_40 => ?_) (fun hc_40 => ?_)
        · skip
          exfalso; omega
        · skip
          refine ev_iload_n i_Md_remainder_43 rfl ?_
          refine ev_iconstN (v := 0) i_Md_remainder_44 (by decide) ?_
          refine ev_aload_n i_Md_remainder_45 rfl ?_
          refine ev_get i_Md_remainder_46 h0 rfl ?_
          refine ev_iload_n i_Md_remainder_49 rfl ?_
          refine ev_ialdN i_Md_remainder_50 z1 hr (by decide) ?_
          rw [hsz]
          refine ev_iconstN (v := 1) i_Md_remainder_51 (by decide) ?_
          first | refine ev_isubN i_Md_remainder_52 (by omega) ?_ | refine ev_isub i_Md_remainder_52 ?_
          refine ev_callS3 i_Md_remainder_53 rfl (Nat.le_of_ble_eq_true rfl) (m_in.1 ((inR_inB (n := (R row).1) (by omega) (by omega)).mp (inR.of (by omega) hj))) ?_
          refine ev_if_neN i_Md_remainder_56 (by omega) (fun hc_56 => ?_) (fun hc_56 => ?_)
          · skip
            refine ev_aload_n i_Md_remainder_63 rfl ?_
            refine ev_get i_Md_remainder_64 h0 rfl ?_
            refine ev_bipushN (v := 122) i_Md_remainder_67 (by decide) ?_
            refine ev_iload_n i_Md_remainder_69 rfl ?_
            first | refine ev_imulN i_Md_remainder_70 ?_ | refine ev_imul i_Md_remainder_70 ?_
            refine ev_iload_n i_Md_remainder_71 rfl ?_
            first | refine ev_iaddN i_Md_remainder_72 ?_ | refine ev_iadd i_Md_remainder_72 ?_
            refine ev_daldN i_Md_remainder_73 e1 (by omega) (by decide) ?_
            rw [e2 row hr j hj]
            refine ev_dconst0 i_Md_remainder_74 ?_
            refine ev_dne i_Md_remainder_75 i_Md_remainder_76 (fun q => ?_) (fun q => absurd ((deq_iff db DV.zero).mp q) hb)
            refine ev_iconstN (v := 0) i_Md_remainder_83 (by decide) ?_
            refine ev_mput_thrown i_Md_remainder_84 h0 ?_
            refine ev_aload_n i_Md_remainder_87 rfl ?_
            refine ev_get i_Md_remainder_88 o1 rfl ?_
            refine ev_if_leN i_Md_remainder_91 (by omega) (fun hc_91 => ?_) (fun hc_91 => ?_)
            · skip
              refine ev_aload_n i_Md_remainder_96 rfl ?_
              refine ev_get i_Md_remainder_97 o1 rfl ?_
              refine ev_bipushN (v := 122) i_Md_remainder_100 (by decide) ?_
              refine ev_iload_n i_Md_remainder_102 rfl ?_
              first | refine ev_imulN i_Md_remainder_103 ?_ | refine ev_imul i_Md_remainder_103 ?_
              refine ev_iload_n i_Md_remainder_104 rfl ?_
              first | refine ev_iaddN i_Md_remainder_105 ?_ | refine ev_iadd i_Md_remainder_105 ?_
              refine ev_daldN i_Md_remainder_106 E1 (by omega) (by decide) ?_
              rw [e2 row hr i hi]
              refine ev_dst_4 i_Md_remainder_107 rfl ?_
              refine ev_aload_n i_Md_remainder_109 rfl ?_
              refine ev_get i_Md_remainder_110 o1 rfl ?_
              refine ev_bipushN (v := 122) i_Md_remainder_113 (by decide) ?_
              refine ev_iload_n i_Md_remainder_115 rfl ?_
              first | refine ev_imulN i_Md_remainder_116 ?_ | refine ev_imul i_Md_remainder_116 ?_
              refine ev_iload_n i_Md_remainder_117 rfl ?_
              first | refine ev_iaddN i_Md_remainder_118 ?_ | refine ev_iadd i_Md_remainder_118 ?_
              refine ev_daldN i_Md_remainder_119 E1 (by omega) (by decide) ?_
              rw [e2 row hr j hj]
              refine ev_dst_6 i_Md_remainder_120 rfl ?_
              refine ev_aload_n i_Md_remainder_122 rfl ?_
              refine ev_get i_Md_remainder_123 o1 rfl ?_
              refine ev_iload_n i_Md_remainder_126 rfl ?_
              refine ev_zaldN i_Md_remainder_127 B1 hr (by decide) ?_
              rw [(b2 row hr).1, hf, show bI false = 0 from rfl]
              refine ev_if_eqN i_Md_remainder_128 (by omega) (fun hc_128 => ?_) (fun hc_128 => ?_)
              · skip
                refine ev_dload i_Md_remainder_142 rfl ?_
                refine ev_dload i_Md_remainder_144 rfl ?_
                refine ev_drem i_Md_remainder_146 dd.n64 ?_
                exact ev_dret i_Md_remainder_147 rfl
              · skip
                exfalso; omega
            · skip
              exfalso; omega
          · skip
            exfalso; omega
      · skip
        exfalso; omega
    · skip
      exfalso; omega

/-! instructions: by program (wip/whole/gen12.py) -/
theorem i_Wd_init_0 : iIns M_Wd_init 0 (.aload_n 0) 1 := (by decide +kernel : decode prog_12_method_1_code 0 = .ok (.aload_n 0, 1))
theorem i_Wd_init_1 : iObjI M_Wd_init 1 := ⟨3, (by decide +kernel : decode prog_12_method_1_code 1 = .ok (.invokespecial 3, 3)), lw_k1 101 rfl rfl⟩
theorem i_Wd_init_4 : iIns M_Wd_init 4 (.aload_n 0) 1 := (by decide +kernel : decode prog_12_method_1_code 4 = .ok (.aload_n 0, 1))
theorem i_Wd_init_5 : iIns M_Wd_init 5 (.bipush 60) 2 := (by decide +kernel : decode prog_12_method_1_code 5 = .ok (.bipush 60, 2))
theorem i_Wd_init_7 : iNewA M_Wd_init 7 .int := ⟨(by decide +kernel : decode prog_12_method_1_code 7 = .ok (.newarray .int, 2)), lw_k1 95 rfl rfl⟩
theorem i_Wd_init_9 : iPutF M_Wd_init 9 12 0 (.array .int) := ⟨9, (by decide +kernel : decode prog_12_method_1_code 9 = .ok (.putfield 9, 3)), pf_Wd_Wd_letters, rfl⟩
theorem i_Wd_init_12 : iIns M_Wd_init 12 .return_ 1 := (by decide +kernel : decode prog_12_method_1_code 12 = .ok (.return_, 1))
theorem i_Wd_sameAs_0 : iIns M_Wd_sameAs 0 (.aload_n 0) 1 := (by decide +kernel : decode prog_12_method_5_code 0 = .ok (.aload_n 0, 1))
theorem i_Wd_sameAs_1 : iGet M_Wd_sameAs 1 12 1 := ⟨15, (by decide +kernel : decode prog_12_method_5_code 1 = .ok (.getfield 15, 3)), fl_Wd_Wd_length⟩
theorem i_Wd_sameAs_4 : iIns M_Wd_sameAs 4 (.aload_n 1) 1 := (by decide +kernel : decode prog_12_method_5_code 4 = .ok (.aload_n 1, 1))
theorem i_Wd_sameAs_5 : iGet M_Wd_sameAs 5 12 1 := ⟨15, (by decide +kernel : decode prog_12_method_5_code 5 = .ok (.getfield 15, 3)), fl_Wd_Wd_length⟩
theorem i_Wd_sameAs_8 : iIcmp M_Wd_sameAs 8 .ne 23 := ⟨15, (by decide +kernel : decode prog_12_method_5_code 8 = .ok (.if_icmp .ne (15), 3)), by decide⟩
theorem i_Wd_sameAs_11 : iIns M_Wd_sameAs 11 (.aload_n 0) 1 := (by decide +kernel : decode prog_12_method_5_code 11 = .ok (.aload_n 0, 1))
theorem i_Wd_sameAs_12 : iIns M_Wd_sameAs 12 (.aload_n 1) 1 := (by decide +kernel : decode prog_12_method_5_code 12 = .ok (.aload_n 1, 1))
theorem i_Wd_sameAs_13 : iCallV M_Wd_sameAs 13 M_Wd_agreesWith 1 12 := ⟨⟨36, (by decide +kernel : decode prog_12_method_5_code 13 = .ok (.invokevirtual 36, 3)), lw_k2 150 rfl rfl⟩, vm_Wd_agreesWith, me_Wd_agreesWith, pn_Wd_agreesWith⟩
theorem i_Wd_sameAs_16 : iIf M_Wd_sameAs 16 .eq 23 := ⟨7, (by decide +kernel : decode prog_12_method_5_code 16 = .ok (.ifCond .eq (7), 3)), by decide⟩
theorem i_Wd_sameAs_19 : iIns M_Wd_sameAs 19 (.iconst 1) 1 := (by decide +kernel : decode prog_12_method_5_code 19 = .ok (.iconst 1, 1))
theorem i_Wd_sameAs_20 : iGoto M_Wd_sameAs 20 24 := ⟨4, (by decide +kernel : decode prog_12_method_5_code 20 = .ok (.goto (4), 3)), by decide⟩
theorem i_Wd_sameAs_23 : iIns M_Wd_sameAs 23 (.iconst 0) 1 := (by decide +kernel : decode prog_12_method_5_code 23 = .ok (.iconst 0, 1))
theorem i_Wd_sameAs_24 : iIns M_Wd_sameAs 24 .ireturn 1 := (by decide +kernel : decode prog_12_method_5_code 24 = .ok (.ireturn, 1))
theorem i_Wd_agreesWith_0 : iIns M_Wd_agreesWith 0 (.aload_n 0) 1 := (by decide +kernel : decode prog_12_method_6_code 0 = .ok (.aload_n 0, 1))
theorem i_Wd_agreesWith_1 : iGet M_Wd_agreesWith 1 12 1 := ⟨15, (by decide +kernel : decode prog_12_method_6_code 1 = .ok (.getfield 15, 3)), fl_Wd_Wd_length⟩
theorem i_Wd_agreesWith_4 : iIns M_Wd_agreesWith 4 (.aload_n 1) 1 := (by decide +kernel : decode prog_12_method_6_code 4 = .ok (.aload_n 1, 1))
theorem i_Wd_agreesWith_5 : iGet M_Wd_agreesWith 5 12 1 := ⟨15, (by decide +kernel : decode prog_12_method_6_code 5 = .ok (.getfield 15, 3)), fl_Wd_Wd_length⟩
theorem i_Wd_agreesWith_8 : iCallS M_Wd_agreesWith 8 M_Ma_minI 2 := ⟨⟨40, (by decide +kernel : decode prog_12_method_6_code 8 = .ok (.invokestatic 40, 3)), lw_k2 154 rfl rfl⟩, sm_Ma_minI, me_Ma_minI, pn_Ma_minI⟩
theorem i_Wd_agreesWith_11 : iIns M_Wd_agreesWith 11 (.istore_n 2) 1 := (by decide +kernel : decode prog_12_method_6_code 11 = .ok (.istore_n 2, 1))
theorem i_Wd_agreesWith_12 : iIns M_Wd_agreesWith 12 (.iconst 0) 1 := (by decide +kernel : decode prog_12_method_6_code 12 = .ok (.iconst 0, 1))
theorem i_Wd_agreesWith_13 : iIns M_Wd_agreesWith 13 (.istore_n 3) 1 := (by decide +kernel : decode prog_12_method_6_code 13 = .ok (.istore_n 3, 1))
theorem i_Wd_agreesWith_14 : iIns M_Wd_agreesWith 14 (.iload_n 3) 1 := (by decide +kernel : decode prog_12_method_6_code 14 = .ok (.iload_n 3, 1))
theorem i_Wd_agreesWith_15 : iIns M_Wd_agreesWith 15 (.iload_n 2) 1 := (by decide +kernel : decode prog_12_method_6_code 15 = .ok (.iload_n 2, 1))
theorem i_Wd_agreesWith_16 : iIcmp M_Wd_agreesWith 16 .ge 42 := ⟨26, (by decide +kernel : decode prog_12_method_6_code 16 = .ok (.if_icmp .ge (26), 3)), by decide⟩
theorem i_Wd_agreesWith_19 : iIns M_Wd_agreesWith 19 (.aload_n 0) 1 := (by decide +kernel : decode prog_12_method_6_code 19 = .ok (.aload_n 0, 1))
theorem i_Wd_agreesWith_20 : iGet M_Wd_agreesWith 20 12 0 := ⟨9, (by decide +kernel : decode prog_12_method_6_code 20 = .ok (.getfield 9, 3)), fl_Wd_Wd_letters⟩
theorem i_Wd_agreesWith_23 : iIns M_Wd_agreesWith 23 (.iload_n 3) 1 := (by decide +kernel : decode prog_12_method_6_code 23 = .ok (.iload_n 3, 1))
theorem i_Wd_agreesWith_24 : iIns M_Wd_agreesWith 24 .iaload 1 := (by decide +kernel : decode prog_12_method_6_code 24 = .ok (.iaload, 1))
theorem i_Wd_agreesWith_25 : iIns M_Wd_agreesWith 25 (.aload_n 1) 1 := (by decide +kernel : decode prog_12_method_6_code 25 = .ok (.aload_n 1, 1))
theorem i_Wd_agreesWith_26 : iGet M_Wd_agreesWith 26 12 0 := ⟨9, (by decide +kernel : decode prog_12_method_6_code 26 = .ok (.getfield 9, 3)), fl_Wd_Wd_letters⟩
theorem i_Wd_agreesWith_29 : iIns M_Wd_agreesWith 29 (.iload_n 3) 1 := (by decide +kernel : decode prog_12_method_6_code 29 = .ok (.iload_n 3, 1))
theorem i_Wd_agreesWith_30 : iIns M_Wd_agreesWith 30 .iaload 1 := (by decide +kernel : decode prog_12_method_6_code 30 = .ok (.iaload, 1))
theorem i_Wd_agreesWith_31 : iIcmp M_Wd_agreesWith 31 .eq 36 := ⟨5, (by decide +kernel : decode prog_12_method_6_code 31 = .ok (.if_icmp .eq (5), 3)), by decide⟩
theorem i_Wd_agreesWith_34 : iIns M_Wd_agreesWith 34 (.iconst 0) 1 := (by decide +kernel : decode prog_12_method_6_code 34 = .ok (.iconst 0, 1))
theorem i_Wd_agreesWith_35 : iIns M_Wd_agreesWith 35 .ireturn 1 := (by decide +kernel : decode prog_12_method_6_code 35 = .ok (.ireturn, 1))
theorem i_Wd_agreesWith_36 : iIns M_Wd_agreesWith 36 (.iinc 3 (1)) 3 := (by decide +kernel : decode prog_12_method_6_code 36 = .ok (.iinc 3 (1), 3))
theorem i_Wd_agreesWith_39 : iGoto M_Wd_agreesWith 39 14 := ⟨-25, (by decide +kernel : decode prog_12_method_6_code 39 = .ok (.goto (-25), 3)), by decide⟩
theorem i_Wd_agreesWith_42 : iIns M_Wd_agreesWith 42 (.iconst 1) 1 := (by decide +kernel : decode prog_12_method_6_code 42 = .ok (.iconst 1, 1))
theorem i_Wd_agreesWith_43 : iIns M_Wd_agreesWith 43 .ireturn 1 := (by decide +kernel : decode prog_12_method_6_code 43 = .ok (.ireturn, 1))
theorem i_Wd_copy_0 : iIns M_Wd_copy 0 (.aload_n 1) 1 := (by decide +kernel : decode prog_12_method_4_code 0 = .ok (.aload_n 1, 1))
theorem i_Wd_copy_1 : iGet M_Wd_copy 1 12 0 := ⟨9, (by decide +kernel : decode prog_12_method_4_code 1 = .ok (.getfield 9, 3)), fl_Wd_Wd_letters⟩
theorem i_Wd_copy_4 : iIns M_Wd_copy 4 (.iconst 0) 1 := (by decide +kernel : decode prog_12_method_4_code 4 = .ok (.iconst 0, 1))
theorem i_Wd_copy_5 : iIns M_Wd_copy 5 (.aload_n 0) 1 := (by decide +kernel : decode prog_12_method_4_code 5 = .ok (.aload_n 0, 1))
theorem i_Wd_copy_6 : iGet M_Wd_copy 6 12 0 := ⟨9, (by decide +kernel : decode prog_12_method_4_code 6 = .ok (.getfield 9, 3)), fl_Wd_Wd_letters⟩
theorem i_Wd_copy_9 : iIns M_Wd_copy 9 (.iconst 0) 1 := (by decide +kernel : decode prog_12_method_4_code 9 = .ok (.iconst 0, 1))
theorem i_Wd_copy_10 : iIns M_Wd_copy 10 (.aload_n 1) 1 := (by decide +kernel : decode prog_12_method_4_code 10 = .ok (.aload_n 1, 1))
theorem i_Wd_copy_11 : iGet M_Wd_copy 11 12 1 := ⟨15, (by decide +kernel : decode prog_12_method_4_code 11 = .ok (.getfield 15, 3)), fl_Wd_Wd_length⟩
theorem i_Wd_copy_14 : iCpy M_Wd_copy 14 := ⟨30, (by decide +kernel : decode prog_12_method_4_code 14 = .ok (.invokestatic 30, 3)), lw_k2 169 rfl rfl⟩
theorem i_Wd_copy_17 : iIns M_Wd_copy 17 (.aload_n 0) 1 := (by decide +kernel : decode prog_12_method_4_code 17 = .ok (.aload_n 0, 1))
theorem i_Wd_copy_18 : iIns M_Wd_copy 18 (.aload_n 1) 1 := (by decide +kernel : decode prog_12_method_4_code 18 = .ok (.aload_n 1, 1))
theorem i_Wd_copy_19 : iGet M_Wd_copy 19 12 1 := ⟨15, (by decide +kernel : decode prog_12_method_4_code 19 = .ok (.getfield 15, 3)), fl_Wd_Wd_length⟩
theorem i_Wd_copy_22 : iPutX M_Wd_copy 22 12 1 .int := ⟨15, (by decide +kernel : decode prog_12_method_4_code 22 = .ok (.putfield 15, 3)), px_Wd_Wd_length⟩
theorem i_Wd_copy_25 : iIns M_Wd_copy 25 .return_ 1 := (by decide +kernel : decode prog_12_method_4_code 25 = .ok (.return_, 1))
theorem i_Wd_read_0 : iIns M_Wd_read 0 (.aload_n 0) 1 := (by decide +kernel : decode prog_12_method_2_code 0 = .ok (.aload_n 0, 1))
theorem i_Wd_read_1 : iIns M_Wd_read 1 (.iconst 0) 1 := (by decide +kernel : decode prog_12_method_2_code 1 = .ok (.iconst 0, 1))
theorem i_Wd_read_2 : iPutX M_Wd_read 2 12 1 .int := ⟨15, (by decide +kernel : decode prog_12_method_2_code 2 = .ok (.putfield 15, 3)), px_Wd_Wd_length⟩
theorem i_Wd_read_5 : iIns M_Wd_read 5 (.iconst 0) 1 := (by decide +kernel : decode prog_12_method_2_code 5 = .ok (.iconst 0, 1))
theorem i_Wd_read_6 : iIns M_Wd_read 6 (.istore_n 2) 1 := (by decide +kernel : decode prog_12_method_2_code 6 = .ok (.istore_n 2, 1))
theorem i_Wd_read_7 : iIns M_Wd_read 7 (.iload_n 2) 1 := (by decide +kernel : decode prog_12_method_2_code 7 = .ok (.iload_n 2, 1))
theorem i_Wd_read_8 : iIns M_Wd_read 8 (.aload_n 1) 1 := (by decide +kernel : decode prog_12_method_2_code 8 = .ok (.aload_n 1, 1))
theorem i_Wd_read_9 : iGet M_Wd_read 9 10 1 := ⟨19, (by decide +kernel : decode prog_12_method_2_code 9 = .ok (.getfield 19, 3)), fl_Wd_Tx_length⟩
theorem i_Wd_read_12 : iIcmp M_Wd_read 12 .ge 31 := ⟨19, (by decide +kernel : decode prog_12_method_2_code 12 = .ok (.if_icmp .ge (19), 3)), by decide⟩
theorem i_Wd_read_15 : iIns M_Wd_read 15 (.aload_n 0) 1 := (by decide +kernel : decode prog_12_method_2_code 15 = .ok (.aload_n 0, 1))
theorem i_Wd_read_16 : iIns M_Wd_read 16 (.aload_n 1) 1 := (by decide +kernel : decode prog_12_method_2_code 16 = .ok (.aload_n 1, 1))
theorem i_Wd_read_17 : iIns M_Wd_read 17 (.iload_n 2) 1 := (by decide +kernel : decode prog_12_method_2_code 17 = .ok (.iload_n 2, 1))
theorem i_Wd_read_18 : iCallV M_Wd_read 18 M_Tx_letterAt 1 10 := ⟨⟨22, (by decide +kernel : decode prog_12_method_2_code 18 = .ok (.invokevirtual 22, 3)), lw_k3 200 rfl rfl⟩, vm_Tx_letterAt, me_Tx_letterAt, pn_Tx_letterAt⟩
theorem i_Wd_read_21 : iCallV M_Wd_read 21 M_Wd_append 1 12 := ⟨⟨26, (by decide +kernel : decode prog_12_method_2_code 21 = .ok (.invokevirtual 26, 3)), lw_k3 201 rfl rfl⟩, vm_Wd_append, me_Wd_append, pn_Wd_append⟩
theorem i_Wd_read_24 : iIns M_Wd_read 24 .pop 1 := (by decide +kernel : decode prog_12_method_2_code 24 = .ok (.pop, 1))
theorem i_Wd_read_25 : iIns M_Wd_read 25 (.iinc 2 (1)) 3 := (by decide +kernel : decode prog_12_method_2_code 25 = .ok (.iinc 2 (1), 3))
theorem i_Wd_read_28 : iGoto M_Wd_read 28 7 := ⟨-21, (by decide +kernel : decode prog_12_method_2_code 28 = .ok (.goto (-21), 3)), by decide⟩
theorem i_Wd_read_31 : iIns M_Wd_read 31 .return_ 1 := (by decide +kernel : decode prog_12_method_2_code 31 = .ok (.return_, 1))
theorem i_Wd_append_0 : iIns M_Wd_append 0 (.aload_n 0) 1 := (by decide +kernel : decode prog_12_method_3_code 0 = .ok (.aload_n 0, 1))
theorem i_Wd_append_1 : iGet M_Wd_append 1 12 1 := ⟨15, (by decide +kernel : decode prog_12_method_3_code 1 = .ok (.getfield 15, 3)), fl_Wd_Wd_length⟩
theorem i_Wd_append_4 : iIns M_Wd_append 4 (.aload_n 0) 1 := (by decide +kernel : decode prog_12_method_3_code 4 = .ok (.aload_n 0, 1))
theorem i_Wd_append_5 : iGet M_Wd_append 5 12 0 := ⟨9, (by decide +kernel : decode prog_12_method_3_code 5 = .ok (.getfield 9, 3)), fl_Wd_Wd_letters⟩
theorem i_Wd_append_8 : iIns M_Wd_append 8 .arraylength 1 := (by decide +kernel : decode prog_12_method_3_code 8 = .ok (.arraylength, 1))
theorem i_Wd_append_9 : iIcmp M_Wd_append 9 .lt 14 := ⟨5, (by decide +kernel : decode prog_12_method_3_code 9 = .ok (.if_icmp .lt (5), 3)), by decide⟩
theorem i_Wd_append_12 : iIns M_Wd_append 12 (.iconst 0) 1 := (by decide +kernel : decode prog_12_method_3_code 12 = .ok (.iconst 0, 1))
theorem i_Wd_append_13 : iIns M_Wd_append 13 .ireturn 1 := (by decide +kernel : decode prog_12_method_3_code 13 = .ok (.ireturn, 1))
theorem i_Wd_append_14 : iIns M_Wd_append 14 (.aload_n 0) 1 := (by decide +kernel : decode prog_12_method_3_code 14 = .ok (.aload_n 0, 1))
theorem i_Wd_append_15 : iGet M_Wd_append 15 12 0 := ⟨9, (by decide +kernel : decode prog_12_method_3_code 15 = .ok (.getfield 9, 3)), fl_Wd_Wd_letters⟩
theorem i_Wd_append_18 : iIns M_Wd_append 18 (.aload_n 0) 1 := (by decide +kernel : decode prog_12_method_3_code 18 = .ok (.aload_n 0, 1))
theorem i_Wd_append_19 : iGet M_Wd_append 19 12 1 := ⟨15, (by decide +kernel : decode prog_12_method_3_code 19 = .ok (.getfield 15, 3)), fl_Wd_Wd_length⟩
theorem i_Wd_append_22 : iIns M_Wd_append 22 (.iload_n 1) 1 := (by decide +kernel : decode prog_12_method_3_code 22 = .ok (.iload_n 1, 1))
theorem i_Wd_append_23 : iIns M_Wd_append 23 .iastore 1 := (by decide +kernel : decode prog_12_method_3_code 23 = .ok (.iastore, 1))
theorem i_Wd_append_24 : iIns M_Wd_append 24 (.aload_n 0) 1 := (by decide +kernel : decode prog_12_method_3_code 24 = .ok (.aload_n 0, 1))
theorem i_Wd_append_25 : iIns M_Wd_append 25 .dup 1 := (by decide +kernel : decode prog_12_method_3_code 25 = .ok (.dup, 1))
theorem i_Wd_append_26 : iGet M_Wd_append 26 12 1 := ⟨15, (by decide +kernel : decode prog_12_method_3_code 26 = .ok (.getfield 15, 3)), fl_Wd_Wd_length⟩
theorem i_Wd_append_29 : iIns M_Wd_append 29 (.iconst 1) 1 := (by decide +kernel : decode prog_12_method_3_code 29 = .ok (.iconst 1, 1))
theorem i_Wd_append_30 : iIns M_Wd_append 30 .iadd 1 := (by decide +kernel : decode prog_12_method_3_code 30 = .ok (.iadd, 1))
theorem i_Wd_append_31 : iPutX M_Wd_append 31 12 1 .int := ⟨15, (by decide +kernel : decode prog_12_method_3_code 31 = .ok (.putfield 15, 3)), px_Wd_Wd_length⟩
theorem i_Wd_append_34 : iIns M_Wd_append 34 (.iconst 1) 1 := (by decide +kernel : decode prog_12_method_3_code 34 = .ok (.iconst 1, 1))
theorem i_Wd_append_35 : iIns M_Wd_append 35 .ireturn 1 := (by decide +kernel : decode prog_12_method_3_code 35 = .ok (.ireturn, 1))
theorem i_Tx_init_0 : iIns M_Tx_init 0 (.aload_n 0) 1 := (by decide +kernel : decode prog_10_method_1_code 0 = .ok (.aload_n 0, 1))
theorem i_Tx_init_1 : iObjI M_Tx_init 1 := ⟨3, (by decide +kernel : decode prog_10_method_1_code 1 = .ok (.invokespecial 3, 3)), lw_k1 45 rfl rfl⟩
theorem i_Tx_init_4 : iIns M_Tx_init 4 (.aload_n 0) 1 := (by decide +kernel : decode prog_10_method_1_code 4 = .ok (.aload_n 0, 1))
theorem i_Tx_init_5 : iIns M_Tx_init 5 (.bipush 60) 2 := (by decide +kernel : decode prog_10_method_1_code 5 = .ok (.bipush 60, 2))
theorem i_Tx_init_7 : iNewA M_Tx_init 7 .char := ⟨(by decide +kernel : decode prog_10_method_1_code 7 = .ok (.newarray .char, 2)), lw_k1 56 rfl rfl⟩
theorem i_Tx_init_9 : iPutF M_Tx_init 9 10 0 (.array .char) := ⟨9, (by decide +kernel : decode prog_10_method_1_code 9 = .ok (.putfield 9, 3)), pf_Tx_Tx_characters, rfl⟩
theorem i_Tx_init_12 : iIns M_Tx_init 12 .return_ 1 := (by decide +kernel : decode prog_10_method_1_code 12 = .ok (.return_, 1))
theorem i_Tx_append_0 : iIns M_Tx_append 0 (.aload_n 0) 1 := (by decide +kernel : decode prog_10_method_2_code 0 = .ok (.aload_n 0, 1))
theorem i_Tx_append_1 : iGet M_Tx_append 1 10 1 := ⟨15, (by decide +kernel : decode prog_10_method_2_code 1 = .ok (.getfield 15, 3)), fl_Tx_Tx_length⟩
theorem i_Tx_append_4 : iIns M_Tx_append 4 (.aload_n 0) 1 := (by decide +kernel : decode prog_10_method_2_code 4 = .ok (.aload_n 0, 1))
theorem i_Tx_append_5 : iGet M_Tx_append 5 10 0 := ⟨9, (by decide +kernel : decode prog_10_method_2_code 5 = .ok (.getfield 9, 3)), fl_Tx_Tx_characters⟩
theorem i_Tx_append_8 : iIns M_Tx_append 8 .arraylength 1 := (by decide +kernel : decode prog_10_method_2_code 8 = .ok (.arraylength, 1))
theorem i_Tx_append_9 : iIcmp M_Tx_append 9 .lt 14 := ⟨5, (by decide +kernel : decode prog_10_method_2_code 9 = .ok (.if_icmp .lt (5), 3)), by decide⟩
theorem i_Tx_append_12 : iIns M_Tx_append 12 (.iconst 0) 1 := (by decide +kernel : decode prog_10_method_2_code 12 = .ok (.iconst 0, 1))
theorem i_Tx_append_13 : iIns M_Tx_append 13 .ireturn 1 := (by decide +kernel : decode prog_10_method_2_code 13 = .ok (.ireturn, 1))
theorem i_Tx_append_14 : iIns M_Tx_append 14 (.aload_n 0) 1 := (by decide +kernel : decode prog_10_method_2_code 14 = .ok (.aload_n 0, 1))
theorem i_Tx_append_15 : iGet M_Tx_append 15 10 0 := ⟨9, (by decide +kernel : decode prog_10_method_2_code 15 = .ok (.getfield 9, 3)), fl_Tx_Tx_characters⟩
theorem i_Tx_append_18 : iIns M_Tx_append 18 (.aload_n 0) 1 := (by decide +kernel : decode prog_10_method_2_code 18 = .ok (.aload_n 0, 1))
theorem i_Tx_append_19 : iGet M_Tx_append 19 10 1 := ⟨15, (by decide +kernel : decode prog_10_method_2_code 19 = .ok (.getfield 15, 3)), fl_Tx_Tx_length⟩
theorem i_Tx_append_22 : iIns M_Tx_append 22 (.iload_n 1) 1 := (by decide +kernel : decode prog_10_method_2_code 22 = .ok (.iload_n 1, 1))
theorem i_Tx_append_23 : iIns M_Tx_append 23 .castore 1 := (by decide +kernel : decode prog_10_method_2_code 23 = .ok (.castore, 1))
theorem i_Tx_append_24 : iIns M_Tx_append 24 (.aload_n 0) 1 := (by decide +kernel : decode prog_10_method_2_code 24 = .ok (.aload_n 0, 1))
theorem i_Tx_append_25 : iIns M_Tx_append 25 .dup 1 := (by decide +kernel : decode prog_10_method_2_code 25 = .ok (.dup, 1))
theorem i_Tx_append_26 : iGet M_Tx_append 26 10 1 := ⟨15, (by decide +kernel : decode prog_10_method_2_code 26 = .ok (.getfield 15, 3)), fl_Tx_Tx_length⟩
theorem i_Tx_append_29 : iIns M_Tx_append 29 (.iconst 1) 1 := (by decide +kernel : decode prog_10_method_2_code 29 = .ok (.iconst 1, 1))
theorem i_Tx_append_30 : iIns M_Tx_append 30 .iadd 1 := (by decide +kernel : decode prog_10_method_2_code 30 = .ok (.iadd, 1))
theorem i_Tx_append_31 : iPutX M_Tx_append 31 10 1 .int := ⟨15, (by decide +kernel : decode prog_10_method_2_code 31 = .ok (.putfield 15, 3)), px_Tx_Tx_length⟩
theorem i_Tx_append_34 : iIns M_Tx_append 34 (.iconst 1) 1 := (by decide +kernel : decode prog_10_method_2_code 34 = .ok (.iconst 1, 1))
theorem i_Tx_append_35 : iIns M_Tx_append 35 .ireturn 1 := (by decide +kernel : decode prog_10_method_2_code 35 = .ok (.ireturn, 1))
theorem i_Tx_hasOnlyLetters_0 : iIns M_Tx_hasOnlyLetters 0 (.iconst 0) 1 := (by decide +kernel : decode prog_10_method_3_code 0 = .ok (.iconst 0, 1))
theorem i_Tx_hasOnlyLetters_1 : iIns M_Tx_hasOnlyLetters 1 (.istore_n 1) 1 := (by decide +kernel : decode prog_10_method_3_code 1 = .ok (.istore_n 1, 1))
theorem i_Tx_hasOnlyLetters_2 : iIns M_Tx_hasOnlyLetters 2 (.iload_n 1) 1 := (by decide +kernel : decode prog_10_method_3_code 2 = .ok (.iload_n 1, 1))
theorem i_Tx_hasOnlyLetters_3 : iIns M_Tx_hasOnlyLetters 3 (.aload_n 0) 1 := (by decide +kernel : decode prog_10_method_3_code 3 = .ok (.aload_n 0, 1))
theorem i_Tx_hasOnlyLetters_4 : iGet M_Tx_hasOnlyLetters 4 10 1 := ⟨15, (by decide +kernel : decode prog_10_method_3_code 4 = .ok (.getfield 15, 3)), fl_Tx_Tx_length⟩
theorem i_Tx_hasOnlyLetters_7 : iIcmp M_Tx_hasOnlyLetters 7 .ge 40 := ⟨33, (by decide +kernel : decode prog_10_method_3_code 7 = .ok (.if_icmp .ge (33), 3)), by decide⟩
theorem i_Tx_hasOnlyLetters_10 : iIns M_Tx_hasOnlyLetters 10 (.aload_n 0) 1 := (by decide +kernel : decode prog_10_method_3_code 10 = .ok (.aload_n 0, 1))
theorem i_Tx_hasOnlyLetters_11 : iGet M_Tx_hasOnlyLetters 11 10 0 := ⟨9, (by decide +kernel : decode prog_10_method_3_code 11 = .ok (.getfield 9, 3)), fl_Tx_Tx_characters⟩
theorem i_Tx_hasOnlyLetters_14 : iIns M_Tx_hasOnlyLetters 14 (.iload_n 1) 1 := (by decide +kernel : decode prog_10_method_3_code 14 = .ok (.iload_n 1, 1))
theorem i_Tx_hasOnlyLetters_15 : iIns M_Tx_hasOnlyLetters 15 .caload 1 := (by decide +kernel : decode prog_10_method_3_code 15 = .ok (.caload, 1))
theorem i_Tx_hasOnlyLetters_16 : iIns M_Tx_hasOnlyLetters 16 (.bipush 97) 2 := (by decide +kernel : decode prog_10_method_3_code 16 = .ok (.bipush 97, 2))
theorem i_Tx_hasOnlyLetters_18 : iIcmp M_Tx_hasOnlyLetters 18 .lt 32 := ⟨14, (by decide +kernel : decode prog_10_method_3_code 18 = .ok (.if_icmp .lt (14), 3)), by decide⟩
theorem i_Tx_hasOnlyLetters_21 : iIns M_Tx_hasOnlyLetters 21 (.aload_n 0) 1 := (by decide +kernel : decode prog_10_method_3_code 21 = .ok (.aload_n 0, 1))
theorem i_Tx_hasOnlyLetters_22 : iGet M_Tx_hasOnlyLetters 22 10 0 := ⟨9, (by decide +kernel : decode prog_10_method_3_code 22 = .ok (.getfield 9, 3)), fl_Tx_Tx_characters⟩
theorem i_Tx_hasOnlyLetters_25 : iIns M_Tx_hasOnlyLetters 25 (.iload_n 1) 1 := (by decide +kernel : decode prog_10_method_3_code 25 = .ok (.iload_n 1, 1))
theorem i_Tx_hasOnlyLetters_26 : iIns M_Tx_hasOnlyLetters 26 .caload 1 := (by decide +kernel : decode prog_10_method_3_code 26 = .ok (.caload, 1))
theorem i_Tx_hasOnlyLetters_27 : iIns M_Tx_hasOnlyLetters 27 (.bipush 103) 2 := (by decide +kernel : decode prog_10_method_3_code 27 = .ok (.bipush 103, 2))
theorem i_Tx_hasOnlyLetters_29 : iIcmp M_Tx_hasOnlyLetters 29 .lt 34 := ⟨5, (by decide +kernel : decode prog_10_method_3_code 29 = .ok (.if_icmp .lt (5), 3)), by decide⟩
theorem i_Tx_hasOnlyLetters_32 : iIns M_Tx_hasOnlyLetters 32 (.iconst 0) 1 := (by decide +kernel : decode prog_10_method_3_code 32 = .ok (.iconst 0, 1))
theorem i_Tx_hasOnlyLetters_33 : iIns M_Tx_hasOnlyLetters 33 .ireturn 1 := (by decide +kernel : decode prog_10_method_3_code 33 = .ok (.ireturn, 1))
theorem i_Tx_hasOnlyLetters_34 : iIns M_Tx_hasOnlyLetters 34 (.iinc 1 (1)) 3 := (by decide +kernel : decode prog_10_method_3_code 34 = .ok (.iinc 1 (1), 3))
theorem i_Tx_hasOnlyLetters_37 : iGoto M_Tx_hasOnlyLetters 37 2 := ⟨-35, (by decide +kernel : decode prog_10_method_3_code 37 = .ok (.goto (-35), 3)), by decide⟩
theorem i_Tx_hasOnlyLetters_40 : iIns M_Tx_hasOnlyLetters 40 (.iconst 1) 1 := (by decide +kernel : decode prog_10_method_3_code 40 = .ok (.iconst 1, 1))
theorem i_Tx_hasOnlyLetters_41 : iIns M_Tx_hasOnlyLetters 41 .ireturn 1 := (by decide +kernel : decode prog_10_method_3_code 41 = .ok (.ireturn, 1))
theorem i_Tx_letterAt_0 : iIns M_Tx_letterAt 0 (.aload_n 0) 1 := (by decide +kernel : decode prog_10_method_4_code 0 = .ok (.aload_n 0, 1))
theorem i_Tx_letterAt_1 : iGet M_Tx_letterAt 1 10 0 := ⟨9, (by decide +kernel : decode prog_10_method_4_code 1 = .ok (.getfield 9, 3)), fl_Tx_Tx_characters⟩
theorem i_Tx_letterAt_4 : iIns M_Tx_letterAt 4 (.iload_n 1) 1 := (by decide +kernel : decode prog_10_method_4_code 4 = .ok (.iload_n 1, 1))
theorem i_Tx_letterAt_5 : iIns M_Tx_letterAt 5 .caload 1 := (by decide +kernel : decode prog_10_method_4_code 5 = .ok (.caload, 1))
theorem i_Tx_letterAt_6 : iIns M_Tx_letterAt 6 (.bipush 97) 2 := (by decide +kernel : decode prog_10_method_4_code 6 = .ok (.bipush 97, 2))
theorem i_Tx_letterAt_8 : iIns M_Tx_letterAt 8 .isub 1 := (by decide +kernel : decode prog_10_method_4_code 8 = .ok (.isub, 1))
theorem i_Tx_letterAt_9 : iIns M_Tx_letterAt 9 .ireturn 1 := (by decide +kernel : decode prog_10_method_4_code 9 = .ok (.ireturn, 1))
theorem i_Tx_says_0 : iIns M_Tx_says 0 (.aload_n 0) 1 := (by decide +kernel : decode prog_10_method_5_code 0 = .ok (.aload_n 0, 1))
theorem i_Tx_says_1 : iGet M_Tx_says 1 10 1 := ⟨15, (by decide +kernel : decode prog_10_method_5_code 1 = .ok (.getfield 15, 3)), fl_Tx_Tx_length⟩
theorem i_Tx_says_4 : iIns M_Tx_says 4 (.aload_n 1) 1 := (by decide +kernel : decode prog_10_method_5_code 4 = .ok (.aload_n 1, 1))
-- i_Tx_says_5: call of ('java/lang/String', 'length', '()I')
theorem i_Tx_says_8 : iIcmp M_Tx_says 8 .eq 13 := ⟨5, (by decide +kernel : decode prog_10_method_5_code 8 = .ok (.if_icmp .eq (5), 3)), by decide⟩
theorem i_Tx_says_11 : iIns M_Tx_says 11 (.iconst 0) 1 := (by decide +kernel : decode prog_10_method_5_code 11 = .ok (.iconst 0, 1))
theorem i_Tx_says_12 : iIns M_Tx_says 12 .ireturn 1 := (by decide +kernel : decode prog_10_method_5_code 12 = .ok (.ireturn, 1))
theorem i_Tx_says_13 : iIns M_Tx_says 13 (.iconst 0) 1 := (by decide +kernel : decode prog_10_method_5_code 13 = .ok (.iconst 0, 1))
theorem i_Tx_says_14 : iIns M_Tx_says 14 (.istore_n 2) 1 := (by decide +kernel : decode prog_10_method_5_code 14 = .ok (.istore_n 2, 1))
theorem i_Tx_says_15 : iIns M_Tx_says 15 (.iload_n 2) 1 := (by decide +kernel : decode prog_10_method_5_code 15 = .ok (.iload_n 2, 1))
theorem i_Tx_says_16 : iIns M_Tx_says 16 (.aload_n 0) 1 := (by decide +kernel : decode prog_10_method_5_code 16 = .ok (.aload_n 0, 1))
theorem i_Tx_says_17 : iGet M_Tx_says 17 10 1 := ⟨15, (by decide +kernel : decode prog_10_method_5_code 17 = .ok (.getfield 15, 3)), fl_Tx_Tx_length⟩
theorem i_Tx_says_20 : iIcmp M_Tx_says 20 .ge 45 := ⟨25, (by decide +kernel : decode prog_10_method_5_code 20 = .ok (.if_icmp .ge (25), 3)), by decide⟩
theorem i_Tx_says_23 : iIns M_Tx_says 23 (.aload_n 0) 1 := (by decide +kernel : decode prog_10_method_5_code 23 = .ok (.aload_n 0, 1))
theorem i_Tx_says_24 : iGet M_Tx_says 24 10 0 := ⟨9, (by decide +kernel : decode prog_10_method_5_code 24 = .ok (.getfield 9, 3)), fl_Tx_Tx_characters⟩
theorem i_Tx_says_27 : iIns M_Tx_says 27 (.iload_n 2) 1 := (by decide +kernel : decode prog_10_method_5_code 27 = .ok (.iload_n 2, 1))
theorem i_Tx_says_28 : iIns M_Tx_says 28 .caload 1 := (by decide +kernel : decode prog_10_method_5_code 28 = .ok (.caload, 1))
theorem i_Tx_says_29 : iIns M_Tx_says 29 (.aload_n 1) 1 := (by decide +kernel : decode prog_10_method_5_code 29 = .ok (.aload_n 1, 1))
theorem i_Tx_says_30 : iIns M_Tx_says 30 (.iload_n 2) 1 := (by decide +kernel : decode prog_10_method_5_code 30 = .ok (.iload_n 2, 1))
-- i_Tx_says_31: call of ('java/lang/String', 'charAt', '(I)C')
theorem i_Tx_says_34 : iIcmp M_Tx_says 34 .eq 39 := ⟨5, (by decide +kernel : decode prog_10_method_5_code 34 = .ok (.if_icmp .eq (5), 3)), by decide⟩
theorem i_Tx_says_37 : iIns M_Tx_says 37 (.iconst 0) 1 := (by decide +kernel : decode prog_10_method_5_code 37 = .ok (.iconst 0, 1))
theorem i_Tx_says_38 : iIns M_Tx_says 38 .ireturn 1 := (by decide +kernel : decode prog_10_method_5_code 38 = .ok (.ireturn, 1))
theorem i_Tx_says_39 : iIns M_Tx_says 39 (.iinc 2 (1)) 3 := (by decide +kernel : decode prog_10_method_5_code 39 = .ok (.iinc 2 (1), 3))
theorem i_Tx_says_42 : iGoto M_Tx_says 42 15 := ⟨-27, (by decide +kernel : decode prog_10_method_5_code 42 = .ok (.goto (-27), 3)), by decide⟩
theorem i_Tx_says_45 : iIns M_Tx_says 45 (.iconst 1) 1 := (by decide +kernel : decode prog_10_method_5_code 45 = .ok (.iconst 1, 1))
theorem i_Tx_says_46 : iIns M_Tx_says 46 .ireturn 1 := (by decide +kernel : decode prog_10_method_5_code 46 = .ok (.ireturn, 1))
theorem i_Hi_init_0 : iIns M_Hi_init 0 (.aload_n 0) 1 := (by decide +kernel : decode prog_5_method_1_code 0 = .ok (.aload_n 0, 1))
theorem i_Hi_init_1 : iObjI M_Hi_init 1 := ⟨3, (by decide +kernel : decode prog_5_method_1_code 1 = .ok (.invokespecial 3, 3)), lw_k1 149 rfl rfl⟩
theorem i_Hi_init_4 : iIns M_Hi_init 4 (.aload_n 0) 1 := (by decide +kernel : decode prog_5_method_1_code 4 = .ok (.aload_n 0, 1))
theorem i_Hi_init_5 : iIns M_Hi_init 5 (.bipush 8) 2 := (by decide +kernel : decode prog_5_method_1_code 5 = .ok (.bipush 8, 2))
theorem i_Hi_init_7 : iNewQ M_Hi_init 7 "ParallelRewriting$Word" := ⟨9, (by decide +kernel : decode prog_5_method_1_code 7 = .ok (.anewarray 9, 3)), lw_k1 150 rfl rfl, Or.inr rfl⟩
theorem i_Hi_init_10 : iPutF M_Hi_init 10 5 0 (.array (.object "ParallelRewriting$Word")) := ⟨11, (by decide +kernel : decode prog_5_method_1_code 10 = .ok (.putfield 11, 3)), pf_Hi_Hi_words, rfl⟩
theorem i_Hi_init_13 : iIns M_Hi_init 13 (.iconst 0) 1 := (by decide +kernel : decode prog_5_method_1_code 13 = .ok (.iconst 0, 1))
theorem i_Hi_init_14 : iIns M_Hi_init 14 (.istore_n 1) 1 := (by decide +kernel : decode prog_5_method_1_code 14 = .ok (.istore_n 1, 1))
theorem i_Hi_init_15 : iIns M_Hi_init 15 (.iload_n 1) 1 := (by decide +kernel : decode prog_5_method_1_code 15 = .ok (.iload_n 1, 1))
theorem i_Hi_init_16 : iIns M_Hi_init 16 (.bipush 8) 2 := (by decide +kernel : decode prog_5_method_1_code 16 = .ok (.bipush 8, 2))
theorem i_Hi_init_18 : iIcmp M_Hi_init 18 .ge 40 := ⟨22, (by decide +kernel : decode prog_5_method_1_code 18 = .ok (.if_icmp .ge (22), 3)), by decide⟩
theorem i_Hi_init_21 : iIns M_Hi_init 21 (.aload_n 0) 1 := (by decide +kernel : decode prog_5_method_1_code 21 = .ok (.aload_n 0, 1))
theorem i_Hi_init_22 : iGet M_Hi_init 22 5 0 := ⟨11, (by decide +kernel : decode prog_5_method_1_code 22 = .ok (.getfield 11, 3)), fl_Hi_Hi_words⟩
theorem i_Hi_init_25 : iIns M_Hi_init 25 (.iload_n 1) 1 := (by decide +kernel : decode prog_5_method_1_code 25 = .ok (.iload_n 1, 1))
theorem i_Hi_init_26 : iNew M_Hi_init 26 12 [.null, .int 0] := ⟨9, (by decide +kernel : decode prog_5_method_1_code 26 = .ok (.new 9, 3)), RX10, TX10, 2, tyX10, rfl, uw_Wd, tyX10_ok, lw_k1 150 rfl rfl, lw_k1 97 rfl rfl, lw_k1 6 rfl rfl, by decide +kernel, rfl⟩
theorem i_Hi_init_29 : iIns M_Hi_init 29 .dup 1 := (by decide +kernel : decode prog_5_method_1_code 29 = .ok (.dup, 1))
theorem i_Hi_init_30 : iCallI M_Hi_init 30 M_Wd_init 0 := ⟨⟨17, (by decide +kernel : decode prog_5_method_1_code 30 = .ok (.invokespecial 17, 3)), lw_k1 152 rfl rfl⟩, im_Wd_init, me_Wd_init, pn_Wd_init⟩
theorem i_Hi_init_33 : iIns M_Hi_init 33 .aastore 1 := (by decide +kernel : decode prog_5_method_1_code 33 = .ok (.aastore, 1))
theorem i_Hi_init_34 : iIns M_Hi_init 34 (.iinc 1 (1)) 3 := (by decide +kernel : decode prog_5_method_1_code 34 = .ok (.iinc 1 (1), 3))
theorem i_Hi_init_37 : iGoto M_Hi_init 37 15 := ⟨-22, (by decide +kernel : decode prog_5_method_1_code 37 = .ok (.goto (-22), 3)), by decide⟩
theorem i_Hi_init_40 : iIns M_Hi_init 40 .return_ 1 := (by decide +kernel : decode prog_5_method_1_code 40 = .ok (.return_, 1))
theorem i_Hi_takeBack_0 : iIns M_Hi_takeBack 0 (.aload_n 0) 1 := (by decide +kernel : decode prog_5_method_3_code 0 = .ok (.aload_n 0, 1))
theorem i_Hi_takeBack_1 : iGet M_Hi_takeBack 1 5 2 := ⟨18, (by decide +kernel : decode prog_5_method_3_code 1 = .ok (.getfield 18, 3)), fl_Hi_Hi_size⟩
theorem i_Hi_takeBack_4 : iIf M_Hi_takeBack 4 .ne 9 := ⟨5, (by decide +kernel : decode prog_5_method_3_code 4 = .ok (.ifCond .ne (5), 3)), by decide⟩
theorem i_Hi_takeBack_7 : iIns M_Hi_takeBack 7 (.iconst 0) 1 := (by decide +kernel : decode prog_5_method_3_code 7 = .ok (.iconst 0, 1))
theorem i_Hi_takeBack_8 : iIns M_Hi_takeBack 8 .ireturn 1 := (by decide +kernel : decode prog_5_method_3_code 8 = .ok (.ireturn, 1))
theorem i_Hi_takeBack_9 : iIns M_Hi_takeBack 9 (.aload_n 0) 1 := (by decide +kernel : decode prog_5_method_3_code 9 = .ok (.aload_n 0, 1))
theorem i_Hi_takeBack_10 : iIns M_Hi_takeBack 10 .dup 1 := (by decide +kernel : decode prog_5_method_3_code 10 = .ok (.dup, 1))
theorem i_Hi_takeBack_11 : iGet M_Hi_takeBack 11 5 2 := ⟨18, (by decide +kernel : decode prog_5_method_3_code 11 = .ok (.getfield 18, 3)), fl_Hi_Hi_size⟩
theorem i_Hi_takeBack_14 : iIns M_Hi_takeBack 14 (.iconst 1) 1 := (by decide +kernel : decode prog_5_method_3_code 14 = .ok (.iconst 1, 1))
theorem i_Hi_takeBack_15 : iIns M_Hi_takeBack 15 .isub 1 := (by decide +kernel : decode prog_5_method_3_code 15 = .ok (.isub, 1))
theorem i_Hi_takeBack_16 : iPutX M_Hi_takeBack 16 5 2 .int := ⟨18, (by decide +kernel : decode prog_5_method_3_code 16 = .ok (.putfield 18, 3)), px_Hi_Hi_size⟩
theorem i_Hi_takeBack_19 : iIns M_Hi_takeBack 19 (.aload_n 1) 1 := (by decide +kernel : decode prog_5_method_3_code 19 = .ok (.aload_n 1, 1))
theorem i_Hi_takeBack_20 : iIns M_Hi_takeBack 20 (.aload_n 0) 1 := (by decide +kernel : decode prog_5_method_3_code 20 = .ok (.aload_n 0, 1))
theorem i_Hi_takeBack_21 : iGet M_Hi_takeBack 21 5 0 := ⟨11, (by decide +kernel : decode prog_5_method_3_code 21 = .ok (.getfield 11, 3)), fl_Hi_Hi_words⟩
theorem i_Hi_takeBack_24 : iIns M_Hi_takeBack 24 (.aload_n 0) 1 := (by decide +kernel : decode prog_5_method_3_code 24 = .ok (.aload_n 0, 1))
theorem i_Hi_takeBack_25 : iGet M_Hi_takeBack 25 5 1 := ⟨22, (by decide +kernel : decode prog_5_method_3_code 25 = .ok (.getfield 22, 3)), fl_Hi_Hi_oldest⟩
theorem i_Hi_takeBack_28 : iIns M_Hi_takeBack 28 (.aload_n 0) 1 := (by decide +kernel : decode prog_5_method_3_code 28 = .ok (.aload_n 0, 1))
theorem i_Hi_takeBack_29 : iGet M_Hi_takeBack 29 5 2 := ⟨18, (by decide +kernel : decode prog_5_method_3_code 29 = .ok (.getfield 18, 3)), fl_Hi_Hi_size⟩
theorem i_Hi_takeBack_32 : iIns M_Hi_takeBack 32 .iadd 1 := (by decide +kernel : decode prog_5_method_3_code 32 = .ok (.iadd, 1))
theorem i_Hi_takeBack_33 : iIns M_Hi_takeBack 33 (.bipush 8) 2 := (by decide +kernel : decode prog_5_method_3_code 33 = .ok (.bipush 8, 2))
theorem i_Hi_takeBack_35 : iIns M_Hi_takeBack 35 .irem 1 := (by decide +kernel : decode prog_5_method_3_code 35 = .ok (.irem, 1))
theorem i_Hi_takeBack_36 : iIns M_Hi_takeBack 36 .aaload 1 := (by decide +kernel : decode prog_5_method_3_code 36 = .ok (.aaload, 1))
theorem i_Hi_takeBack_37 : iCallV M_Hi_takeBack 37 M_Wd_copy 1 12 := ⟨⟨25, (by decide +kernel : decode prog_5_method_3_code 37 = .ok (.invokevirtual 25, 3)), lw_k2 165 rfl rfl⟩, vm_Wd_copy, me_Wd_copy, pn_Wd_copy⟩
theorem i_Hi_takeBack_40 : iIns M_Hi_takeBack 40 (.iconst 1) 1 := (by decide +kernel : decode prog_5_method_3_code 40 = .ok (.iconst 1, 1))
theorem i_Hi_takeBack_41 : iIns M_Hi_takeBack 41 .ireturn 1 := (by decide +kernel : decode prog_5_method_3_code 41 = .ok (.ireturn, 1))
theorem i_Hi_forget_0 : iIns M_Hi_forget 0 (.aload_n 0) 1 := (by decide +kernel : decode prog_5_method_4_code 0 = .ok (.aload_n 0, 1))
theorem i_Hi_forget_1 : iIns M_Hi_forget 1 (.iconst 0) 1 := (by decide +kernel : decode prog_5_method_4_code 1 = .ok (.iconst 0, 1))
theorem i_Hi_forget_2 : iPutX M_Hi_forget 2 5 2 .int := ⟨18, (by decide +kernel : decode prog_5_method_4_code 2 = .ok (.putfield 18, 3)), px_Hi_Hi_size⟩
theorem i_Hi_forget_5 : iIns M_Hi_forget 5 .return_ 1 := (by decide +kernel : decode prog_5_method_4_code 5 = .ok (.return_, 1))
theorem i_Hi_remember_0 : iIns M_Hi_remember 0 (.aload_n 0) 1 := (by decide +kernel : decode prog_5_method_2_code 0 = .ok (.aload_n 0, 1))
theorem i_Hi_remember_1 : iGet M_Hi_remember 1 5 2 := ⟨18, (by decide +kernel : decode prog_5_method_2_code 1 = .ok (.getfield 18, 3)), fl_Hi_Hi_size⟩
theorem i_Hi_remember_4 : iIns M_Hi_remember 4 (.bipush 8) 2 := (by decide +kernel : decode prog_5_method_2_code 4 = .ok (.bipush 8, 2))
theorem i_Hi_remember_6 : iIcmp M_Hi_remember 6 .lt 32 := ⟨26, (by decide +kernel : decode prog_5_method_2_code 6 = .ok (.if_icmp .lt (26), 3)), by decide⟩
theorem i_Hi_remember_9 : iIns M_Hi_remember 9 (.aload_n 0) 1 := (by decide +kernel : decode prog_5_method_2_code 9 = .ok (.aload_n 0, 1))
theorem i_Hi_remember_10 : iIns M_Hi_remember 10 (.aload_n 0) 1 := (by decide +kernel : decode prog_5_method_2_code 10 = .ok (.aload_n 0, 1))
theorem i_Hi_remember_11 : iGet M_Hi_remember 11 5 1 := ⟨22, (by decide +kernel : decode prog_5_method_2_code 11 = .ok (.getfield 22, 3)), fl_Hi_Hi_oldest⟩
theorem i_Hi_remember_14 : iIns M_Hi_remember 14 (.iconst 1) 1 := (by decide +kernel : decode prog_5_method_2_code 14 = .ok (.iconst 1, 1))
theorem i_Hi_remember_15 : iIns M_Hi_remember 15 .iadd 1 := (by decide +kernel : decode prog_5_method_2_code 15 = .ok (.iadd, 1))
theorem i_Hi_remember_16 : iIns M_Hi_remember 16 (.bipush 8) 2 := (by decide +kernel : decode prog_5_method_2_code 16 = .ok (.bipush 8, 2))
theorem i_Hi_remember_18 : iIns M_Hi_remember 18 .irem 1 := (by decide +kernel : decode prog_5_method_2_code 18 = .ok (.irem, 1))
theorem i_Hi_remember_19 : iPutX M_Hi_remember 19 5 1 .int := ⟨22, (by decide +kernel : decode prog_5_method_2_code 19 = .ok (.putfield 22, 3)), px_Hi_Hi_oldest⟩
theorem i_Hi_remember_22 : iIns M_Hi_remember 22 (.aload_n 0) 1 := (by decide +kernel : decode prog_5_method_2_code 22 = .ok (.aload_n 0, 1))
theorem i_Hi_remember_23 : iIns M_Hi_remember 23 .dup 1 := (by decide +kernel : decode prog_5_method_2_code 23 = .ok (.dup, 1))
theorem i_Hi_remember_24 : iGet M_Hi_remember 24 5 2 := ⟨18, (by decide +kernel : decode prog_5_method_2_code 24 = .ok (.getfield 18, 3)), fl_Hi_Hi_size⟩
theorem i_Hi_remember_27 : iIns M_Hi_remember 27 (.iconst 1) 1 := (by decide +kernel : decode prog_5_method_2_code 27 = .ok (.iconst 1, 1))
theorem i_Hi_remember_28 : iIns M_Hi_remember 28 .isub 1 := (by decide +kernel : decode prog_5_method_2_code 28 = .ok (.isub, 1))
theorem i_Hi_remember_29 : iPutX M_Hi_remember 29 5 2 .int := ⟨18, (by decide +kernel : decode prog_5_method_2_code 29 = .ok (.putfield 18, 3)), px_Hi_Hi_size⟩
theorem i_Hi_remember_32 : iIns M_Hi_remember 32 (.aload_n 0) 1 := (by decide +kernel : decode prog_5_method_2_code 32 = .ok (.aload_n 0, 1))
theorem i_Hi_remember_33 : iGet M_Hi_remember 33 5 0 := ⟨11, (by decide +kernel : decode prog_5_method_2_code 33 = .ok (.getfield 11, 3)), fl_Hi_Hi_words⟩
theorem i_Hi_remember_36 : iIns M_Hi_remember 36 (.aload_n 0) 1 := (by decide +kernel : decode prog_5_method_2_code 36 = .ok (.aload_n 0, 1))
theorem i_Hi_remember_37 : iGet M_Hi_remember 37 5 1 := ⟨22, (by decide +kernel : decode prog_5_method_2_code 37 = .ok (.getfield 22, 3)), fl_Hi_Hi_oldest⟩
theorem i_Hi_remember_40 : iIns M_Hi_remember 40 (.aload_n 0) 1 := (by decide +kernel : decode prog_5_method_2_code 40 = .ok (.aload_n 0, 1))
theorem i_Hi_remember_41 : iGet M_Hi_remember 41 5 2 := ⟨18, (by decide +kernel : decode prog_5_method_2_code 41 = .ok (.getfield 18, 3)), fl_Hi_Hi_size⟩
theorem i_Hi_remember_44 : iIns M_Hi_remember 44 .iadd 1 := (by decide +kernel : decode prog_5_method_2_code 44 = .ok (.iadd, 1))
theorem i_Hi_remember_45 : iIns M_Hi_remember 45 (.bipush 8) 2 := (by decide +kernel : decode prog_5_method_2_code 45 = .ok (.bipush 8, 2))
theorem i_Hi_remember_47 : iIns M_Hi_remember 47 .irem 1 := (by decide +kernel : decode prog_5_method_2_code 47 = .ok (.irem, 1))
theorem i_Hi_remember_48 : iIns M_Hi_remember 48 .aaload 1 := (by decide +kernel : decode prog_5_method_2_code 48 = .ok (.aaload, 1))
theorem i_Hi_remember_49 : iIns M_Hi_remember 49 (.aload_n 1) 1 := (by decide +kernel : decode prog_5_method_2_code 49 = .ok (.aload_n 1, 1))
theorem i_Hi_remember_50 : iCallV M_Hi_remember 50 M_Wd_copy 1 12 := ⟨⟨25, (by decide +kernel : decode prog_5_method_2_code 50 = .ok (.invokevirtual 25, 3)), lw_k2 165 rfl rfl⟩, vm_Wd_copy, me_Wd_copy, pn_Wd_copy⟩
theorem i_Hi_remember_53 : iIns M_Hi_remember 53 (.aload_n 0) 1 := (by decide +kernel : decode prog_5_method_2_code 53 = .ok (.aload_n 0, 1))
theorem i_Hi_remember_54 : iIns M_Hi_remember 54 .dup 1 := (by decide +kernel : decode prog_5_method_2_code 54 = .ok (.dup, 1))
theorem i_Hi_remember_55 : iGet M_Hi_remember 55 5 2 := ⟨18, (by decide +kernel : decode prog_5_method_2_code 55 = .ok (.getfield 18, 3)), fl_Hi_Hi_size⟩
theorem i_Hi_remember_58 : iIns M_Hi_remember 58 (.iconst 1) 1 := (by decide +kernel : decode prog_5_method_2_code 58 = .ok (.iconst 1, 1))
theorem i_Hi_remember_59 : iIns M_Hi_remember 59 .iadd 1 := (by decide +kernel : decode prog_5_method_2_code 59 = .ok (.iadd, 1))
theorem i_Hi_remember_60 : iPutX M_Hi_remember 60 5 2 .int := ⟨18, (by decide +kernel : decode prog_5_method_2_code 60 = .ok (.putfield 18, 3)), px_Hi_Hi_size⟩
theorem i_Hi_remember_63 : iIns M_Hi_remember 63 .return_ 1 := (by decide +kernel : decode prog_5_method_2_code 63 = .ok (.return_, 1))
theorem i_St_init_0 : iIns M_St_init 0 (.aload_n 0) 1 := (by decide +kernel : decode prog_8_method_1_code 0 = .ok (.aload_n 0, 1))
theorem i_St_init_1 : iObjI M_St_init 1 := ⟨3, (by decide +kernel : decode prog_8_method_1_code 1 = .ok (.invokespecial 3, 3)), lw_k1 62 rfl rfl⟩
theorem i_St_init_4 : iIns M_St_init 4 (.aload_n 0) 1 := (by decide +kernel : decode prog_8_method_1_code 4 = .ok (.aload_n 0, 1))
theorem i_St_init_5 : iIns M_St_init 5 (.iconst 3) 1 := (by decide +kernel : decode prog_8_method_1_code 5 = .ok (.iconst 3, 1))
theorem i_St_init_6 : iNewQ M_St_init 6 "ParallelRewriting$Table" := ⟨9, (by decide +kernel : decode prog_8_method_1_code 6 = .ok (.anewarray 9, 3)), lw_k1 63 rfl rfl, Or.inl rfl⟩
theorem i_St_init_9 : iPutF M_St_init 9 8 0 (.array (.object "ParallelRewriting$Table")) := ⟨11, (by decide +kernel : decode prog_8_method_1_code 9 = .ok (.putfield 11, 3)), pf_St_St_tables, rfl⟩
theorem i_St_init_12 : iIns M_St_init 12 (.iconst 0) 1 := (by decide +kernel : decode prog_8_method_1_code 12 = .ok (.iconst 0, 1))
theorem i_St_init_13 : iIns M_St_init 13 (.istore_n 1) 1 := (by decide +kernel : decode prog_8_method_1_code 13 = .ok (.istore_n 1, 1))
theorem i_St_init_14 : iIns M_St_init 14 (.iload_n 1) 1 := (by decide +kernel : decode prog_8_method_1_code 14 = .ok (.iload_n 1, 1))
theorem i_St_init_15 : iIns M_St_init 15 (.iconst 3) 1 := (by decide +kernel : decode prog_8_method_1_code 15 = .ok (.iconst 3, 1))
theorem i_St_init_16 : iIcmp M_St_init 16 .ge 38 := ⟨22, (by decide +kernel : decode prog_8_method_1_code 16 = .ok (.if_icmp .ge (22), 3)), by decide⟩
theorem i_St_init_19 : iIns M_St_init 19 (.aload_n 0) 1 := (by decide +kernel : decode prog_8_method_1_code 19 = .ok (.aload_n 0, 1))
theorem i_St_init_20 : iGet M_St_init 20 8 0 := ⟨11, (by decide +kernel : decode prog_8_method_1_code 20 = .ok (.getfield 11, 3)), fl_St_St_tables⟩
theorem i_St_init_23 : iIns M_St_init 23 (.iload_n 1) 1 := (by decide +kernel : decode prog_8_method_1_code 23 = .ok (.iload_n 1, 1))
theorem i_St_init_24 : iNew M_St_init 24 9 [.null, .null, .null, .int 0] := ⟨9, (by decide +kernel : decode prog_8_method_1_code 24 = .ok (.new 9, 3)), RX7, TX7, 4, tyX7, rfl, uw_Tb, tyX7_ok, lw_k1 63 rfl rfl, lw_k1 65 rfl rfl, lw_k1 4 rfl rfl, by decide +kernel, rfl⟩
theorem i_St_init_27 : iIns M_St_init 27 .dup 1 := (by decide +kernel : decode prog_8_method_1_code 27 = .ok (.dup, 1))
theorem i_St_init_28 : iCallI M_St_init 28 M_Tb_init 0 := ⟨⟨17, (by decide +kernel : decode prog_8_method_1_code 28 = .ok (.invokespecial 17, 3)), lw_k1 66 rfl rfl⟩, im_Tb_init, me_Tb_init, pn_Tb_init⟩
theorem i_St_init_31 : iIns M_St_init 31 .aastore 1 := (by decide +kernel : decode prog_8_method_1_code 31 = .ok (.aastore, 1))
theorem i_St_init_32 : iIns M_St_init 32 (.iinc 1 (1)) 3 := (by decide +kernel : decode prog_8_method_1_code 32 = .ok (.iinc 1 (1), 3))
theorem i_St_init_35 : iGoto M_St_init 35 14 := ⟨-21, (by decide +kernel : decode prog_8_method_1_code 35 = .ok (.goto (-21), 3)), by decide⟩
theorem i_St_init_38 : iIns M_St_init 38 (.aload_n 0) 1 := (by decide +kernel : decode prog_8_method_1_code 38 = .ok (.aload_n 0, 1))
theorem i_St_init_39 : iNew M_St_init 39 12 [.null, .int 0] := ⟨18, (by decide +kernel : decode prog_8_method_1_code 39 = .ok (.new 18, 3)), RX10, TX10, 2, tyX10, rfl, uw_Wd, tyX10_ok, lw_k1 96 rfl rfl, lw_k1 97 rfl rfl, lw_k1 6 rfl rfl, by decide +kernel, rfl⟩
theorem i_St_init_42 : iIns M_St_init 42 .dup 1 := (by decide +kernel : decode prog_8_method_1_code 42 = .ok (.dup, 1))
theorem i_St_init_43 : iCallI M_St_init 43 M_Wd_init 0 := ⟨⟨20, (by decide +kernel : decode prog_8_method_1_code 43 = .ok (.invokespecial 20, 3)), lw_k1 98 rfl rfl⟩, im_Wd_init, me_Wd_init, pn_Wd_init⟩
theorem i_St_init_46 : iPutF M_St_init 46 8 1 (.object "ParallelRewriting$Word") := ⟨21, (by decide +kernel : decode prog_8_method_1_code 46 = .ok (.putfield 21, 3)), pf_St_St_current, rfl⟩
theorem i_St_init_49 : iIns M_St_init 49 (.aload_n 0) 1 := (by decide +kernel : decode prog_8_method_1_code 49 = .ok (.aload_n 0, 1))
theorem i_St_init_50 : iNew M_St_init 50 12 [.null, .int 0] := ⟨18, (by decide +kernel : decode prog_8_method_1_code 50 = .ok (.new 18, 3)), RX10, TX10, 2, tyX10, rfl, uw_Wd, tyX10_ok, lw_k1 96 rfl rfl, lw_k1 97 rfl rfl, lw_k1 6 rfl rfl, by decide +kernel, rfl⟩
theorem i_St_init_53 : iIns M_St_init 53 .dup 1 := (by decide +kernel : decode prog_8_method_1_code 53 = .ok (.dup, 1))
theorem i_St_init_54 : iCallI M_St_init 54 M_Wd_init 0 := ⟨⟨20, (by decide +kernel : decode prog_8_method_1_code 54 = .ok (.invokespecial 20, 3)), lw_k1 98 rfl rfl⟩, im_Wd_init, me_Wd_init, pn_Wd_init⟩
theorem i_St_init_57 : iPutF M_St_init 57 8 2 (.object "ParallelRewriting$Word") := ⟨25, (by decide +kernel : decode prog_8_method_1_code 57 = .ok (.putfield 25, 3)), pf_St_St_target, rfl⟩
theorem i_St_init_60 : iIns M_St_init 60 (.aload_n 0) 1 := (by decide +kernel : decode prog_8_method_1_code 60 = .ok (.aload_n 0, 1))
theorem i_St_init_61 : iIns M_St_init 61 (.bipush 6) 2 := (by decide +kernel : decode prog_8_method_1_code 61 = .ok (.bipush 6, 2))
theorem i_St_init_63 : iNewA M_St_init 63 .int := ⟨(by decide +kernel : decode prog_8_method_1_code 63 = .ok (.newarray .int, 2)), lw_k1 95 rfl rfl⟩
theorem i_St_init_65 : iPutF M_St_init 65 8 3 (.array .int) := ⟨28, (by decide +kernel : decode prog_8_method_1_code 65 = .ok (.putfield 28, 3)), pf_St_St_commands, rfl⟩
theorem i_St_init_68 : iIns M_St_init 68 (.aload_n 0) 1 := (by decide +kernel : decode prog_8_method_1_code 68 = .ok (.aload_n 0, 1))
theorem i_St_init_69 : iGet M_St_init 69 8 3 := ⟨28, (by decide +kernel : decode prog_8_method_1_code 69 = .ok (.getfield 28, 3)), fl_St_St_commands⟩
theorem i_St_init_72 : iIns M_St_init 72 (.iconst 0) 1 := (by decide +kernel : decode prog_8_method_1_code 72 = .ok (.iconst 0, 1))
theorem i_St_init_73 : iCallS M_St_init 73 M_Ar_fillI 2 := ⟨⟨32, (by decide +kernel : decode prog_8_method_1_code 73 = .ok (.invokestatic 32, 3)), lw_k1 123 rfl rfl⟩, sm_Ar_fillI, me_Ar_fillI, pn_Ar_fillI⟩
theorem i_St_init_76 : iIns M_St_init 76 .return_ 1 := (by decide +kernel : decode prog_8_method_1_code 76 = .ok (.return_, 1))
theorem i_St_copy_0 : iIns M_St_copy 0 (.iconst 0) 1 := (by decide +kernel : decode prog_8_method_2_code 0 = .ok (.iconst 0, 1))
theorem i_St_copy_1 : iIns M_St_copy 1 (.istore_n 2) 1 := (by decide +kernel : decode prog_8_method_2_code 1 = .ok (.istore_n 2, 1))
theorem i_St_copy_2 : iIns M_St_copy 2 (.iload_n 2) 1 := (by decide +kernel : decode prog_8_method_2_code 2 = .ok (.iload_n 2, 1))
theorem i_St_copy_3 : iIns M_St_copy 3 (.iconst 3) 1 := (by decide +kernel : decode prog_8_method_2_code 3 = .ok (.iconst 3, 1))
theorem i_St_copy_4 : iIcmp M_St_copy 4 .ge 28 := ⟨24, (by decide +kernel : decode prog_8_method_2_code 4 = .ok (.if_icmp .ge (24), 3)), by decide⟩
theorem i_St_copy_7 : iIns M_St_copy 7 (.aload_n 0) 1 := (by decide +kernel : decode prog_8_method_2_code 7 = .ok (.aload_n 0, 1))
theorem i_St_copy_8 : iGet M_St_copy 8 8 0 := ⟨11, (by decide +kernel : decode prog_8_method_2_code 8 = .ok (.getfield 11, 3)), fl_St_St_tables⟩
theorem i_St_copy_11 : iIns M_St_copy 11 (.iload_n 2) 1 := (by decide +kernel : decode prog_8_method_2_code 11 = .ok (.iload_n 2, 1))
theorem i_St_copy_12 : iIns M_St_copy 12 .aaload 1 := (by decide +kernel : decode prog_8_method_2_code 12 = .ok (.aaload, 1))
theorem i_St_copy_13 : iIns M_St_copy 13 (.aload_n 1) 1 := (by decide +kernel : decode prog_8_method_2_code 13 = .ok (.aload_n 1, 1))
theorem i_St_copy_14 : iGet M_St_copy 14 8 0 := ⟨11, (by decide +kernel : decode prog_8_method_2_code 14 = .ok (.getfield 11, 3)), fl_St_St_tables⟩
theorem i_St_copy_17 : iIns M_St_copy 17 (.iload_n 2) 1 := (by decide +kernel : decode prog_8_method_2_code 17 = .ok (.iload_n 2, 1))
theorem i_St_copy_18 : iIns M_St_copy 18 .aaload 1 := (by decide +kernel : decode prog_8_method_2_code 18 = .ok (.aaload, 1))
theorem i_St_copy_19 : iCallV M_St_copy 19 M_Tb_copy 1 9 := ⟨⟨38, (by decide +kernel : decode prog_8_method_2_code 19 = .ok (.invokevirtual 38, 3)), lw_k2 180 rfl rfl⟩, vm_Tb_copy, me_Tb_copy, pn_Tb_copy⟩
theorem i_St_copy_22 : iIns M_St_copy 22 (.iinc 2 (1)) 3 := (by decide +kernel : decode prog_8_method_2_code 22 = .ok (.iinc 2 (1), 3))
theorem i_St_copy_25 : iGoto M_St_copy 25 2 := ⟨-23, (by decide +kernel : decode prog_8_method_2_code 25 = .ok (.goto (-23), 3)), by decide⟩
theorem i_St_copy_28 : iIns M_St_copy 28 (.aload_n 0) 1 := (by decide +kernel : decode prog_8_method_2_code 28 = .ok (.aload_n 0, 1))
theorem i_St_copy_29 : iGet M_St_copy 29 8 1 := ⟨21, (by decide +kernel : decode prog_8_method_2_code 29 = .ok (.getfield 21, 3)), fl_St_St_current⟩
theorem i_St_copy_32 : iIns M_St_copy 32 (.aload_n 1) 1 := (by decide +kernel : decode prog_8_method_2_code 32 = .ok (.aload_n 1, 1))
theorem i_St_copy_33 : iGet M_St_copy 33 8 1 := ⟨21, (by decide +kernel : decode prog_8_method_2_code 33 = .ok (.getfield 21, 3)), fl_St_St_current⟩
theorem i_St_copy_36 : iCallV M_St_copy 36 M_Wd_copy 1 12 := ⟨⟨42, (by decide +kernel : decode prog_8_method_2_code 36 = .ok (.invokevirtual 42, 3)), lw_k2 185 rfl rfl⟩, vm_Wd_copy, me_Wd_copy, pn_Wd_copy⟩
theorem i_St_copy_39 : iIns M_St_copy 39 (.aload_n 0) 1 := (by decide +kernel : decode prog_8_method_2_code 39 = .ok (.aload_n 0, 1))
theorem i_St_copy_40 : iGet M_St_copy 40 8 2 := ⟨25, (by decide +kernel : decode prog_8_method_2_code 40 = .ok (.getfield 25, 3)), fl_St_St_target⟩
theorem i_St_copy_43 : iIns M_St_copy 43 (.aload_n 1) 1 := (by decide +kernel : decode prog_8_method_2_code 43 = .ok (.aload_n 1, 1))
theorem i_St_copy_44 : iGet M_St_copy 44 8 2 := ⟨25, (by decide +kernel : decode prog_8_method_2_code 44 = .ok (.getfield 25, 3)), fl_St_St_target⟩
theorem i_St_copy_47 : iCallV M_St_copy 47 M_Wd_copy 1 12 := ⟨⟨42, (by decide +kernel : decode prog_8_method_2_code 47 = .ok (.invokevirtual 42, 3)), lw_k2 185 rfl rfl⟩, vm_Wd_copy, me_Wd_copy, pn_Wd_copy⟩
theorem i_St_copy_50 : iIns M_St_copy 50 (.aload_n 1) 1 := (by decide +kernel : decode prog_8_method_2_code 50 = .ok (.aload_n 1, 1))
theorem i_St_copy_51 : iGet M_St_copy 51 8 3 := ⟨28, (by decide +kernel : decode prog_8_method_2_code 51 = .ok (.getfield 28, 3)), fl_St_St_commands⟩
theorem i_St_copy_54 : iIns M_St_copy 54 (.iconst 0) 1 := (by decide +kernel : decode prog_8_method_2_code 54 = .ok (.iconst 0, 1))
theorem i_St_copy_55 : iIns M_St_copy 55 (.aload_n 0) 1 := (by decide +kernel : decode prog_8_method_2_code 55 = .ok (.aload_n 0, 1))
theorem i_St_copy_56 : iGet M_St_copy 56 8 3 := ⟨28, (by decide +kernel : decode prog_8_method_2_code 56 = .ok (.getfield 28, 3)), fl_St_St_commands⟩
theorem i_St_copy_59 : iIns M_St_copy 59 (.iconst 0) 1 := (by decide +kernel : decode prog_8_method_2_code 59 = .ok (.iconst 0, 1))
theorem i_St_copy_60 : iIns M_St_copy 60 (.bipush 6) 2 := (by decide +kernel : decode prog_8_method_2_code 60 = .ok (.bipush 6, 2))
theorem i_St_copy_62 : iCpy M_St_copy 62 := ⟨45, (by decide +kernel : decode prog_8_method_2_code 62 = .ok (.invokestatic 45, 3)), lw_k2 186 rfl rfl⟩
theorem i_St_copy_65 : iIns M_St_copy 65 .return_ 1 := (by decide +kernel : decode prog_8_method_2_code 65 = .ok (.return_, 1))
theorem i_Tb_init_0 : iIns M_Tb_init 0 (.aload_n 0) 1 := (by decide +kernel : decode prog_9_method_1_code 0 = .ok (.aload_n 0, 1))
theorem i_Tb_init_1 : iObjI M_Tb_init 1 := ⟨3, (by decide +kernel : decode prog_9_method_1_code 1 = .ok (.invokespecial 3, 3)), lw_k1 69 rfl rfl⟩
theorem i_Tb_init_4 : iIns M_Tb_init 4 (.aload_n 0) 1 := (by decide +kernel : decode prog_9_method_1_code 4 = .ok (.aload_n 0, 1))
theorem i_Tb_init_5 : iIns M_Tb_init 5 (.bipush 6) 2 := (by decide +kernel : decode prog_9_method_1_code 5 = .ok (.bipush 6, 2))
theorem i_Tb_init_7 : iNewA M_Tb_init 7 .int := ⟨(by decide +kernel : decode prog_9_method_1_code 7 = .ok (.newarray .int, 2)), lw_k1 95 rfl rfl⟩
theorem i_Tb_init_9 : iPutF M_Tb_init 9 9 0 (.array .int) := ⟨9, (by decide +kernel : decode prog_9_method_1_code 9 = .ok (.putfield 9, 3)), pf_Tb_Tb_listSizes, rfl⟩
theorem i_Tb_init_12 : iIns M_Tb_init 12 (.aload_n 0) 1 := (by decide +kernel : decode prog_9_method_1_code 12 = .ok (.aload_n 0, 1))
theorem i_Tb_init_13 : iIns M_Tb_init 13 (.bipush 54) 2 := (by decide +kernel : decode prog_9_method_1_code 13 = .ok (.bipush 54, 2))
theorem i_Tb_init_15 : iNewA M_Tb_init 15 .int := ⟨(by decide +kernel : decode prog_9_method_1_code 15 = .ok (.newarray .int, 2)), lw_k1 95 rfl rfl⟩
theorem i_Tb_init_17 : iPutF M_Tb_init 17 9 1 (.array .int) := ⟨15, (by decide +kernel : decode prog_9_method_1_code 17 = .ok (.putfield 15, 3)), pf_Tb_Tb_lengths, rfl⟩
theorem i_Tb_init_20 : iIns M_Tb_init 20 (.aload_n 0) 1 := (by decide +kernel : decode prog_9_method_1_code 20 = .ok (.aload_n 0, 1))
theorem i_Tb_init_21 : iIns M_Tb_init 21 (.sipush 216) 3 := (by decide +kernel : decode prog_9_method_1_code 21 = .ok (.sipush 216, 3))
theorem i_Tb_init_24 : iNewA M_Tb_init 24 .int := ⟨(by decide +kernel : decode prog_9_method_1_code 24 = .ok (.newarray .int, 2)), lw_k1 95 rfl rfl⟩
theorem i_Tb_init_26 : iPutF M_Tb_init 26 9 2 (.array .int) := ⟨18, (by decide +kernel : decode prog_9_method_1_code 26 = .ok (.putfield 18, 3)), pf_Tb_Tb_letters, rfl⟩
theorem i_Tb_init_29 : iIns M_Tb_init 29 (.aload_n 0) 1 := (by decide +kernel : decode prog_9_method_1_code 29 = .ok (.aload_n 0, 1))
theorem i_Tb_init_30 : iGet M_Tb_init 30 9 1 := ⟨15, (by decide +kernel : decode prog_9_method_1_code 30 = .ok (.getfield 15, 3)), fl_Tb_Tb_lengths⟩
theorem i_Tb_init_33 : iIns M_Tb_init 33 (.iconst (-1)) 1 := (by decide +kernel : decode prog_9_method_1_code 33 = .ok (.iconst (-1), 1))
theorem i_Tb_init_34 : iCallS M_Tb_init 34 M_Ar_fillI 2 := ⟨⟨21, (by decide +kernel : decode prog_9_method_1_code 34 = .ok (.invokestatic 21, 3)), lw_k1 70 rfl rfl⟩, sm_Ar_fillI, me_Ar_fillI, pn_Ar_fillI⟩
theorem i_Tb_init_37 : iIns M_Tb_init 37 (.iconst 0) 1 := (by decide +kernel : decode prog_9_method_1_code 37 = .ok (.iconst 0, 1))
theorem i_Tb_init_38 : iIns M_Tb_init 38 (.istore_n 1) 1 := (by decide +kernel : decode prog_9_method_1_code 38 = .ok (.istore_n 1, 1))
theorem i_Tb_init_39 : iIns M_Tb_init 39 (.iload_n 1) 1 := (by decide +kernel : decode prog_9_method_1_code 39 = .ok (.iload_n 1, 1))
theorem i_Tb_init_40 : iIns M_Tb_init 40 (.bipush 6) 2 := (by decide +kernel : decode prog_9_method_1_code 40 = .ok (.bipush 6, 2))
theorem i_Tb_init_42 : iIcmp M_Tb_init 42 .ge 80 := ⟨38, (by decide +kernel : decode prog_9_method_1_code 42 = .ok (.if_icmp .ge (38), 3)), by decide⟩
theorem i_Tb_init_45 : iIns M_Tb_init 45 (.iload_n 1) 1 := (by decide +kernel : decode prog_9_method_1_code 45 = .ok (.iload_n 1, 1))
theorem i_Tb_init_46 : iIns M_Tb_init 46 (.iconst 0) 1 := (by decide +kernel : decode prog_9_method_1_code 46 = .ok (.iconst 0, 1))
theorem i_Tb_init_47 : iCallS M_Tb_init 47 M_Tb_listSlot 2 := ⟨⟨27, (by decide +kernel : decode prog_9_method_1_code 47 = .ok (.invokestatic 27, 3)), lw_k1 73 rfl rfl⟩, sm_Tb_listSlot, me_Tb_listSlot, pn_Tb_listSlot⟩
theorem i_Tb_init_50 : iIns M_Tb_init 50 (.istore_n 2) 1 := (by decide +kernel : decode prog_9_method_1_code 50 = .ok (.istore_n 2, 1))
theorem i_Tb_init_51 : iIns M_Tb_init 51 (.aload_n 0) 1 := (by decide +kernel : decode prog_9_method_1_code 51 = .ok (.aload_n 0, 1))
theorem i_Tb_init_52 : iGet M_Tb_init 52 9 0 := ⟨9, (by decide +kernel : decode prog_9_method_1_code 52 = .ok (.getfield 9, 3)), fl_Tb_Tb_listSizes⟩
theorem i_Tb_init_55 : iIns M_Tb_init 55 (.iload_n 1) 1 := (by decide +kernel : decode prog_9_method_1_code 55 = .ok (.iload_n 1, 1))
theorem i_Tb_init_56 : iIns M_Tb_init 56 (.iconst 1) 1 := (by decide +kernel : decode prog_9_method_1_code 56 = .ok (.iconst 1, 1))
theorem i_Tb_init_57 : iIns M_Tb_init 57 .iastore 1 := (by decide +kernel : decode prog_9_method_1_code 57 = .ok (.iastore, 1))
theorem i_Tb_init_58 : iIns M_Tb_init 58 (.aload_n 0) 1 := (by decide +kernel : decode prog_9_method_1_code 58 = .ok (.aload_n 0, 1))
theorem i_Tb_init_59 : iGet M_Tb_init 59 9 1 := ⟨15, (by decide +kernel : decode prog_9_method_1_code 59 = .ok (.getfield 15, 3)), fl_Tb_Tb_lengths⟩
theorem i_Tb_init_62 : iIns M_Tb_init 62 (.iload_n 2) 1 := (by decide +kernel : decode prog_9_method_1_code 62 = .ok (.iload_n 2, 1))
theorem i_Tb_init_63 : iIns M_Tb_init 63 (.iconst 1) 1 := (by decide +kernel : decode prog_9_method_1_code 63 = .ok (.iconst 1, 1))
theorem i_Tb_init_64 : iIns M_Tb_init 64 .iastore 1 := (by decide +kernel : decode prog_9_method_1_code 64 = .ok (.iastore, 1))
theorem i_Tb_init_65 : iIns M_Tb_init 65 (.aload_n 0) 1 := (by decide +kernel : decode prog_9_method_1_code 65 = .ok (.aload_n 0, 1))
theorem i_Tb_init_66 : iGet M_Tb_init 66 9 2 := ⟨18, (by decide +kernel : decode prog_9_method_1_code 66 = .ok (.getfield 18, 3)), fl_Tb_Tb_letters⟩
theorem i_Tb_init_69 : iIns M_Tb_init 69 (.iload_n 2) 1 := (by decide +kernel : decode prog_9_method_1_code 69 = .ok (.iload_n 2, 1))
theorem i_Tb_init_70 : iIns M_Tb_init 70 (.iconst 4) 1 := (by decide +kernel : decode prog_9_method_1_code 70 = .ok (.iconst 4, 1))
theorem i_Tb_init_71 : iIns M_Tb_init 71 .imul 1 := (by decide +kernel : decode prog_9_method_1_code 71 = .ok (.imul, 1))
theorem i_Tb_init_72 : iIns M_Tb_init 72 (.iload_n 1) 1 := (by decide +kernel : decode prog_9_method_1_code 72 = .ok (.iload_n 1, 1))
theorem i_Tb_init_73 : iIns M_Tb_init 73 .iastore 1 := (by decide +kernel : decode prog_9_method_1_code 73 = .ok (.iastore, 1))
theorem i_Tb_init_74 : iIns M_Tb_init 74 (.iinc 1 (1)) 3 := (by decide +kernel : decode prog_9_method_1_code 74 = .ok (.iinc 1 (1), 3))
theorem i_Tb_init_77 : iGoto M_Tb_init 77 39 := ⟨-38, (by decide +kernel : decode prog_9_method_1_code 77 = .ok (.goto (-38), 3)), by decide⟩
theorem i_Tb_init_80 : iIns M_Tb_init 80 .return_ 1 := (by decide +kernel : decode prog_9_method_1_code 80 = .ok (.return_, 1))
theorem i_Tb_listSlot_0 : iIns M_Tb_listSlot 0 (.iload_n 0) 1 := (by decide +kernel : decode prog_9_method_2_code 0 = .ok (.iload_n 0, 1))
theorem i_Tb_listSlot_1 : iIns M_Tb_listSlot 1 (.iconst 3) 1 := (by decide +kernel : decode prog_9_method_2_code 1 = .ok (.iconst 3, 1))
theorem i_Tb_listSlot_2 : iIns M_Tb_listSlot 2 .imul 1 := (by decide +kernel : decode prog_9_method_2_code 2 = .ok (.imul, 1))
theorem i_Tb_listSlot_3 : iIns M_Tb_listSlot 3 (.iload_n 1) 1 := (by decide +kernel : decode prog_9_method_2_code 3 = .ok (.iload_n 1, 1))
theorem i_Tb_listSlot_4 : iIns M_Tb_listSlot 4 .iadd 1 := (by decide +kernel : decode prog_9_method_2_code 4 = .ok (.iadd, 1))
theorem i_Tb_listSlot_5 : iIns M_Tb_listSlot 5 .ireturn 1 := (by decide +kernel : decode prog_9_method_2_code 5 = .ok (.ireturn, 1))
theorem i_Tb_copy_0 : iIns M_Tb_copy 0 (.aload_n 1) 1 := (by decide +kernel : decode prog_9_method_4_code 0 = .ok (.aload_n 1, 1))
theorem i_Tb_copy_1 : iGet M_Tb_copy 1 9 0 := ⟨9, (by decide +kernel : decode prog_9_method_4_code 1 = .ok (.getfield 9, 3)), fl_Tb_Tb_listSizes⟩
theorem i_Tb_copy_4 : iIns M_Tb_copy 4 (.iconst 0) 1 := (by decide +kernel : decode prog_9_method_4_code 4 = .ok (.iconst 0, 1))
theorem i_Tb_copy_5 : iIns M_Tb_copy 5 (.aload_n 0) 1 := (by decide +kernel : decode prog_9_method_4_code 5 = .ok (.aload_n 0, 1))
theorem i_Tb_copy_6 : iGet M_Tb_copy 6 9 0 := ⟨9, (by decide +kernel : decode prog_9_method_4_code 6 = .ok (.getfield 9, 3)), fl_Tb_Tb_listSizes⟩
theorem i_Tb_copy_9 : iIns M_Tb_copy 9 (.iconst 0) 1 := (by decide +kernel : decode prog_9_method_4_code 9 = .ok (.iconst 0, 1))
theorem i_Tb_copy_10 : iIns M_Tb_copy 10 (.bipush 6) 2 := (by decide +kernel : decode prog_9_method_4_code 10 = .ok (.bipush 6, 2))
theorem i_Tb_copy_12 : iCpy M_Tb_copy 12 := ⟨31, (by decide +kernel : decode prog_9_method_4_code 12 = .ok (.invokestatic 31, 3)), lw_k2 184 rfl rfl⟩
theorem i_Tb_copy_15 : iIns M_Tb_copy 15 (.aload_n 1) 1 := (by decide +kernel : decode prog_9_method_4_code 15 = .ok (.aload_n 1, 1))
theorem i_Tb_copy_16 : iGet M_Tb_copy 16 9 1 := ⟨15, (by decide +kernel : decode prog_9_method_4_code 16 = .ok (.getfield 15, 3)), fl_Tb_Tb_lengths⟩
theorem i_Tb_copy_19 : iIns M_Tb_copy 19 (.iconst 0) 1 := (by decide +kernel : decode prog_9_method_4_code 19 = .ok (.iconst 0, 1))
theorem i_Tb_copy_20 : iIns M_Tb_copy 20 (.aload_n 0) 1 := (by decide +kernel : decode prog_9_method_4_code 20 = .ok (.aload_n 0, 1))
theorem i_Tb_copy_21 : iGet M_Tb_copy 21 9 1 := ⟨15, (by decide +kernel : decode prog_9_method_4_code 21 = .ok (.getfield 15, 3)), fl_Tb_Tb_lengths⟩
theorem i_Tb_copy_24 : iIns M_Tb_copy 24 (.iconst 0) 1 := (by decide +kernel : decode prog_9_method_4_code 24 = .ok (.iconst 0, 1))
theorem i_Tb_copy_25 : iIns M_Tb_copy 25 (.bipush 54) 2 := (by decide +kernel : decode prog_9_method_4_code 25 = .ok (.bipush 54, 2))
theorem i_Tb_copy_27 : iCpy M_Tb_copy 27 := ⟨31, (by decide +kernel : decode prog_9_method_4_code 27 = .ok (.invokestatic 31, 3)), lw_k2 184 rfl rfl⟩
theorem i_Tb_copy_30 : iIns M_Tb_copy 30 (.aload_n 1) 1 := (by decide +kernel : decode prog_9_method_4_code 30 = .ok (.aload_n 1, 1))
theorem i_Tb_copy_31 : iGet M_Tb_copy 31 9 2 := ⟨18, (by decide +kernel : decode prog_9_method_4_code 31 = .ok (.getfield 18, 3)), fl_Tb_Tb_letters⟩
theorem i_Tb_copy_34 : iIns M_Tb_copy 34 (.iconst 0) 1 := (by decide +kernel : decode prog_9_method_4_code 34 = .ok (.iconst 0, 1))
theorem i_Tb_copy_35 : iIns M_Tb_copy 35 (.aload_n 0) 1 := (by decide +kernel : decode prog_9_method_4_code 35 = .ok (.aload_n 0, 1))
theorem i_Tb_copy_36 : iGet M_Tb_copy 36 9 2 := ⟨18, (by decide +kernel : decode prog_9_method_4_code 36 = .ok (.getfield 18, 3)), fl_Tb_Tb_letters⟩
theorem i_Tb_copy_39 : iIns M_Tb_copy 39 (.iconst 0) 1 := (by decide +kernel : decode prog_9_method_4_code 39 = .ok (.iconst 0, 1))
theorem i_Tb_copy_40 : iIns M_Tb_copy 40 (.sipush 216) 3 := (by decide +kernel : decode prog_9_method_4_code 40 = .ok (.sipush 216, 3))
theorem i_Tb_copy_43 : iCpy M_Tb_copy 43 := ⟨31, (by decide +kernel : decode prog_9_method_4_code 43 = .ok (.invokestatic 31, 3)), lw_k2 184 rfl rfl⟩
theorem i_Tb_copy_46 : iIns M_Tb_copy 46 (.aload_n 0) 1 := (by decide +kernel : decode prog_9_method_4_code 46 = .ok (.aload_n 0, 1))
theorem i_Tb_copy_47 : iIns M_Tb_copy 47 (.aload_n 1) 1 := (by decide +kernel : decode prog_9_method_4_code 47 = .ok (.aload_n 1, 1))
theorem i_Tb_copy_48 : iGet M_Tb_copy 48 9 3 := ⟨37, (by decide +kernel : decode prog_9_method_4_code 48 = .ok (.getfield 37, 3)), fl_Tb_Tb_rules⟩
theorem i_Tb_copy_51 : iPutX M_Tb_copy 51 9 3 .int := ⟨37, (by decide +kernel : decode prog_9_method_4_code 51 = .ok (.putfield 37, 3)), px_Tb_Tb_rules⟩
theorem i_Tb_copy_54 : iIns M_Tb_copy 54 .return_ 1 := (by decide +kernel : decode prog_9_method_4_code 54 = .ok (.return_, 1))
theorem i_Tb_replaceList_0 : iIns M_Tb_replaceList 0 (.aload_n 0) 1 := (by decide +kernel : decode prog_9_method_6_code 0 = .ok (.aload_n 0, 1))
theorem i_Tb_replaceList_1 : iIns M_Tb_replaceList 1 (.iload_n 1) 1 := (by decide +kernel : decode prog_9_method_6_code 1 = .ok (.iload_n 1, 1))
theorem i_Tb_replaceList_2 : iIns M_Tb_replaceList 2 (.iconst 0) 1 := (by decide +kernel : decode prog_9_method_6_code 2 = .ok (.iconst 0, 1))
theorem i_Tb_replaceList_3 : iCallS M_Tb_replaceList 3 M_Tb_listSlot 2 := ⟨⟨27, (by decide +kernel : decode prog_9_method_6_code 3 = .ok (.invokestatic 27, 3)), lw_k1 73 rfl rfl⟩, sm_Tb_listSlot, me_Tb_listSlot, pn_Tb_listSlot⟩
theorem i_Tb_replaceList_6 : iIns M_Tb_replaceList 6 (.aload_n 2) 1 := (by decide +kernel : decode prog_9_method_6_code 6 = .ok (.aload_n 2, 1))
theorem i_Tb_replaceList_7 : iCallV M_Tb_replaceList 7 M_Tb_fillSlot 2 9 := ⟨⟨55, (by decide +kernel : decode prog_9_method_6_code 7 = .ok (.invokevirtual 55, 3)), lw_k3 112 rfl rfl⟩, vm_Tb_fillSlot, me_Tb_fillSlot, pn_Tb_fillSlot⟩
theorem i_Tb_replaceList_10 : iIns M_Tb_replaceList 10 (.aload_n 0) 1 := (by decide +kernel : decode prog_9_method_6_code 10 = .ok (.aload_n 0, 1))
theorem i_Tb_replaceList_11 : iGet M_Tb_replaceList 11 9 0 := ⟨9, (by decide +kernel : decode prog_9_method_6_code 11 = .ok (.getfield 9, 3)), fl_Tb_Tb_listSizes⟩
theorem i_Tb_replaceList_14 : iIns M_Tb_replaceList 14 (.iload_n 1) 1 := (by decide +kernel : decode prog_9_method_6_code 14 = .ok (.iload_n 1, 1))
theorem i_Tb_replaceList_15 : iIns M_Tb_replaceList 15 (.iconst 1) 1 := (by decide +kernel : decode prog_9_method_6_code 15 = .ok (.iconst 1, 1))
theorem i_Tb_replaceList_16 : iIns M_Tb_replaceList 16 .iastore 1 := (by decide +kernel : decode prog_9_method_6_code 16 = .ok (.iastore, 1))
theorem i_Tb_replaceList_17 : iIns M_Tb_replaceList 17 .return_ 1 := (by decide +kernel : decode prog_9_method_6_code 17 = .ok (.return_, 1))
theorem i_Tb_fillSlot_0 : iIns M_Tb_fillSlot 0 (.aload_n 2) 1 := (by decide +kernel : decode prog_9_method_5_code 0 = .ok (.aload_n 2, 1))
theorem i_Tb_fillSlot_1 : iGet M_Tb_fillSlot 1 10 1 := ⟨41, (by decide +kernel : decode prog_9_method_5_code 1 = .ok (.getfield 41, 3)), fl_Tb_Tx_length⟩
theorem i_Tb_fillSlot_4 : iIns M_Tb_fillSlot 4 (.iconst 4) 1 := (by decide +kernel : decode prog_9_method_5_code 4 = .ok (.iconst 4, 1))
theorem i_Tb_fillSlot_5 : iCallS M_Tb_fillSlot 5 M_Ma_minI 2 := ⟨⟨46, (by decide +kernel : decode prog_9_method_5_code 5 = .ok (.invokestatic 46, 3)), lw_k3 116 rfl rfl⟩, sm_Ma_minI, me_Ma_minI, pn_Ma_minI⟩
theorem i_Tb_fillSlot_8 : iIns M_Tb_fillSlot 8 (.istore_n 3) 1 := (by decide +kernel : decode prog_9_method_5_code 8 = .ok (.istore_n 3, 1))
theorem i_Tb_fillSlot_9 : iIns M_Tb_fillSlot 9 (.iconst 0) 1 := (by decide +kernel : decode prog_9_method_5_code 9 = .ok (.iconst 0, 1))
theorem i_Tb_fillSlot_10 : iIns M_Tb_fillSlot 10 (.istore 4) 2 := (by decide +kernel : decode prog_9_method_5_code 10 = .ok (.istore 4, 2))
theorem i_Tb_fillSlot_12 : iIns M_Tb_fillSlot 12 (.iload 4) 2 := (by decide +kernel : decode prog_9_method_5_code 12 = .ok (.iload 4, 2))
theorem i_Tb_fillSlot_14 : iIns M_Tb_fillSlot 14 (.iload_n 3) 1 := (by decide +kernel : decode prog_9_method_5_code 14 = .ok (.iload_n 3, 1))
theorem i_Tb_fillSlot_15 : iIcmp M_Tb_fillSlot 15 .ge 41 := ⟨26, (by decide +kernel : decode prog_9_method_5_code 15 = .ok (.if_icmp .ge (26), 3)), by decide⟩
theorem i_Tb_fillSlot_18 : iIns M_Tb_fillSlot 18 (.aload_n 0) 1 := (by decide +kernel : decode prog_9_method_5_code 18 = .ok (.aload_n 0, 1))
theorem i_Tb_fillSlot_19 : iGet M_Tb_fillSlot 19 9 2 := ⟨18, (by decide +kernel : decode prog_9_method_5_code 19 = .ok (.getfield 18, 3)), fl_Tb_Tb_letters⟩
theorem i_Tb_fillSlot_22 : iIns M_Tb_fillSlot 22 (.iload_n 1) 1 := (by decide +kernel : decode prog_9_method_5_code 22 = .ok (.iload_n 1, 1))
theorem i_Tb_fillSlot_23 : iIns M_Tb_fillSlot 23 (.iconst 4) 1 := (by decide +kernel : decode prog_9_method_5_code 23 = .ok (.iconst 4, 1))
theorem i_Tb_fillSlot_24 : iIns M_Tb_fillSlot 24 .imul 1 := (by decide +kernel : decode prog_9_method_5_code 24 = .ok (.imul, 1))
theorem i_Tb_fillSlot_25 : iIns M_Tb_fillSlot 25 (.iload 4) 2 := (by decide +kernel : decode prog_9_method_5_code 25 = .ok (.iload 4, 2))
theorem i_Tb_fillSlot_27 : iIns M_Tb_fillSlot 27 .iadd 1 := (by decide +kernel : decode prog_9_method_5_code 27 = .ok (.iadd, 1))
theorem i_Tb_fillSlot_28 : iIns M_Tb_fillSlot 28 (.aload_n 2) 1 := (by decide +kernel : decode prog_9_method_5_code 28 = .ok (.aload_n 2, 1))
theorem i_Tb_fillSlot_29 : iIns M_Tb_fillSlot 29 (.iload 4) 2 := (by decide +kernel : decode prog_9_method_5_code 29 = .ok (.iload 4, 2))
theorem i_Tb_fillSlot_31 : iCallV M_Tb_fillSlot 31 M_Tx_letterAt 1 10 := ⟨⟨51, (by decide +kernel : decode prog_9_method_5_code 31 = .ok (.invokevirtual 51, 3)), lw_k3 117 rfl rfl⟩, vm_Tx_letterAt, me_Tx_letterAt, pn_Tx_letterAt⟩
theorem i_Tb_fillSlot_34 : iIns M_Tb_fillSlot 34 .iastore 1 := (by decide +kernel : decode prog_9_method_5_code 34 = .ok (.iastore, 1))
theorem i_Tb_fillSlot_35 : iIns M_Tb_fillSlot 35 (.iinc 4 (1)) 3 := (by decide +kernel : decode prog_9_method_5_code 35 = .ok (.iinc 4 (1), 3))
theorem i_Tb_fillSlot_38 : iGoto M_Tb_fillSlot 38 12 := ⟨-26, (by decide +kernel : decode prog_9_method_5_code 38 = .ok (.goto (-26), 3)), by decide⟩
theorem i_Tb_fillSlot_41 : iIns M_Tb_fillSlot 41 (.aload_n 0) 1 := (by decide +kernel : decode prog_9_method_5_code 41 = .ok (.aload_n 0, 1))
theorem i_Tb_fillSlot_42 : iGet M_Tb_fillSlot 42 9 1 := ⟨15, (by decide +kernel : decode prog_9_method_5_code 42 = .ok (.getfield 15, 3)), fl_Tb_Tb_lengths⟩
theorem i_Tb_fillSlot_45 : iIns M_Tb_fillSlot 45 (.iload_n 1) 1 := (by decide +kernel : decode prog_9_method_5_code 45 = .ok (.iload_n 1, 1))
theorem i_Tb_fillSlot_46 : iIns M_Tb_fillSlot 46 (.iload_n 3) 1 := (by decide +kernel : decode prog_9_method_5_code 46 = .ok (.iload_n 3, 1))
theorem i_Tb_fillSlot_47 : iIns M_Tb_fillSlot 47 .iastore 1 := (by decide +kernel : decode prog_9_method_5_code 47 = .ok (.iastore, 1))
theorem i_Tb_fillSlot_48 : iIns M_Tb_fillSlot 48 .return_ 1 := (by decide +kernel : decode prog_9_method_5_code 48 = .ok (.return_, 1))
theorem i_Tb_extendList_0 : iIns M_Tb_extendList 0 (.aload_n 0) 1 := (by decide +kernel : decode prog_9_method_7_code 0 = .ok (.aload_n 0, 1))
theorem i_Tb_extendList_1 : iGet M_Tb_extendList 1 9 0 := ⟨9, (by decide +kernel : decode prog_9_method_7_code 1 = .ok (.getfield 9, 3)), fl_Tb_Tb_listSizes⟩
theorem i_Tb_extendList_4 : iIns M_Tb_extendList 4 (.iload_n 1) 1 := (by decide +kernel : decode prog_9_method_7_code 4 = .ok (.iload_n 1, 1))
theorem i_Tb_extendList_5 : iIns M_Tb_extendList 5 .iaload 1 := (by decide +kernel : decode prog_9_method_7_code 5 = .ok (.iaload, 1))
theorem i_Tb_extendList_6 : iIns M_Tb_extendList 6 (.istore_n 3) 1 := (by decide +kernel : decode prog_9_method_7_code 6 = .ok (.istore_n 3, 1))
theorem i_Tb_extendList_7 : iIns M_Tb_extendList 7 (.iload_n 3) 1 := (by decide +kernel : decode prog_9_method_7_code 7 = .ok (.iload_n 3, 1))
theorem i_Tb_extendList_8 : iIns M_Tb_extendList 8 (.iconst 3) 1 := (by decide +kernel : decode prog_9_method_7_code 8 = .ok (.iconst 3, 1))
theorem i_Tb_extendList_9 : iIcmp M_Tb_extendList 9 .lt 14 := ⟨5, (by decide +kernel : decode prog_9_method_7_code 9 = .ok (.if_icmp .lt (5), 3)), by decide⟩
theorem i_Tb_extendList_12 : iIns M_Tb_extendList 12 (.iconst (-1)) 1 := (by decide +kernel : decode prog_9_method_7_code 12 = .ok (.iconst (-1), 1))
theorem i_Tb_extendList_13 : iIns M_Tb_extendList 13 .ireturn 1 := (by decide +kernel : decode prog_9_method_7_code 13 = .ok (.ireturn, 1))
theorem i_Tb_extendList_14 : iIns M_Tb_extendList 14 (.aload_n 0) 1 := (by decide +kernel : decode prog_9_method_7_code 14 = .ok (.aload_n 0, 1))
theorem i_Tb_extendList_15 : iIns M_Tb_extendList 15 (.iload_n 1) 1 := (by decide +kernel : decode prog_9_method_7_code 15 = .ok (.iload_n 1, 1))
theorem i_Tb_extendList_16 : iIns M_Tb_extendList 16 (.iload_n 3) 1 := (by decide +kernel : decode prog_9_method_7_code 16 = .ok (.iload_n 3, 1))
theorem i_Tb_extendList_17 : iCallS M_Tb_extendList 17 M_Tb_listSlot 2 := ⟨⟨27, (by decide +kernel : decode prog_9_method_7_code 17 = .ok (.invokestatic 27, 3)), lw_k1 73 rfl rfl⟩, sm_Tb_listSlot, me_Tb_listSlot, pn_Tb_listSlot⟩
theorem i_Tb_extendList_20 : iIns M_Tb_extendList 20 (.aload_n 2) 1 := (by decide +kernel : decode prog_9_method_7_code 20 = .ok (.aload_n 2, 1))
theorem i_Tb_extendList_21 : iCallV M_Tb_extendList 21 M_Tb_fillSlot 2 9 := ⟨⟨55, (by decide +kernel : decode prog_9_method_7_code 21 = .ok (.invokevirtual 55, 3)), lw_k3 112 rfl rfl⟩, vm_Tb_fillSlot, me_Tb_fillSlot, pn_Tb_fillSlot⟩
theorem i_Tb_extendList_24 : iIns M_Tb_extendList 24 (.aload_n 0) 1 := (by decide +kernel : decode prog_9_method_7_code 24 = .ok (.aload_n 0, 1))
theorem i_Tb_extendList_25 : iGet M_Tb_extendList 25 9 0 := ⟨9, (by decide +kernel : decode prog_9_method_7_code 25 = .ok (.getfield 9, 3)), fl_Tb_Tb_listSizes⟩
theorem i_Tb_extendList_28 : iIns M_Tb_extendList 28 (.iload_n 1) 1 := (by decide +kernel : decode prog_9_method_7_code 28 = .ok (.iload_n 1, 1))
theorem i_Tb_extendList_29 : iIns M_Tb_extendList 29 (.iload_n 3) 1 := (by decide +kernel : decode prog_9_method_7_code 29 = .ok (.iload_n 3, 1))
theorem i_Tb_extendList_30 : iIns M_Tb_extendList 30 (.iconst 1) 1 := (by decide +kernel : decode prog_9_method_7_code 30 = .ok (.iconst 1, 1))
theorem i_Tb_extendList_31 : iIns M_Tb_extendList 31 .iadd 1 := (by decide +kernel : decode prog_9_method_7_code 31 = .ok (.iadd, 1))
theorem i_Tb_extendList_32 : iIns M_Tb_extendList 32 .iastore 1 := (by decide +kernel : decode prog_9_method_7_code 32 = .ok (.iastore, 1))
theorem i_Tb_extendList_33 : iIns M_Tb_extendList 33 (.iload_n 3) 1 := (by decide +kernel : decode prog_9_method_7_code 33 = .ok (.iload_n 3, 1))
theorem i_Tb_extendList_34 : iIns M_Tb_extendList 34 .ireturn 1 := (by decide +kernel : decode prog_9_method_7_code 34 = .ok (.ireturn, 1))
theorem i_Tb_hasRule_0 : iIns M_Tb_hasRule 0 (.aload_n 0) 1 := (by decide +kernel : decode prog_9_method_8_code 0 = .ok (.aload_n 0, 1))
theorem i_Tb_hasRule_1 : iGet M_Tb_hasRule 1 9 1 := ⟨15, (by decide +kernel : decode prog_9_method_8_code 1 = .ok (.getfield 15, 3)), fl_Tb_Tb_lengths⟩
theorem i_Tb_hasRule_4 : iIns M_Tb_hasRule 4 (.iload_n 1) 1 := (by decide +kernel : decode prog_9_method_8_code 4 = .ok (.iload_n 1, 1))
theorem i_Tb_hasRule_5 : iIns M_Tb_hasRule 5 (.iload_n 2) 1 := (by decide +kernel : decode prog_9_method_8_code 5 = .ok (.iload_n 2, 1))
theorem i_Tb_hasRule_6 : iCallS M_Tb_hasRule 6 M_Tb_ruleSlot 2 := ⟨⟨59, (by decide +kernel : decode prog_9_method_8_code 6 = .ok (.invokestatic 59, 3)), lw_k3 151 rfl rfl⟩, sm_Tb_ruleSlot, me_Tb_ruleSlot, pn_Tb_ruleSlot⟩
theorem i_Tb_hasRule_9 : iIns M_Tb_hasRule 9 .iaload 1 := (by decide +kernel : decode prog_9_method_8_code 9 = .ok (.iaload, 1))
theorem i_Tb_hasRule_10 : iIns M_Tb_hasRule 10 (.iconst (-1)) 1 := (by decide +kernel : decode prog_9_method_8_code 10 = .ok (.iconst (-1), 1))
theorem i_Tb_hasRule_11 : iIcmp M_Tb_hasRule 11 .eq 18 := ⟨7, (by decide +kernel : decode prog_9_method_8_code 11 = .ok (.if_icmp .eq (7), 3)), by decide⟩
theorem i_Tb_hasRule_14 : iIns M_Tb_hasRule 14 (.iconst 1) 1 := (by decide +kernel : decode prog_9_method_8_code 14 = .ok (.iconst 1, 1))
theorem i_Tb_hasRule_15 : iGoto M_Tb_hasRule 15 19 := ⟨4, (by decide +kernel : decode prog_9_method_8_code 15 = .ok (.goto (4), 3)), by decide⟩
theorem i_Tb_hasRule_18 : iIns M_Tb_hasRule 18 (.iconst 0) 1 := (by decide +kernel : decode prog_9_method_8_code 18 = .ok (.iconst 0, 1))
theorem i_Tb_hasRule_19 : iIns M_Tb_hasRule 19 .ireturn 1 := (by decide +kernel : decode prog_9_method_8_code 19 = .ok (.ireturn, 1))
theorem i_Tb_ruleSlot_0 : iIns M_Tb_ruleSlot 0 (.bipush 18) 2 := (by decide +kernel : decode prog_9_method_3_code 0 = .ok (.bipush 18, 2))
theorem i_Tb_ruleSlot_2 : iIns M_Tb_ruleSlot 2 (.iload_n 0) 1 := (by decide +kernel : decode prog_9_method_3_code 2 = .ok (.iload_n 0, 1))
theorem i_Tb_ruleSlot_3 : iIns M_Tb_ruleSlot 3 (.bipush 6) 2 := (by decide +kernel : decode prog_9_method_3_code 3 = .ok (.bipush 6, 2))
theorem i_Tb_ruleSlot_5 : iIns M_Tb_ruleSlot 5 .imul 1 := (by decide +kernel : decode prog_9_method_3_code 5 = .ok (.imul, 1))
theorem i_Tb_ruleSlot_6 : iIns M_Tb_ruleSlot 6 .iadd 1 := (by decide +kernel : decode prog_9_method_3_code 6 = .ok (.iadd, 1))
theorem i_Tb_ruleSlot_7 : iIns M_Tb_ruleSlot 7 (.iload_n 1) 1 := (by decide +kernel : decode prog_9_method_3_code 7 = .ok (.iload_n 1, 1))
theorem i_Tb_ruleSlot_8 : iIns M_Tb_ruleSlot 8 .iadd 1 := (by decide +kernel : decode prog_9_method_3_code 8 = .ok (.iadd, 1))
theorem i_Tb_ruleSlot_9 : iIns M_Tb_ruleSlot 9 .ireturn 1 := (by decide +kernel : decode prog_9_method_3_code 9 = .ok (.ireturn, 1))
theorem i_Tb_putRule_0 : iIns M_Tb_putRule 0 (.aload_n 0) 1 := (by decide +kernel : decode prog_9_method_9_code 0 = .ok (.aload_n 0, 1))
theorem i_Tb_putRule_1 : iIns M_Tb_putRule 1 (.iload_n 1) 1 := (by decide +kernel : decode prog_9_method_9_code 1 = .ok (.iload_n 1, 1))
theorem i_Tb_putRule_2 : iIns M_Tb_putRule 2 (.iload_n 2) 1 := (by decide +kernel : decode prog_9_method_9_code 2 = .ok (.iload_n 2, 1))
theorem i_Tb_putRule_3 : iCallV M_Tb_putRule 3 M_Tb_hasRule 2 9 := ⟨⟨62, (by decide +kernel : decode prog_9_method_9_code 3 = .ok (.invokevirtual 62, 3)), lw_k3 159 rfl rfl⟩, vm_Tb_hasRule, me_Tb_hasRule, pn_Tb_hasRule⟩
theorem i_Tb_putRule_6 : iIf M_Tb_putRule 6 .ne 19 := ⟨13, (by decide +kernel : decode prog_9_method_9_code 6 = .ok (.ifCond .ne (13), 3)), by decide⟩
theorem i_Tb_putRule_9 : iIns M_Tb_putRule 9 (.aload_n 0) 1 := (by decide +kernel : decode prog_9_method_9_code 9 = .ok (.aload_n 0, 1))
theorem i_Tb_putRule_10 : iIns M_Tb_putRule 10 .dup 1 := (by decide +kernel : decode prog_9_method_9_code 10 = .ok (.dup, 1))
theorem i_Tb_putRule_11 : iGet M_Tb_putRule 11 9 3 := ⟨37, (by decide +kernel : decode prog_9_method_9_code 11 = .ok (.getfield 37, 3)), fl_Tb_Tb_rules⟩
theorem i_Tb_putRule_14 : iIns M_Tb_putRule 14 (.iconst 1) 1 := (by decide +kernel : decode prog_9_method_9_code 14 = .ok (.iconst 1, 1))
theorem i_Tb_putRule_15 : iIns M_Tb_putRule 15 .iadd 1 := (by decide +kernel : decode prog_9_method_9_code 15 = .ok (.iadd, 1))
theorem i_Tb_putRule_16 : iPutX M_Tb_putRule 16 9 3 .int := ⟨37, (by decide +kernel : decode prog_9_method_9_code 16 = .ok (.putfield 37, 3)), px_Tb_Tb_rules⟩
theorem i_Tb_putRule_19 : iIns M_Tb_putRule 19 (.aload_n 0) 1 := (by decide +kernel : decode prog_9_method_9_code 19 = .ok (.aload_n 0, 1))
theorem i_Tb_putRule_20 : iIns M_Tb_putRule 20 (.iload_n 1) 1 := (by decide +kernel : decode prog_9_method_9_code 20 = .ok (.iload_n 1, 1))
theorem i_Tb_putRule_21 : iIns M_Tb_putRule 21 (.iload_n 2) 1 := (by decide +kernel : decode prog_9_method_9_code 21 = .ok (.iload_n 2, 1))
theorem i_Tb_putRule_22 : iCallS M_Tb_putRule 22 M_Tb_ruleSlot 2 := ⟨⟨59, (by decide +kernel : decode prog_9_method_9_code 22 = .ok (.invokestatic 59, 3)), lw_k3 151 rfl rfl⟩, sm_Tb_ruleSlot, me_Tb_ruleSlot, pn_Tb_ruleSlot⟩
theorem i_Tb_putRule_25 : iIns M_Tb_putRule 25 (.aload_n 3) 1 := (by decide +kernel : decode prog_9_method_9_code 25 = .ok (.aload_n 3, 1))
theorem i_Tb_putRule_26 : iCallV M_Tb_putRule 26 M_Tb_fillSlot 2 9 := ⟨⟨55, (by decide +kernel : decode prog_9_method_9_code 26 = .ok (.invokevirtual 55, 3)), lw_k3 112 rfl rfl⟩, vm_Tb_fillSlot, me_Tb_fillSlot, pn_Tb_fillSlot⟩
theorem i_Tb_putRule_29 : iIns M_Tb_putRule 29 .return_ 1 := (by decide +kernel : decode prog_9_method_9_code 29 = .ok (.return_, 1))
theorem i_Tb_dropRule_0 : iIns M_Tb_dropRule 0 (.aload_n 0) 1 := (by decide +kernel : decode prog_9_method_10_code 0 = .ok (.aload_n 0, 1))
theorem i_Tb_dropRule_1 : iIns M_Tb_dropRule 1 (.iload_n 1) 1 := (by decide +kernel : decode prog_9_method_10_code 1 = .ok (.iload_n 1, 1))
theorem i_Tb_dropRule_2 : iIns M_Tb_dropRule 2 (.iload_n 2) 1 := (by decide +kernel : decode prog_9_method_10_code 2 = .ok (.iload_n 2, 1))
theorem i_Tb_dropRule_3 : iCallV M_Tb_dropRule 3 M_Tb_hasRule 2 9 := ⟨⟨62, (by decide +kernel : decode prog_9_method_10_code 3 = .ok (.invokevirtual 62, 3)), lw_k3 159 rfl rfl⟩, vm_Tb_hasRule, me_Tb_hasRule, pn_Tb_hasRule⟩
theorem i_Tb_dropRule_6 : iIf M_Tb_dropRule 6 .ne 11 := ⟨5, (by decide +kernel : decode prog_9_method_10_code 6 = .ok (.ifCond .ne (5), 3)), by decide⟩
theorem i_Tb_dropRule_9 : iIns M_Tb_dropRule 9 (.iconst 0) 1 := (by decide +kernel : decode prog_9_method_10_code 9 = .ok (.iconst 0, 1))
theorem i_Tb_dropRule_10 : iIns M_Tb_dropRule 10 .ireturn 1 := (by decide +kernel : decode prog_9_method_10_code 10 = .ok (.ireturn, 1))
theorem i_Tb_dropRule_11 : iIns M_Tb_dropRule 11 (.aload_n 0) 1 := (by decide +kernel : decode prog_9_method_10_code 11 = .ok (.aload_n 0, 1))
theorem i_Tb_dropRule_12 : iGet M_Tb_dropRule 12 9 1 := ⟨15, (by decide +kernel : decode prog_9_method_10_code 12 = .ok (.getfield 15, 3)), fl_Tb_Tb_lengths⟩
theorem i_Tb_dropRule_15 : iIns M_Tb_dropRule 15 (.iload_n 1) 1 := (by decide +kernel : decode prog_9_method_10_code 15 = .ok (.iload_n 1, 1))
theorem i_Tb_dropRule_16 : iIns M_Tb_dropRule 16 (.iload_n 2) 1 := (by decide +kernel : decode prog_9_method_10_code 16 = .ok (.iload_n 2, 1))
theorem i_Tb_dropRule_17 : iCallS M_Tb_dropRule 17 M_Tb_ruleSlot 2 := ⟨⟨59, (by decide +kernel : decode prog_9_method_10_code 17 = .ok (.invokestatic 59, 3)), lw_k3 151 rfl rfl⟩, sm_Tb_ruleSlot, me_Tb_ruleSlot, pn_Tb_ruleSlot⟩
theorem i_Tb_dropRule_20 : iIns M_Tb_dropRule 20 (.iconst (-1)) 1 := (by decide +kernel : decode prog_9_method_10_code 20 = .ok (.iconst (-1), 1))
theorem i_Tb_dropRule_21 : iIns M_Tb_dropRule 21 .iastore 1 := (by decide +kernel : decode prog_9_method_10_code 21 = .ok (.iastore, 1))
theorem i_Tb_dropRule_22 : iIns M_Tb_dropRule 22 (.aload_n 0) 1 := (by decide +kernel : decode prog_9_method_10_code 22 = .ok (.aload_n 0, 1))
theorem i_Tb_dropRule_23 : iIns M_Tb_dropRule 23 .dup 1 := (by decide +kernel : decode prog_9_method_10_code 23 = .ok (.dup, 1))
theorem i_Tb_dropRule_24 : iGet M_Tb_dropRule 24 9 3 := ⟨37, (by decide +kernel : decode prog_9_method_10_code 24 = .ok (.getfield 37, 3)), fl_Tb_Tb_rules⟩
theorem i_Tb_dropRule_27 : iIns M_Tb_dropRule 27 (.iconst 1) 1 := (by decide +kernel : decode prog_9_method_10_code 27 = .ok (.iconst 1, 1))
theorem i_Tb_dropRule_28 : iIns M_Tb_dropRule 28 .isub 1 := (by decide +kernel : decode prog_9_method_10_code 28 = .ok (.isub, 1))
theorem i_Tb_dropRule_29 : iPutX M_Tb_dropRule 29 9 3 .int := ⟨37, (by decide +kernel : decode prog_9_method_10_code 29 = .ok (.putfield 37, 3)), px_Tb_Tb_rules⟩
theorem i_Tb_dropRule_32 : iIns M_Tb_dropRule 32 (.iconst 1) 1 := (by decide +kernel : decode prog_9_method_10_code 32 = .ok (.iconst 1, 1))
theorem i_Tb_dropRule_33 : iIns M_Tb_dropRule 33 .ireturn 1 := (by decide +kernel : decode prog_9_method_10_code 33 = .ok (.ireturn, 1))
theorem i_Tb_leavesNoChoice_0 : iIns M_Tb_leavesNoChoice 0 (.iconst 0) 1 := (by decide +kernel : decode prog_9_method_11_code 0 = .ok (.iconst 0, 1))
theorem i_Tb_leavesNoChoice_1 : iIns M_Tb_leavesNoChoice 1 (.istore_n 1) 1 := (by decide +kernel : decode prog_9_method_11_code 1 = .ok (.istore_n 1, 1))
theorem i_Tb_leavesNoChoice_2 : iIns M_Tb_leavesNoChoice 2 (.iload_n 1) 1 := (by decide +kernel : decode prog_9_method_11_code 2 = .ok (.iload_n 1, 1))
theorem i_Tb_leavesNoChoice_3 : iIns M_Tb_leavesNoChoice 3 (.bipush 6) 2 := (by decide +kernel : decode prog_9_method_11_code 3 = .ok (.bipush 6, 2))
theorem i_Tb_leavesNoChoice_5 : iIcmp M_Tb_leavesNoChoice 5 .ge 26 := ⟨21, (by decide +kernel : decode prog_9_method_11_code 5 = .ok (.if_icmp .ge (21), 3)), by decide⟩
theorem i_Tb_leavesNoChoice_8 : iIns M_Tb_leavesNoChoice 8 (.aload_n 0) 1 := (by decide +kernel : decode prog_9_method_11_code 8 = .ok (.aload_n 0, 1))
theorem i_Tb_leavesNoChoice_9 : iGet M_Tb_leavesNoChoice 9 9 0 := ⟨9, (by decide +kernel : decode prog_9_method_11_code 9 = .ok (.getfield 9, 3)), fl_Tb_Tb_listSizes⟩
theorem i_Tb_leavesNoChoice_12 : iIns M_Tb_leavesNoChoice 12 (.iload_n 1) 1 := (by decide +kernel : decode prog_9_method_11_code 12 = .ok (.iload_n 1, 1))
theorem i_Tb_leavesNoChoice_13 : iIns M_Tb_leavesNoChoice 13 .iaload 1 := (by decide +kernel : decode prog_9_method_11_code 13 = .ok (.iaload, 1))
theorem i_Tb_leavesNoChoice_14 : iIns M_Tb_leavesNoChoice 14 (.iconst 1) 1 := (by decide +kernel : decode prog_9_method_11_code 14 = .ok (.iconst 1, 1))
theorem i_Tb_leavesNoChoice_15 : iIcmp M_Tb_leavesNoChoice 15 .eq 20 := ⟨5, (by decide +kernel : decode prog_9_method_11_code 15 = .ok (.if_icmp .eq (5), 3)), by decide⟩
theorem i_Tb_leavesNoChoice_18 : iIns M_Tb_leavesNoChoice 18 (.iconst 0) 1 := (by decide +kernel : decode prog_9_method_11_code 18 = .ok (.iconst 0, 1))
theorem i_Tb_leavesNoChoice_19 : iIns M_Tb_leavesNoChoice 19 .ireturn 1 := (by decide +kernel : decode prog_9_method_11_code 19 = .ok (.ireturn, 1))
theorem i_Tb_leavesNoChoice_20 : iIns M_Tb_leavesNoChoice 20 (.iinc 1 (1)) 3 := (by decide +kernel : decode prog_9_method_11_code 20 = .ok (.iinc 1 (1), 3))
theorem i_Tb_leavesNoChoice_23 : iGoto M_Tb_leavesNoChoice 23 2 := ⟨-21, (by decide +kernel : decode prog_9_method_11_code 23 = .ok (.goto (-21), 3)), by decide⟩
theorem i_Tb_leavesNoChoice_26 : iIns M_Tb_leavesNoChoice 26 (.iconst 1) 1 := (by decide +kernel : decode prog_9_method_11_code 26 = .ok (.iconst 1, 1))
theorem i_Tb_leavesNoChoice_27 : iIns M_Tb_leavesNoChoice 27 .ireturn 1 := (by decide +kernel : decode prog_9_method_11_code 27 = .ok (.ireturn, 1))
theorem i_Tb_rewrite_0 : iIns M_Tb_rewrite 0 (.iload_n 2) 1 := (by decide +kernel : decode prog_9_method_14_code 0 = .ok (.iload_n 2, 1))
theorem i_Tb_rewrite_1 : iIns M_Tb_rewrite 1 (.istore 4) 2 := (by decide +kernel : decode prog_9_method_14_code 1 = .ok (.istore 4, 2))
theorem i_Tb_rewrite_3 : iIns M_Tb_rewrite 3 (.aload_n 3) 1 := (by decide +kernel : decode prog_9_method_14_code 3 = .ok (.aload_n 3, 1))
theorem i_Tb_rewrite_4 : iIns M_Tb_rewrite 4 (.iconst 0) 1 := (by decide +kernel : decode prog_9_method_14_code 4 = .ok (.iconst 0, 1))
theorem i_Tb_rewrite_5 : iPutX M_Tb_rewrite 5 12 1 .int := ⟨69, (by decide +kernel : decode prog_9_method_14_code 5 = .ok (.putfield 69, 3)), px_Tb_Wd_length⟩
theorem i_Tb_rewrite_8 : iIns M_Tb_rewrite 8 (.iconst 0) 1 := (by decide +kernel : decode prog_9_method_14_code 8 = .ok (.iconst 0, 1))
theorem i_Tb_rewrite_9 : iIns M_Tb_rewrite 9 (.istore 5) 2 := (by decide +kernel : decode prog_9_method_14_code 9 = .ok (.istore 5, 2))
theorem i_Tb_rewrite_11 : iIns M_Tb_rewrite 11 (.iload 5) 2 := (by decide +kernel : decode prog_9_method_14_code 11 = .ok (.iload 5, 2))
theorem i_Tb_rewrite_13 : iIns M_Tb_rewrite 13 (.aload_n 1) 1 := (by decide +kernel : decode prog_9_method_14_code 13 = .ok (.aload_n 1, 1))
theorem i_Tb_rewrite_14 : iGet M_Tb_rewrite 14 12 1 := ⟨69, (by decide +kernel : decode prog_9_method_14_code 14 = .ok (.getfield 69, 3)), fl_Tb_Wd_length⟩
theorem i_Tb_rewrite_17 : iIcmp M_Tb_rewrite 17 .ge 82 := ⟨65, (by decide +kernel : decode prog_9_method_14_code 17 = .ok (.if_icmp .ge (65), 3)), by decide⟩
theorem i_Tb_rewrite_20 : iIns M_Tb_rewrite 20 (.aload_n 0) 1 := (by decide +kernel : decode prog_9_method_14_code 20 = .ok (.aload_n 0, 1))
theorem i_Tb_rewrite_21 : iIns M_Tb_rewrite 21 (.aload_n 1) 1 := (by decide +kernel : decode prog_9_method_14_code 21 = .ok (.aload_n 1, 1))
theorem i_Tb_rewrite_22 : iIns M_Tb_rewrite 22 (.iload 5) 2 := (by decide +kernel : decode prog_9_method_14_code 22 = .ok (.iload 5, 2))
theorem i_Tb_rewrite_24 : iCallV M_Tb_rewrite 24 M_Tb_ruleSlotAt 2 9 := ⟨⟨70, (by decide +kernel : decode prog_9_method_14_code 24 = .ok (.invokevirtual 70, 3)), lw_k3 235 rfl rfl⟩, vm_Tb_ruleSlotAt, me_Tb_ruleSlotAt, pn_Tb_ruleSlotAt⟩
theorem i_Tb_rewrite_27 : iIns M_Tb_rewrite 27 (.istore 6) 2 := (by decide +kernel : decode prog_9_method_14_code 27 = .ok (.istore 6, 2))
theorem i_Tb_rewrite_29 : iIns M_Tb_rewrite 29 (.iload 6) 2 := (by decide +kernel : decode prog_9_method_14_code 29 = .ok (.iload 6, 2))
theorem i_Tb_rewrite_31 : iIns M_Tb_rewrite 31 (.iconst (-1)) 1 := (by decide +kernel : decode prog_9_method_14_code 31 = .ok (.iconst (-1), 1))
theorem i_Tb_rewrite_32 : iIcmp M_Tb_rewrite 32 .ne 64 := ⟨32, (by decide +kernel : decode prog_9_method_14_code 32 = .ok (.if_icmp .ne (32), 3)), by decide⟩
theorem i_Tb_rewrite_35 : iIns M_Tb_rewrite 35 (.iload 4) 2 := (by decide +kernel : decode prog_9_method_14_code 35 = .ok (.iload 4, 2))
theorem i_Tb_rewrite_37 : iLdcI M_Tb_rewrite 37 (1103515245) := ⟨74, (by decide +kernel : decode prog_9_method_14_code 37 = .ok (.ldc 74, 2)), lw_k3 239 rfl rfl⟩
theorem i_Tb_rewrite_39 : iIns M_Tb_rewrite 39 .imul 1 := (by decide +kernel : decode prog_9_method_14_code 39 = .ok (.imul, 1))
theorem i_Tb_rewrite_40 : iIns M_Tb_rewrite 40 (.sipush 12345) 3 := (by decide +kernel : decode prog_9_method_14_code 40 = .ok (.sipush 12345, 3))
theorem i_Tb_rewrite_43 : iIns M_Tb_rewrite 43 .iadd 1 := (by decide +kernel : decode prog_9_method_14_code 43 = .ok (.iadd, 1))
theorem i_Tb_rewrite_44 : iIns M_Tb_rewrite 44 (.istore 4) 2 := (by decide +kernel : decode prog_9_method_14_code 44 = .ok (.istore 4, 2))
theorem i_Tb_rewrite_46 : iIns M_Tb_rewrite 46 (.aload_n 0) 1 := (by decide +kernel : decode prog_9_method_14_code 46 = .ok (.aload_n 0, 1))
theorem i_Tb_rewrite_47 : iIns M_Tb_rewrite 47 (.aload_n 1) 1 := (by decide +kernel : decode prog_9_method_14_code 47 = .ok (.aload_n 1, 1))
theorem i_Tb_rewrite_48 : iGet M_Tb_rewrite 48 12 0 := ⟨66, (by decide +kernel : decode prog_9_method_14_code 48 = .ok (.getfield 66, 3)), fl_Tb_Wd_letters⟩
theorem i_Tb_rewrite_51 : iIns M_Tb_rewrite 51 (.iload 5) 2 := (by decide +kernel : decode prog_9_method_14_code 51 = .ok (.iload 5, 2))
theorem i_Tb_rewrite_53 : iIns M_Tb_rewrite 53 .iaload 1 := (by decide +kernel : decode prog_9_method_14_code 53 = .ok (.iaload, 1))
theorem i_Tb_rewrite_54 : iIns M_Tb_rewrite 54 (.iload 4) 2 := (by decide +kernel : decode prog_9_method_14_code 54 = .ok (.iload 4, 2))
theorem i_Tb_rewrite_56 : iIns M_Tb_rewrite 56 (.bipush 16) 2 := (by decide +kernel : decode prog_9_method_14_code 56 = .ok (.bipush 16, 2))
theorem i_Tb_rewrite_58 : iIns M_Tb_rewrite 58 .iushr 1 := (by decide +kernel : decode prog_9_method_14_code 58 = .ok (.iushr, 1))
theorem i_Tb_rewrite_59 : iCallV M_Tb_rewrite 59 M_Tb_chosenSlot 2 9 := ⟨⟨75, (by decide +kernel : decode prog_9_method_14_code 59 = .ok (.invokevirtual 75, 3)), lw_k4 0 rfl rfl⟩, vm_Tb_chosenSlot, me_Tb_chosenSlot, pn_Tb_chosenSlot⟩
theorem i_Tb_rewrite_62 : iIns M_Tb_rewrite 62 (.istore 6) 2 := (by decide +kernel : decode prog_9_method_14_code 62 = .ok (.istore 6, 2))
theorem i_Tb_rewrite_64 : iIns M_Tb_rewrite 64 (.aload_n 0) 1 := (by decide +kernel : decode prog_9_method_14_code 64 = .ok (.aload_n 0, 1))
theorem i_Tb_rewrite_65 : iIns M_Tb_rewrite 65 (.iload 6) 2 := (by decide +kernel : decode prog_9_method_14_code 65 = .ok (.iload 6, 2))
theorem i_Tb_rewrite_67 : iIns M_Tb_rewrite 67 (.aload_n 3) 1 := (by decide +kernel : decode prog_9_method_14_code 67 = .ok (.aload_n 3, 1))
theorem i_Tb_rewrite_68 : iCallV M_Tb_rewrite 68 M_Tb_appendSlot 2 9 := ⟨⟨78, (by decide +kernel : decode prog_9_method_14_code 68 = .ok (.invokevirtual 78, 3)), lw_k4 4 rfl rfl⟩, vm_Tb_appendSlot, me_Tb_appendSlot, pn_Tb_appendSlot⟩
theorem i_Tb_rewrite_71 : iIf M_Tb_rewrite 71 .ne 76 := ⟨5, (by decide +kernel : decode prog_9_method_14_code 71 = .ok (.ifCond .ne (5), 3)), by decide⟩
theorem i_Tb_rewrite_74 : iIns M_Tb_rewrite 74 (.iconst 0) 1 := (by decide +kernel : decode prog_9_method_14_code 74 = .ok (.iconst 0, 1))
theorem i_Tb_rewrite_75 : iIns M_Tb_rewrite 75 .ireturn 1 := (by decide +kernel : decode prog_9_method_14_code 75 = .ok (.ireturn, 1))
theorem i_Tb_rewrite_76 : iIns M_Tb_rewrite 76 (.iinc 5 (1)) 3 := (by decide +kernel : decode prog_9_method_14_code 76 = .ok (.iinc 5 (1), 3))
theorem i_Tb_rewrite_79 : iGoto M_Tb_rewrite 79 11 := ⟨-68, (by decide +kernel : decode prog_9_method_14_code 79 = .ok (.goto (-68), 3)), by decide⟩
theorem i_Tb_rewrite_82 : iIns M_Tb_rewrite 82 (.iconst 1) 1 := (by decide +kernel : decode prog_9_method_14_code 82 = .ok (.iconst 1, 1))
theorem i_Tb_rewrite_83 : iIns M_Tb_rewrite 83 .ireturn 1 := (by decide +kernel : decode prog_9_method_14_code 83 = .ok (.ireturn, 1))
theorem i_Tb_ruleSlotAt_0 : iIns M_Tb_ruleSlotAt 0 (.iload_n 2) 1 := (by decide +kernel : decode prog_9_method_13_code 0 = .ok (.iload_n 2, 1))
theorem i_Tb_ruleSlotAt_1 : iIns M_Tb_ruleSlotAt 1 (.iconst 1) 1 := (by decide +kernel : decode prog_9_method_13_code 1 = .ok (.iconst 1, 1))
theorem i_Tb_ruleSlotAt_2 : iIcmp M_Tb_ruleSlotAt 2 .ge 7 := ⟨5, (by decide +kernel : decode prog_9_method_13_code 2 = .ok (.if_icmp .ge (5), 3)), by decide⟩
theorem i_Tb_ruleSlotAt_5 : iIns M_Tb_ruleSlotAt 5 (.iconst (-1)) 1 := (by decide +kernel : decode prog_9_method_13_code 5 = .ok (.iconst (-1), 1))
theorem i_Tb_ruleSlotAt_6 : iIns M_Tb_ruleSlotAt 6 .ireturn 1 := (by decide +kernel : decode prog_9_method_13_code 6 = .ok (.ireturn, 1))
theorem i_Tb_ruleSlotAt_7 : iIns M_Tb_ruleSlotAt 7 (.aload_n 1) 1 := (by decide +kernel : decode prog_9_method_13_code 7 = .ok (.aload_n 1, 1))
theorem i_Tb_ruleSlotAt_8 : iGet M_Tb_ruleSlotAt 8 12 0 := ⟨66, (by decide +kernel : decode prog_9_method_13_code 8 = .ok (.getfield 66, 3)), fl_Tb_Wd_letters⟩
theorem i_Tb_ruleSlotAt_11 : iIns M_Tb_ruleSlotAt 11 (.iload_n 2) 1 := (by decide +kernel : decode prog_9_method_13_code 11 = .ok (.iload_n 2, 1))
theorem i_Tb_ruleSlotAt_12 : iIns M_Tb_ruleSlotAt 12 (.iconst 1) 1 := (by decide +kernel : decode prog_9_method_13_code 12 = .ok (.iconst 1, 1))
theorem i_Tb_ruleSlotAt_13 : iIns M_Tb_ruleSlotAt 13 .isub 1 := (by decide +kernel : decode prog_9_method_13_code 13 = .ok (.isub, 1))
theorem i_Tb_ruleSlotAt_14 : iIns M_Tb_ruleSlotAt 14 .iaload 1 := (by decide +kernel : decode prog_9_method_13_code 14 = .ok (.iaload, 1))
theorem i_Tb_ruleSlotAt_15 : iIns M_Tb_ruleSlotAt 15 (.aload_n 1) 1 := (by decide +kernel : decode prog_9_method_13_code 15 = .ok (.aload_n 1, 1))
theorem i_Tb_ruleSlotAt_16 : iGet M_Tb_ruleSlotAt 16 12 0 := ⟨66, (by decide +kernel : decode prog_9_method_13_code 16 = .ok (.getfield 66, 3)), fl_Tb_Wd_letters⟩
theorem i_Tb_ruleSlotAt_19 : iIns M_Tb_ruleSlotAt 19 (.iload_n 2) 1 := (by decide +kernel : decode prog_9_method_13_code 19 = .ok (.iload_n 2, 1))
theorem i_Tb_ruleSlotAt_20 : iIns M_Tb_ruleSlotAt 20 .iaload 1 := (by decide +kernel : decode prog_9_method_13_code 20 = .ok (.iaload, 1))
theorem i_Tb_ruleSlotAt_21 : iCallS M_Tb_ruleSlotAt 21 M_Tb_ruleSlot 2 := ⟨⟨59, (by decide +kernel : decode prog_9_method_13_code 21 = .ok (.invokestatic 59, 3)), lw_k3 151 rfl rfl⟩, sm_Tb_ruleSlot, me_Tb_ruleSlot, pn_Tb_ruleSlot⟩
theorem i_Tb_ruleSlotAt_24 : iIns M_Tb_ruleSlotAt 24 (.istore_n 3) 1 := (by decide +kernel : decode prog_9_method_13_code 24 = .ok (.istore_n 3, 1))
theorem i_Tb_ruleSlotAt_25 : iIns M_Tb_ruleSlotAt 25 (.aload_n 0) 1 := (by decide +kernel : decode prog_9_method_13_code 25 = .ok (.aload_n 0, 1))
theorem i_Tb_ruleSlotAt_26 : iGet M_Tb_ruleSlotAt 26 9 1 := ⟨15, (by decide +kernel : decode prog_9_method_13_code 26 = .ok (.getfield 15, 3)), fl_Tb_Tb_lengths⟩
theorem i_Tb_ruleSlotAt_29 : iIns M_Tb_ruleSlotAt 29 (.iload_n 3) 1 := (by decide +kernel : decode prog_9_method_13_code 29 = .ok (.iload_n 3, 1))
theorem i_Tb_ruleSlotAt_30 : iIns M_Tb_ruleSlotAt 30 .iaload 1 := (by decide +kernel : decode prog_9_method_13_code 30 = .ok (.iaload, 1))
theorem i_Tb_ruleSlotAt_31 : iIns M_Tb_ruleSlotAt 31 (.iconst (-1)) 1 := (by decide +kernel : decode prog_9_method_13_code 31 = .ok (.iconst (-1), 1))
theorem i_Tb_ruleSlotAt_32 : iIcmp M_Tb_ruleSlotAt 32 .ne 39 := ⟨7, (by decide +kernel : decode prog_9_method_13_code 32 = .ok (.if_icmp .ne (7), 3)), by decide⟩
theorem i_Tb_ruleSlotAt_35 : iIns M_Tb_ruleSlotAt 35 (.iconst (-1)) 1 := (by decide +kernel : decode prog_9_method_13_code 35 = .ok (.iconst (-1), 1))
theorem i_Tb_ruleSlotAt_36 : iGoto M_Tb_ruleSlotAt 36 40 := ⟨4, (by decide +kernel : decode prog_9_method_13_code 36 = .ok (.goto (4), 3)), by decide⟩
theorem i_Tb_ruleSlotAt_39 : iIns M_Tb_ruleSlotAt 39 (.iload_n 3) 1 := (by decide +kernel : decode prog_9_method_13_code 39 = .ok (.iload_n 3, 1))
theorem i_Tb_ruleSlotAt_40 : iIns M_Tb_ruleSlotAt 40 .ireturn 1 := (by decide +kernel : decode prog_9_method_13_code 40 = .ok (.ireturn, 1))
theorem i_Tb_chosenSlot_0 : iIns M_Tb_chosenSlot 0 (.aload_n 0) 1 := (by decide +kernel : decode prog_9_method_15_code 0 = .ok (.aload_n 0, 1))
theorem i_Tb_chosenSlot_1 : iGet M_Tb_chosenSlot 1 9 0 := ⟨9, (by decide +kernel : decode prog_9_method_15_code 1 = .ok (.getfield 9, 3)), fl_Tb_Tb_listSizes⟩
theorem i_Tb_chosenSlot_4 : iIns M_Tb_chosenSlot 4 (.iload_n 1) 1 := (by decide +kernel : decode prog_9_method_15_code 4 = .ok (.iload_n 1, 1))
theorem i_Tb_chosenSlot_5 : iIns M_Tb_chosenSlot 5 .iaload 1 := (by decide +kernel : decode prog_9_method_15_code 5 = .ok (.iaload, 1))
theorem i_Tb_chosenSlot_6 : iIns M_Tb_chosenSlot 6 (.istore_n 3) 1 := (by decide +kernel : decode prog_9_method_15_code 6 = .ok (.istore_n 3, 1))
theorem i_Tb_chosenSlot_7 : iIns M_Tb_chosenSlot 7 (.iload_n 1) 1 := (by decide +kernel : decode prog_9_method_15_code 7 = .ok (.iload_n 1, 1))
theorem i_Tb_chosenSlot_8 : iIns M_Tb_chosenSlot 8 (.iload_n 3) 1 := (by decide +kernel : decode prog_9_method_15_code 8 = .ok (.iload_n 3, 1))
theorem i_Tb_chosenSlot_9 : iIns M_Tb_chosenSlot 9 (.iconst 1) 1 := (by decide +kernel : decode prog_9_method_15_code 9 = .ok (.iconst 1, 1))
theorem i_Tb_chosenSlot_10 : iIcmp M_Tb_chosenSlot 10 .le 19 := ⟨9, (by decide +kernel : decode prog_9_method_15_code 10 = .ok (.if_icmp .le (9), 3)), by decide⟩
theorem i_Tb_chosenSlot_13 : iIns M_Tb_chosenSlot 13 (.iload_n 2) 1 := (by decide +kernel : decode prog_9_method_15_code 13 = .ok (.iload_n 2, 1))
theorem i_Tb_chosenSlot_14 : iIns M_Tb_chosenSlot 14 (.iload_n 3) 1 := (by decide +kernel : decode prog_9_method_15_code 14 = .ok (.iload_n 3, 1))
theorem i_Tb_chosenSlot_15 : iIns M_Tb_chosenSlot 15 .irem 1 := (by decide +kernel : decode prog_9_method_15_code 15 = .ok (.irem, 1))
theorem i_Tb_chosenSlot_16 : iGoto M_Tb_chosenSlot 16 20 := ⟨4, (by decide +kernel : decode prog_9_method_15_code 16 = .ok (.goto (4), 3)), by decide⟩
theorem i_Tb_chosenSlot_19 : iIns M_Tb_chosenSlot 19 (.iconst 0) 1 := (by decide +kernel : decode prog_9_method_15_code 19 = .ok (.iconst 0, 1))
theorem i_Tb_chosenSlot_20 : iCallS M_Tb_chosenSlot 20 M_Tb_listSlot 2 := ⟨⟨27, (by decide +kernel : decode prog_9_method_15_code 20 = .ok (.invokestatic 27, 3)), lw_k1 73 rfl rfl⟩, sm_Tb_listSlot, me_Tb_listSlot, pn_Tb_listSlot⟩
theorem i_Tb_chosenSlot_23 : iIns M_Tb_chosenSlot 23 .ireturn 1 := (by decide +kernel : decode prog_9_method_15_code 23 = .ok (.ireturn, 1))
theorem i_Tb_appendSlot_0 : iIns M_Tb_appendSlot 0 (.iconst 0) 1 := (by decide +kernel : decode prog_9_method_16_code 0 = .ok (.iconst 0, 1))
theorem i_Tb_appendSlot_1 : iIns M_Tb_appendSlot 1 (.istore_n 3) 1 := (by decide +kernel : decode prog_9_method_16_code 1 = .ok (.istore_n 3, 1))
theorem i_Tb_appendSlot_2 : iIns M_Tb_appendSlot 2 (.iload_n 3) 1 := (by decide +kernel : decode prog_9_method_16_code 2 = .ok (.iload_n 3, 1))
theorem i_Tb_appendSlot_3 : iIns M_Tb_appendSlot 3 (.aload_n 0) 1 := (by decide +kernel : decode prog_9_method_16_code 3 = .ok (.aload_n 0, 1))
theorem i_Tb_appendSlot_4 : iGet M_Tb_appendSlot 4 9 1 := ⟨15, (by decide +kernel : decode prog_9_method_16_code 4 = .ok (.getfield 15, 3)), fl_Tb_Tb_lengths⟩
theorem i_Tb_appendSlot_7 : iIns M_Tb_appendSlot 7 (.iload_n 1) 1 := (by decide +kernel : decode prog_9_method_16_code 7 = .ok (.iload_n 1, 1))
theorem i_Tb_appendSlot_8 : iIns M_Tb_appendSlot 8 .iaload 1 := (by decide +kernel : decode prog_9_method_16_code 8 = .ok (.iaload, 1))
theorem i_Tb_appendSlot_9 : iIcmp M_Tb_appendSlot 9 .ge 33 := ⟨24, (by decide +kernel : decode prog_9_method_16_code 9 = .ok (.if_icmp .ge (24), 3)), by decide⟩
theorem i_Tb_appendSlot_12 : iIns M_Tb_appendSlot 12 (.aload_n 2) 1 := (by decide +kernel : decode prog_9_method_16_code 12 = .ok (.aload_n 2, 1))
theorem i_Tb_appendSlot_13 : iIns M_Tb_appendSlot 13 (.aload_n 0) 1 := (by decide +kernel : decode prog_9_method_16_code 13 = .ok (.aload_n 0, 1))
theorem i_Tb_appendSlot_14 : iIns M_Tb_appendSlot 14 (.iload_n 1) 1 := (by decide +kernel : decode prog_9_method_16_code 14 = .ok (.iload_n 1, 1))
theorem i_Tb_appendSlot_15 : iIns M_Tb_appendSlot 15 (.iload_n 3) 1 := (by decide +kernel : decode prog_9_method_16_code 15 = .ok (.iload_n 3, 1))
theorem i_Tb_appendSlot_16 : iCallV M_Tb_appendSlot 16 M_Tb_letterOf 2 9 := ⟨⟨82, (by decide +kernel : decode prog_9_method_16_code 16 = .ok (.invokevirtual 82, 3)), lw_k4 8 rfl rfl⟩, vm_Tb_letterOf, me_Tb_letterOf, pn_Tb_letterOf⟩
theorem i_Tb_appendSlot_19 : iCallV M_Tb_appendSlot 19 M_Wd_append 1 12 := ⟨⟨85, (by decide +kernel : decode prog_9_method_16_code 19 = .ok (.invokevirtual 85, 3)), lw_k4 12 rfl rfl⟩, vm_Wd_append, me_Wd_append, pn_Wd_append⟩
theorem i_Tb_appendSlot_22 : iIf M_Tb_appendSlot 22 .ne 27 := ⟨5, (by decide +kernel : decode prog_9_method_16_code 22 = .ok (.ifCond .ne (5), 3)), by decide⟩
theorem i_Tb_appendSlot_25 : iIns M_Tb_appendSlot 25 (.iconst 0) 1 := (by decide +kernel : decode prog_9_method_16_code 25 = .ok (.iconst 0, 1))
theorem i_Tb_appendSlot_26 : iIns M_Tb_appendSlot 26 .ireturn 1 := (by decide +kernel : decode prog_9_method_16_code 26 = .ok (.ireturn, 1))
theorem i_Tb_appendSlot_27 : iIns M_Tb_appendSlot 27 (.iinc 3 (1)) 3 := (by decide +kernel : decode prog_9_method_16_code 27 = .ok (.iinc 3 (1), 3))
theorem i_Tb_appendSlot_30 : iGoto M_Tb_appendSlot 30 2 := ⟨-28, (by decide +kernel : decode prog_9_method_16_code 30 = .ok (.goto (-28), 3)), by decide⟩
theorem i_Tb_appendSlot_33 : iIns M_Tb_appendSlot 33 (.iconst 1) 1 := (by decide +kernel : decode prog_9_method_16_code 33 = .ok (.iconst 1, 1))
theorem i_Tb_appendSlot_34 : iIns M_Tb_appendSlot 34 .ireturn 1 := (by decide +kernel : decode prog_9_method_16_code 34 = .ok (.ireturn, 1))
theorem i_Tb_letterOf_0 : iIns M_Tb_letterOf 0 (.aload_n 0) 1 := (by decide +kernel : decode prog_9_method_12_code 0 = .ok (.aload_n 0, 1))
theorem i_Tb_letterOf_1 : iGet M_Tb_letterOf 1 9 2 := ⟨18, (by decide +kernel : decode prog_9_method_12_code 1 = .ok (.getfield 18, 3)), fl_Tb_Tb_letters⟩
theorem i_Tb_letterOf_4 : iIns M_Tb_letterOf 4 (.iload_n 1) 1 := (by decide +kernel : decode prog_9_method_12_code 4 = .ok (.iload_n 1, 1))
theorem i_Tb_letterOf_5 : iIns M_Tb_letterOf 5 (.iconst 4) 1 := (by decide +kernel : decode prog_9_method_12_code 5 = .ok (.iconst 4, 1))
theorem i_Tb_letterOf_6 : iIns M_Tb_letterOf 6 .imul 1 := (by decide +kernel : decode prog_9_method_12_code 6 = .ok (.imul, 1))
theorem i_Tb_letterOf_7 : iIns M_Tb_letterOf 7 (.iload_n 2) 1 := (by decide +kernel : decode prog_9_method_12_code 7 = .ok (.iload_n 2, 1))
theorem i_Tb_letterOf_8 : iIns M_Tb_letterOf 8 .iadd 1 := (by decide +kernel : decode prog_9_method_12_code 8 = .ok (.iadd, 1))
theorem i_Tb_letterOf_9 : iIns M_Tb_letterOf 9 .iaload 1 := (by decide +kernel : decode prog_9_method_12_code 9 = .ok (.iaload, 1))
theorem i_Tb_letterOf_10 : iIns M_Tb_letterOf 10 .ireturn 1 := (by decide +kernel : decode prog_9_method_12_code 10 = .ok (.ireturn, 1))
theorem i_Tb_listIsUniform_0 : iIns M_Tb_listIsUniform 0 (.iconst 1) 1 := (by decide +kernel : decode prog_9_method_17_code 0 = .ok (.iconst 1, 1))
theorem i_Tb_listIsUniform_1 : iIns M_Tb_listIsUniform 1 (.istore_n 2) 1 := (by decide +kernel : decode prog_9_method_17_code 1 = .ok (.istore_n 2, 1))
theorem i_Tb_listIsUniform_2 : iIns M_Tb_listIsUniform 2 (.iload_n 2) 1 := (by decide +kernel : decode prog_9_method_17_code 2 = .ok (.iload_n 2, 1))
theorem i_Tb_listIsUniform_3 : iIns M_Tb_listIsUniform 3 (.aload_n 0) 1 := (by decide +kernel : decode prog_9_method_17_code 3 = .ok (.aload_n 0, 1))
theorem i_Tb_listIsUniform_4 : iGet M_Tb_listIsUniform 4 9 0 := ⟨9, (by decide +kernel : decode prog_9_method_17_code 4 = .ok (.getfield 9, 3)), fl_Tb_Tb_listSizes⟩
theorem i_Tb_listIsUniform_7 : iIns M_Tb_listIsUniform 7 (.iload_n 1) 1 := (by decide +kernel : decode prog_9_method_17_code 7 = .ok (.iload_n 1, 1))
theorem i_Tb_listIsUniform_8 : iIns M_Tb_listIsUniform 8 .iaload 1 := (by decide +kernel : decode prog_9_method_17_code 8 = .ok (.iaload, 1))
theorem i_Tb_listIsUniform_9 : iIcmp M_Tb_listIsUniform 9 .ge 37 := ⟨28, (by decide +kernel : decode prog_9_method_17_code 9 = .ok (.if_icmp .ge (28), 3)), by decide⟩
theorem i_Tb_listIsUniform_12 : iIns M_Tb_listIsUniform 12 (.aload_n 0) 1 := (by decide +kernel : decode prog_9_method_17_code 12 = .ok (.aload_n 0, 1))
theorem i_Tb_listIsUniform_13 : iIns M_Tb_listIsUniform 13 (.iload_n 1) 1 := (by decide +kernel : decode prog_9_method_17_code 13 = .ok (.iload_n 1, 1))
theorem i_Tb_listIsUniform_14 : iIns M_Tb_listIsUniform 14 (.iconst 0) 1 := (by decide +kernel : decode prog_9_method_17_code 14 = .ok (.iconst 0, 1))
theorem i_Tb_listIsUniform_15 : iCallS M_Tb_listIsUniform 15 M_Tb_listSlot 2 := ⟨⟨27, (by decide +kernel : decode prog_9_method_17_code 15 = .ok (.invokestatic 27, 3)), lw_k1 73 rfl rfl⟩, sm_Tb_listSlot, me_Tb_listSlot, pn_Tb_listSlot⟩
theorem i_Tb_listIsUniform_18 : iIns M_Tb_listIsUniform 18 (.iload_n 1) 1 := (by decide +kernel : decode prog_9_method_17_code 18 = .ok (.iload_n 1, 1))
theorem i_Tb_listIsUniform_19 : iIns M_Tb_listIsUniform 19 (.iload_n 2) 1 := (by decide +kernel : decode prog_9_method_17_code 19 = .ok (.iload_n 2, 1))
theorem i_Tb_listIsUniform_20 : iCallS M_Tb_listIsUniform 20 M_Tb_listSlot 2 := ⟨⟨27, (by decide +kernel : decode prog_9_method_17_code 20 = .ok (.invokestatic 27, 3)), lw_k1 73 rfl rfl⟩, sm_Tb_listSlot, me_Tb_listSlot, pn_Tb_listSlot⟩
theorem i_Tb_listIsUniform_23 : iCallV M_Tb_listIsUniform 23 M_Tb_sameProductions 2 9 := ⟨⟨89, (by decide +kernel : decode prog_9_method_17_code 23 = .ok (.invokevirtual 89, 3)), lw_k4 201 rfl rfl⟩, vm_Tb_sameProductions, me_Tb_sameProductions, pn_Tb_sameProductions⟩
theorem i_Tb_listIsUniform_26 : iIf M_Tb_listIsUniform 26 .ne 31 := ⟨5, (by decide +kernel : decode prog_9_method_17_code 26 = .ok (.ifCond .ne (5), 3)), by decide⟩
theorem i_Tb_listIsUniform_29 : iIns M_Tb_listIsUniform 29 (.iconst 0) 1 := (by decide +kernel : decode prog_9_method_17_code 29 = .ok (.iconst 0, 1))
theorem i_Tb_listIsUniform_30 : iIns M_Tb_listIsUniform 30 .ireturn 1 := (by decide +kernel : decode prog_9_method_17_code 30 = .ok (.ireturn, 1))
theorem i_Tb_listIsUniform_31 : iIns M_Tb_listIsUniform 31 (.iinc 2 (1)) 3 := (by decide +kernel : decode prog_9_method_17_code 31 = .ok (.iinc 2 (1), 3))
theorem i_Tb_listIsUniform_34 : iGoto M_Tb_listIsUniform 34 2 := ⟨-32, (by decide +kernel : decode prog_9_method_17_code 34 = .ok (.goto (-32), 3)), by decide⟩
theorem i_Tb_listIsUniform_37 : iIns M_Tb_listIsUniform 37 (.iconst 1) 1 := (by decide +kernel : decode prog_9_method_17_code 37 = .ok (.iconst 1, 1))
theorem i_Tb_listIsUniform_38 : iIns M_Tb_listIsUniform 38 .ireturn 1 := (by decide +kernel : decode prog_9_method_17_code 38 = .ok (.ireturn, 1))
theorem i_Tb_sameProductions_0 : iIns M_Tb_sameProductions 0 (.aload_n 0) 1 := (by decide +kernel : decode prog_9_method_18_code 0 = .ok (.aload_n 0, 1))
theorem i_Tb_sameProductions_1 : iGet M_Tb_sameProductions 1 9 1 := ⟨15, (by decide +kernel : decode prog_9_method_18_code 1 = .ok (.getfield 15, 3)), fl_Tb_Tb_lengths⟩
theorem i_Tb_sameProductions_4 : iIns M_Tb_sameProductions 4 (.iload_n 1) 1 := (by decide +kernel : decode prog_9_method_18_code 4 = .ok (.iload_n 1, 1))
theorem i_Tb_sameProductions_5 : iIns M_Tb_sameProductions 5 .iaload 1 := (by decide +kernel : decode prog_9_method_18_code 5 = .ok (.iaload, 1))
theorem i_Tb_sameProductions_6 : iIns M_Tb_sameProductions 6 (.aload_n 0) 1 := (by decide +kernel : decode prog_9_method_18_code 6 = .ok (.aload_n 0, 1))
theorem i_Tb_sameProductions_7 : iGet M_Tb_sameProductions 7 9 1 := ⟨15, (by decide +kernel : decode prog_9_method_18_code 7 = .ok (.getfield 15, 3)), fl_Tb_Tb_lengths⟩
theorem i_Tb_sameProductions_10 : iIns M_Tb_sameProductions 10 (.iload_n 2) 1 := (by decide +kernel : decode prog_9_method_18_code 10 = .ok (.iload_n 2, 1))
theorem i_Tb_sameProductions_11 : iIns M_Tb_sameProductions 11 .iaload 1 := (by decide +kernel : decode prog_9_method_18_code 11 = .ok (.iaload, 1))
theorem i_Tb_sameProductions_12 : iIcmp M_Tb_sameProductions 12 .eq 17 := ⟨5, (by decide +kernel : decode prog_9_method_18_code 12 = .ok (.if_icmp .eq (5), 3)), by decide⟩
theorem i_Tb_sameProductions_15 : iIns M_Tb_sameProductions 15 (.iconst 0) 1 := (by decide +kernel : decode prog_9_method_18_code 15 = .ok (.iconst 0, 1))
theorem i_Tb_sameProductions_16 : iIns M_Tb_sameProductions 16 .ireturn 1 := (by decide +kernel : decode prog_9_method_18_code 16 = .ok (.ireturn, 1))
theorem i_Tb_sameProductions_17 : iIns M_Tb_sameProductions 17 (.iconst 0) 1 := (by decide +kernel : decode prog_9_method_18_code 17 = .ok (.iconst 0, 1))
theorem i_Tb_sameProductions_18 : iIns M_Tb_sameProductions 18 (.istore_n 3) 1 := (by decide +kernel : decode prog_9_method_18_code 18 = .ok (.istore_n 3, 1))
theorem i_Tb_sameProductions_19 : iIns M_Tb_sameProductions 19 (.iload_n 3) 1 := (by decide +kernel : decode prog_9_method_18_code 19 = .ok (.iload_n 3, 1))
theorem i_Tb_sameProductions_20 : iIns M_Tb_sameProductions 20 (.aload_n 0) 1 := (by decide +kernel : decode prog_9_method_18_code 20 = .ok (.aload_n 0, 1))
theorem i_Tb_sameProductions_21 : iGet M_Tb_sameProductions 21 9 1 := ⟨15, (by decide +kernel : decode prog_9_method_18_code 21 = .ok (.getfield 15, 3)), fl_Tb_Tb_lengths⟩
theorem i_Tb_sameProductions_24 : iIns M_Tb_sameProductions 24 (.iload_n 1) 1 := (by decide +kernel : decode prog_9_method_18_code 24 = .ok (.iload_n 1, 1))
theorem i_Tb_sameProductions_25 : iIns M_Tb_sameProductions 25 .iaload 1 := (by decide +kernel : decode prog_9_method_18_code 25 = .ok (.iaload, 1))
theorem i_Tb_sameProductions_26 : iIcmp M_Tb_sameProductions 26 .ge 52 := ⟨26, (by decide +kernel : decode prog_9_method_18_code 26 = .ok (.if_icmp .ge (26), 3)), by decide⟩
theorem i_Tb_sameProductions_29 : iIns M_Tb_sameProductions 29 (.aload_n 0) 1 := (by decide +kernel : decode prog_9_method_18_code 29 = .ok (.aload_n 0, 1))
theorem i_Tb_sameProductions_30 : iIns M_Tb_sameProductions 30 (.iload_n 1) 1 := (by decide +kernel : decode prog_9_method_18_code 30 = .ok (.iload_n 1, 1))
theorem i_Tb_sameProductions_31 : iIns M_Tb_sameProductions 31 (.iload_n 3) 1 := (by decide +kernel : decode prog_9_method_18_code 31 = .ok (.iload_n 3, 1))
theorem i_Tb_sameProductions_32 : iCallV M_Tb_sameProductions 32 M_Tb_letterOf 2 9 := ⟨⟨82, (by decide +kernel : decode prog_9_method_18_code 32 = .ok (.invokevirtual 82, 3)), lw_k4 8 rfl rfl⟩, vm_Tb_letterOf, me_Tb_letterOf, pn_Tb_letterOf⟩
theorem i_Tb_sameProductions_35 : iIns M_Tb_sameProductions 35 (.aload_n 0) 1 := (by decide +kernel : decode prog_9_method_18_code 35 = .ok (.aload_n 0, 1))
theorem i_Tb_sameProductions_36 : iIns M_Tb_sameProductions 36 (.iload_n 2) 1 := (by decide +kernel : decode prog_9_method_18_code 36 = .ok (.iload_n 2, 1))
theorem i_Tb_sameProductions_37 : iIns M_Tb_sameProductions 37 (.iload_n 3) 1 := (by decide +kernel : decode prog_9_method_18_code 37 = .ok (.iload_n 3, 1))
theorem i_Tb_sameProductions_38 : iCallV M_Tb_sameProductions 38 M_Tb_letterOf 2 9 := ⟨⟨82, (by decide +kernel : decode prog_9_method_18_code 38 = .ok (.invokevirtual 82, 3)), lw_k4 8 rfl rfl⟩, vm_Tb_letterOf, me_Tb_letterOf, pn_Tb_letterOf⟩
theorem i_Tb_sameProductions_41 : iIcmp M_Tb_sameProductions 41 .eq 46 := ⟨5, (by decide +kernel : decode prog_9_method_18_code 41 = .ok (.if_icmp .eq (5), 3)), by decide⟩
theorem i_Tb_sameProductions_44 : iIns M_Tb_sameProductions 44 (.iconst 0) 1 := (by decide +kernel : decode prog_9_method_18_code 44 = .ok (.iconst 0, 1))
theorem i_Tb_sameProductions_45 : iIns M_Tb_sameProductions 45 .ireturn 1 := (by decide +kernel : decode prog_9_method_18_code 45 = .ok (.ireturn, 1))
theorem i_Tb_sameProductions_46 : iIns M_Tb_sameProductions 46 (.iinc 3 (1)) 3 := (by decide +kernel : decode prog_9_method_18_code 46 = .ok (.iinc 3 (1), 3))
theorem i_Tb_sameProductions_49 : iGoto M_Tb_sameProductions 49 19 := ⟨-30, (by decide +kernel : decode prog_9_method_18_code 49 = .ok (.goto (-30), 3)), by decide⟩
theorem i_Tb_sameProductions_52 : iIns M_Tb_sameProductions 52 (.iconst 1) 1 := (by decide +kernel : decode prog_9_method_18_code 52 = .ok (.iconst 1, 1))
theorem i_Tb_sameProductions_53 : iIns M_Tb_sameProductions 53 .ireturn 1 := (by decide +kernel : decode prog_9_method_18_code 53 = .ok (.ireturn, 1))

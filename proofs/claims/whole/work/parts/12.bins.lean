/-! instructions: by program (wip/whole/gen12.py) -/
theorem i_Ad_init_0 : iIns M_Ad_init 0 (.aload_n 0) 1 := (by decide +kernel : decode prog_2_method_1_code 0 = .ok (.aload_n 0, 1))
theorem i_Ad_init_1 : iObjI M_Ad_init 1 := ⟨3, (by decide +kernel : decode prog_2_method_1_code 1 = .ok (.invokespecial 3, 3)), lw_k1 230 rfl rfl⟩
theorem i_Ad_init_4 : iIns M_Ad_init 4 (.aload_n 0) 1 := (by decide +kernel : decode prog_2_method_1_code 4 = .ok (.aload_n 0, 1))
theorem i_Ad_init_5 : iNew M_Ad_init 5 12 [.null, .int 0] := ⟨9, (by decide +kernel : decode prog_2_method_1_code 5 = .ok (.new 9, 3)), RX10, TX10, 2, tyX10, rfl, uw_Wd, tyX10_ok, lw_k1 231 rfl rfl, lw_k1 97 rfl rfl, lw_k1 6 rfl rfl, by decide +kernel, rfl⟩
theorem i_Ad_init_8 : iIns M_Ad_init 8 .dup 1 := (by decide +kernel : decode prog_2_method_1_code 8 = .ok (.dup, 1))
theorem i_Ad_init_9 : iCallI M_Ad_init 9 M_Wd_init 0 := ⟨⟨11, (by decide +kernel : decode prog_2_method_1_code 9 = .ok (.invokespecial 11, 3)), lw_k1 232 rfl rfl⟩, im_Wd_init, me_Wd_init, pn_Wd_init⟩
theorem i_Ad_init_12 : iPutF M_Ad_init 12 2 0 (.object "ParallelRewriting$Word") := ⟨12, (by decide +kernel : decode prog_2_method_1_code 12 = .ok (.putfield 12, 3)), pf_Ad_Ad_word, rfl⟩
theorem i_Ad_init_15 : iIns M_Ad_init 15 (.aload_n 0) 1 := (by decide +kernel : decode prog_2_method_1_code 15 = .ok (.aload_n 0, 1))
theorem i_Ad_init_16 : iNew M_Ad_init 16 12 [.null, .int 0] := ⟨9, (by decide +kernel : decode prog_2_method_1_code 16 = .ok (.new 9, 3)), RX10, TX10, 2, tyX10, rfl, uw_Wd, tyX10_ok, lw_k1 231 rfl rfl, lw_k1 97 rfl rfl, lw_k1 6 rfl rfl, by decide +kernel, rfl⟩
theorem i_Ad_init_19 : iIns M_Ad_init 19 .dup 1 := (by decide +kernel : decode prog_2_method_1_code 19 = .ok (.dup, 1))
theorem i_Ad_init_20 : iCallI M_Ad_init 20 M_Wd_init 0 := ⟨⟨11, (by decide +kernel : decode prog_2_method_1_code 20 = .ok (.invokespecial 11, 3)), lw_k1 232 rfl rfl⟩, im_Wd_init, me_Wd_init, pn_Wd_init⟩
theorem i_Ad_init_23 : iPutF M_Ad_init 23 2 1 (.object "ParallelRewriting$Word") := ⟨18, (by decide +kernel : decode prog_2_method_1_code 23 = .ok (.putfield 18, 3)), pf_Ad_Ad_image, rfl⟩
theorem i_Ad_init_26 : iIns M_Ad_init 26 .return_ 1 := (by decide +kernel : decode prog_2_method_1_code 26 = .ok (.return_, 1))
theorem i_Ad_isKept_0 : iIns M_Ad_isKept 0 (.aload_n 1) 1 := (by decide +kernel : decode prog_2_method_2_code 0 = .ok (.aload_n 1, 1))
theorem i_Ad_isKept_1 : iIns M_Ad_isKept 1 (.aload_n 2) 1 := (by decide +kernel : decode prog_2_method_2_code 1 = .ok (.aload_n 2, 1))
theorem i_Ad_isKept_2 : iCallS M_Ad_isKept 2 M_Ad_hasOneImage 2 := ⟨⟨21, (by decide +kernel : decode prog_2_method_2_code 2 = .ok (.invokestatic 21, 3)), lw_k4 193 rfl rfl⟩, sm_Ad_hasOneImage, me_Ad_hasOneImage, pn_Ad_hasOneImage⟩
theorem i_Ad_isKept_5 : iIf M_Ad_isKept 5 .eq 36 := ⟨31, (by decide +kernel : decode prog_2_method_2_code 5 = .ok (.ifCond .eq (31), 3)), by decide⟩
theorem i_Ad_isKept_8 : iIns M_Ad_isKept 8 (.aload_n 1) 1 := (by decide +kernel : decode prog_2_method_2_code 8 = .ok (.aload_n 1, 1))
theorem i_Ad_isKept_9 : iIns M_Ad_isKept 9 (.aload_n 2) 1 := (by decide +kernel : decode prog_2_method_2_code 9 = .ok (.aload_n 2, 1))
theorem i_Ad_isKept_10 : iIns M_Ad_isKept 10 (.iconst 0) 1 := (by decide +kernel : decode prog_2_method_2_code 10 = .ok (.iconst 0, 1))
theorem i_Ad_isKept_11 : iIns M_Ad_isKept 11 (.aload_n 0) 1 := (by decide +kernel : decode prog_2_method_2_code 11 = .ok (.aload_n 0, 1))
theorem i_Ad_isKept_12 : iGet M_Ad_isKept 12 2 1 := ⟨18, (by decide +kernel : decode prog_2_method_2_code 12 = .ok (.getfield 18, 3)), fl_Ad_Ad_image⟩
theorem i_Ad_isKept_15 : iCallV M_Ad_isKept 15 M_Tb_rewrite 3 9 := ⟨⟨25, (by decide +kernel : decode prog_2_method_2_code 15 = .ok (.invokevirtual 25, 3)), lw_k4 205 rfl rfl⟩, vm_Tb_rewrite, me_Tb_rewrite, pn_Tb_rewrite⟩
theorem i_Ad_isKept_18 : iIf M_Ad_isKept 18 .eq 36 := ⟨18, (by decide +kernel : decode prog_2_method_2_code 18 = .ok (.ifCond .eq (18), 3)), by decide⟩
theorem i_Ad_isKept_21 : iIns M_Ad_isKept 21 (.aload_n 0) 1 := (by decide +kernel : decode prog_2_method_2_code 21 = .ok (.aload_n 0, 1))
theorem i_Ad_isKept_22 : iGet M_Ad_isKept 22 2 1 := ⟨18, (by decide +kernel : decode prog_2_method_2_code 22 = .ok (.getfield 18, 3)), fl_Ad_Ad_image⟩
theorem i_Ad_isKept_25 : iIns M_Ad_isKept 25 (.aload_n 2) 1 := (by decide +kernel : decode prog_2_method_2_code 25 = .ok (.aload_n 2, 1))
theorem i_Ad_isKept_26 : iCallV M_Ad_isKept 26 M_Wd_sameAs 1 12 := ⟨⟨31, (by decide +kernel : decode prog_2_method_2_code 26 = .ok (.invokevirtual 31, 3)), lw_k4 206 rfl rfl⟩, vm_Wd_sameAs, me_Wd_sameAs, pn_Wd_sameAs⟩
theorem i_Ad_isKept_29 : iIf M_Ad_isKept 29 .eq 36 := ⟨7, (by decide +kernel : decode prog_2_method_2_code 29 = .ok (.ifCond .eq (7), 3)), by decide⟩
theorem i_Ad_isKept_32 : iIns M_Ad_isKept 32 (.iconst 1) 1 := (by decide +kernel : decode prog_2_method_2_code 32 = .ok (.iconst 1, 1))
theorem i_Ad_isKept_33 : iGoto M_Ad_isKept 33 37 := ⟨4, (by decide +kernel : decode prog_2_method_2_code 33 = .ok (.goto (4), 3)), by decide⟩
theorem i_Ad_isKept_36 : iIns M_Ad_isKept 36 (.iconst 0) 1 := (by decide +kernel : decode prog_2_method_2_code 36 = .ok (.iconst 0, 1))
theorem i_Ad_isKept_37 : iIns M_Ad_isKept 37 .ireturn 1 := (by decide +kernel : decode prog_2_method_2_code 37 = .ok (.ireturn, 1))
theorem i_Ad_hasOneImage_0 : iIns M_Ad_hasOneImage 0 (.iconst 0) 1 := (by decide +kernel : decode prog_2_method_3_code 0 = .ok (.iconst 0, 1))
theorem i_Ad_hasOneImage_1 : iIns M_Ad_hasOneImage 1 (.istore_n 2) 1 := (by decide +kernel : decode prog_2_method_3_code 1 = .ok (.istore_n 2, 1))
theorem i_Ad_hasOneImage_2 : iIns M_Ad_hasOneImage 2 (.iload_n 2) 1 := (by decide +kernel : decode prog_2_method_3_code 2 = .ok (.iload_n 2, 1))
theorem i_Ad_hasOneImage_3 : iIns M_Ad_hasOneImage 3 (.aload_n 1) 1 := (by decide +kernel : decode prog_2_method_3_code 3 = .ok (.aload_n 1, 1))
theorem i_Ad_hasOneImage_4 : iGet M_Ad_hasOneImage 4 12 1 := ⟨35, (by decide +kernel : decode prog_2_method_3_code 4 = .ok (.getfield 35, 3)), fl_Ad_Wd_length⟩
theorem i_Ad_hasOneImage_7 : iIcmp M_Ad_hasOneImage 7 .ge 41 := ⟨34, (by decide +kernel : decode prog_2_method_3_code 7 = .ok (.if_icmp .ge (34), 3)), by decide⟩
theorem i_Ad_hasOneImage_10 : iIns M_Ad_hasOneImage 10 (.aload_n 0) 1 := (by decide +kernel : decode prog_2_method_3_code 10 = .ok (.aload_n 0, 1))
theorem i_Ad_hasOneImage_11 : iIns M_Ad_hasOneImage 11 (.aload_n 1) 1 := (by decide +kernel : decode prog_2_method_3_code 11 = .ok (.aload_n 1, 1))
theorem i_Ad_hasOneImage_12 : iIns M_Ad_hasOneImage 12 (.iload_n 2) 1 := (by decide +kernel : decode prog_2_method_3_code 12 = .ok (.iload_n 2, 1))
theorem i_Ad_hasOneImage_13 : iCallV M_Ad_hasOneImage 13 M_Tb_ruleSlotAt 2 9 := ⟨⟨39, (by decide +kernel : decode prog_2_method_3_code 13 = .ok (.invokevirtual 39, 3)), lw_k4 196 rfl rfl⟩, vm_Tb_ruleSlotAt, me_Tb_ruleSlotAt, pn_Tb_ruleSlotAt⟩
theorem i_Ad_hasOneImage_16 : iIns M_Ad_hasOneImage 16 (.iconst (-1)) 1 := (by decide +kernel : decode prog_2_method_3_code 16 = .ok (.iconst (-1), 1))
theorem i_Ad_hasOneImage_17 : iIcmp M_Ad_hasOneImage 17 .ne 35 := ⟨18, (by decide +kernel : decode prog_2_method_3_code 17 = .ok (.if_icmp .ne (18), 3)), by decide⟩
theorem i_Ad_hasOneImage_20 : iIns M_Ad_hasOneImage 20 (.aload_n 0) 1 := (by decide +kernel : decode prog_2_method_3_code 20 = .ok (.aload_n 0, 1))
theorem i_Ad_hasOneImage_21 : iIns M_Ad_hasOneImage 21 (.aload_n 1) 1 := (by decide +kernel : decode prog_2_method_3_code 21 = .ok (.aload_n 1, 1))
theorem i_Ad_hasOneImage_22 : iGet M_Ad_hasOneImage 22 12 0 := ⟨43, (by decide +kernel : decode prog_2_method_3_code 22 = .ok (.getfield 43, 3)), fl_Ad_Wd_letters⟩
theorem i_Ad_hasOneImage_25 : iIns M_Ad_hasOneImage 25 (.iload_n 2) 1 := (by decide +kernel : decode prog_2_method_3_code 25 = .ok (.iload_n 2, 1))
theorem i_Ad_hasOneImage_26 : iIns M_Ad_hasOneImage 26 .iaload 1 := (by decide +kernel : decode prog_2_method_3_code 26 = .ok (.iaload, 1))
theorem i_Ad_hasOneImage_27 : iCallV M_Ad_hasOneImage 27 M_Tb_listIsUniform 1 9 := ⟨⟨47, (by decide +kernel : decode prog_2_method_3_code 27 = .ok (.invokevirtual 47, 3)), lw_k4 197 rfl rfl⟩, vm_Tb_listIsUniform, me_Tb_listIsUniform, pn_Tb_listIsUniform⟩
theorem i_Ad_hasOneImage_30 : iIf M_Ad_hasOneImage 30 .ne 35 := ⟨5, (by decide +kernel : decode prog_2_method_3_code 30 = .ok (.ifCond .ne (5), 3)), by decide⟩
theorem i_Ad_hasOneImage_33 : iIns M_Ad_hasOneImage 33 (.iconst 0) 1 := (by decide +kernel : decode prog_2_method_3_code 33 = .ok (.iconst 0, 1))
theorem i_Ad_hasOneImage_34 : iIns M_Ad_hasOneImage 34 .ireturn 1 := (by decide +kernel : decode prog_2_method_3_code 34 = .ok (.ireturn, 1))
theorem i_Ad_hasOneImage_35 : iIns M_Ad_hasOneImage 35 (.iinc 2 (1)) 3 := (by decide +kernel : decode prog_2_method_3_code 35 = .ok (.iinc 2 (1), 3))
theorem i_Ad_hasOneImage_38 : iGoto M_Ad_hasOneImage 38 2 := ⟨-36, (by decide +kernel : decode prog_2_method_3_code 38 = .ok (.goto (-36), 3)), by decide⟩
theorem i_Ad_hasOneImage_41 : iIns M_Ad_hasOneImage 41 (.iconst 1) 1 := (by decide +kernel : decode prog_2_method_3_code 41 = .ok (.iconst 1, 1))
theorem i_Ad_hasOneImage_42 : iIns M_Ad_hasOneImage 42 .ireturn 1 := (by decide +kernel : decode prog_2_method_3_code 42 = .ok (.ireturn, 1))
theorem i_Ad_stepsUntilKept_0 : iIns M_Ad_stepsUntilKept 0 (.aload_n 0) 1 := (by decide +kernel : decode prog_2_method_4_code 0 = .ok (.aload_n 0, 1))
theorem i_Ad_stepsUntilKept_1 : iGet M_Ad_stepsUntilKept 1 2 0 := ⟨12, (by decide +kernel : decode prog_2_method_4_code 1 = .ok (.getfield 12, 3)), fl_Ad_Ad_word⟩
theorem i_Ad_stepsUntilKept_4 : iIns M_Ad_stepsUntilKept 4 (.aload_n 2) 1 := (by decide +kernel : decode prog_2_method_4_code 4 = .ok (.aload_n 2, 1))
theorem i_Ad_stepsUntilKept_5 : iCallV M_Ad_stepsUntilKept 5 M_Wd_copy 1 12 := ⟨⟨51, (by decide +kernel : decode prog_2_method_4_code 5 = .ok (.invokevirtual 51, 3)), lw_k4 220 rfl rfl⟩, vm_Wd_copy, me_Wd_copy, pn_Wd_copy⟩
theorem i_Ad_stepsUntilKept_8 : iIns M_Ad_stepsUntilKept 8 (.iconst 0) 1 := (by decide +kernel : decode prog_2_method_4_code 8 = .ok (.iconst 0, 1))
theorem i_Ad_stepsUntilKept_9 : iIns M_Ad_stepsUntilKept 9 (.istore 4) 2 := (by decide +kernel : decode prog_2_method_4_code 9 = .ok (.istore 4, 2))
theorem i_Ad_stepsUntilKept_11 : iIns M_Ad_stepsUntilKept 11 (.iload 4) 2 := (by decide +kernel : decode prog_2_method_4_code 11 = .ok (.iload 4, 2))
theorem i_Ad_stepsUntilKept_13 : iIns M_Ad_stepsUntilKept 13 (.iload_n 3) 1 := (by decide +kernel : decode prog_2_method_4_code 13 = .ok (.iload_n 3, 1))
theorem i_Ad_stepsUntilKept_14 : iIcmp M_Ad_stepsUntilKept 14 .gt 69 := ⟨55, (by decide +kernel : decode prog_2_method_4_code 14 = .ok (.if_icmp .gt (55), 3)), by decide⟩
theorem i_Ad_stepsUntilKept_17 : iIns M_Ad_stepsUntilKept 17 (.aload_n 1) 1 := (by decide +kernel : decode prog_2_method_4_code 17 = .ok (.aload_n 1, 1))
theorem i_Ad_stepsUntilKept_18 : iIns M_Ad_stepsUntilKept 18 (.aload_n 0) 1 := (by decide +kernel : decode prog_2_method_4_code 18 = .ok (.aload_n 0, 1))
theorem i_Ad_stepsUntilKept_19 : iGet M_Ad_stepsUntilKept 19 2 0 := ⟨12, (by decide +kernel : decode prog_2_method_4_code 19 = .ok (.getfield 12, 3)), fl_Ad_Ad_word⟩
theorem i_Ad_stepsUntilKept_22 : iIns M_Ad_stepsUntilKept 22 (.iconst 0) 1 := (by decide +kernel : decode prog_2_method_4_code 22 = .ok (.iconst 0, 1))
theorem i_Ad_stepsUntilKept_23 : iIns M_Ad_stepsUntilKept 23 (.aload_n 0) 1 := (by decide +kernel : decode prog_2_method_4_code 23 = .ok (.aload_n 0, 1))
theorem i_Ad_stepsUntilKept_24 : iGet M_Ad_stepsUntilKept 24 2 1 := ⟨18, (by decide +kernel : decode prog_2_method_4_code 24 = .ok (.getfield 18, 3)), fl_Ad_Ad_image⟩
theorem i_Ad_stepsUntilKept_27 : iCallV M_Ad_stepsUntilKept 27 M_Tb_rewrite 3 9 := ⟨⟨25, (by decide +kernel : decode prog_2_method_4_code 27 = .ok (.invokevirtual 25, 3)), lw_k4 205 rfl rfl⟩, vm_Tb_rewrite, me_Tb_rewrite, pn_Tb_rewrite⟩
theorem i_Ad_stepsUntilKept_30 : iIf M_Ad_stepsUntilKept 30 .ne 35 := ⟨5, (by decide +kernel : decode prog_2_method_4_code 30 = .ok (.ifCond .ne (5), 3)), by decide⟩
theorem i_Ad_stepsUntilKept_33 : iIns M_Ad_stepsUntilKept 33 (.iconst (-1)) 1 := (by decide +kernel : decode prog_2_method_4_code 33 = .ok (.iconst (-1), 1))
theorem i_Ad_stepsUntilKept_34 : iIns M_Ad_stepsUntilKept 34 .ireturn 1 := (by decide +kernel : decode prog_2_method_4_code 34 = .ok (.ireturn, 1))
theorem i_Ad_stepsUntilKept_35 : iIns M_Ad_stepsUntilKept 35 (.aload_n 0) 1 := (by decide +kernel : decode prog_2_method_4_code 35 = .ok (.aload_n 0, 1))
theorem i_Ad_stepsUntilKept_36 : iGet M_Ad_stepsUntilKept 36 2 1 := ⟨18, (by decide +kernel : decode prog_2_method_4_code 36 = .ok (.getfield 18, 3)), fl_Ad_Ad_image⟩
theorem i_Ad_stepsUntilKept_39 : iIns M_Ad_stepsUntilKept 39 (.aload_n 0) 1 := (by decide +kernel : decode prog_2_method_4_code 39 = .ok (.aload_n 0, 1))
theorem i_Ad_stepsUntilKept_40 : iGet M_Ad_stepsUntilKept 40 2 0 := ⟨12, (by decide +kernel : decode prog_2_method_4_code 40 = .ok (.getfield 12, 3)), fl_Ad_Ad_word⟩
theorem i_Ad_stepsUntilKept_43 : iCallV M_Ad_stepsUntilKept 43 M_Wd_sameAs 1 12 := ⟨⟨31, (by decide +kernel : decode prog_2_method_4_code 43 = .ok (.invokevirtual 31, 3)), lw_k4 206 rfl rfl⟩, vm_Wd_sameAs, me_Wd_sameAs, pn_Wd_sameAs⟩
theorem i_Ad_stepsUntilKept_46 : iIf M_Ad_stepsUntilKept 46 .eq 52 := ⟨6, (by decide +kernel : decode prog_2_method_4_code 46 = .ok (.ifCond .eq (6), 3)), by decide⟩
theorem i_Ad_stepsUntilKept_49 : iIns M_Ad_stepsUntilKept 49 (.iload 4) 2 := (by decide +kernel : decode prog_2_method_4_code 49 = .ok (.iload 4, 2))
theorem i_Ad_stepsUntilKept_51 : iIns M_Ad_stepsUntilKept 51 .ireturn 1 := (by decide +kernel : decode prog_2_method_4_code 51 = .ok (.ireturn, 1))
theorem i_Ad_stepsUntilKept_52 : iIns M_Ad_stepsUntilKept 52 (.aload_n 0) 1 := (by decide +kernel : decode prog_2_method_4_code 52 = .ok (.aload_n 0, 1))
theorem i_Ad_stepsUntilKept_53 : iGet M_Ad_stepsUntilKept 53 2 0 := ⟨12, (by decide +kernel : decode prog_2_method_4_code 53 = .ok (.getfield 12, 3)), fl_Ad_Ad_word⟩
theorem i_Ad_stepsUntilKept_56 : iIns M_Ad_stepsUntilKept 56 (.aload_n 0) 1 := (by decide +kernel : decode prog_2_method_4_code 56 = .ok (.aload_n 0, 1))
theorem i_Ad_stepsUntilKept_57 : iGet M_Ad_stepsUntilKept 57 2 1 := ⟨18, (by decide +kernel : decode prog_2_method_4_code 57 = .ok (.getfield 18, 3)), fl_Ad_Ad_image⟩
theorem i_Ad_stepsUntilKept_60 : iCallV M_Ad_stepsUntilKept 60 M_Wd_copy 1 12 := ⟨⟨51, (by decide +kernel : decode prog_2_method_4_code 60 = .ok (.invokevirtual 51, 3)), lw_k4 220 rfl rfl⟩, vm_Wd_copy, me_Wd_copy, pn_Wd_copy⟩
theorem i_Ad_stepsUntilKept_63 : iIns M_Ad_stepsUntilKept 63 (.iinc 4 (1)) 3 := (by decide +kernel : decode prog_2_method_4_code 63 = .ok (.iinc 4 (1), 3))
theorem i_Ad_stepsUntilKept_66 : iGoto M_Ad_stepsUntilKept 66 11 := ⟨-55, (by decide +kernel : decode prog_2_method_4_code 66 = .ok (.goto (-55), 3)), by decide⟩
theorem i_Ad_stepsUntilKept_69 : iIns M_Ad_stepsUntilKept 69 (.iconst (-1)) 1 := (by decide +kernel : decode prog_2_method_4_code 69 = .ok (.iconst (-1), 1))
theorem i_Ad_stepsUntilKept_70 : iIns M_Ad_stepsUntilKept 70 .ireturn 1 := (by decide +kernel : decode prog_2_method_4_code 70 = .ok (.ireturn, 1))
theorem i_Ad_countKept_0 : iIns M_Ad_countKept 0 (.aload_n 0) 1 := (by decide +kernel : decode prog_2_method_5_code 0 = .ok (.aload_n 0, 1))
theorem i_Ad_countKept_1 : iGet M_Ad_countKept 1 2 0 := ⟨12, (by decide +kernel : decode prog_2_method_5_code 1 = .ok (.getfield 12, 3)), fl_Ad_Ad_word⟩
theorem i_Ad_countKept_4 : iIns M_Ad_countKept 4 (.iconst 0) 1 := (by decide +kernel : decode prog_2_method_5_code 4 = .ok (.iconst 0, 1))
theorem i_Ad_countKept_5 : iPutX M_Ad_countKept 5 12 1 .int := ⟨35, (by decide +kernel : decode prog_2_method_5_code 5 = .ok (.putfield 35, 3)), px_Ad_Wd_length⟩
theorem i_Ad_countKept_8 : iIns M_Ad_countKept 8 (.aload_n 0) 1 := (by decide +kernel : decode prog_2_method_5_code 8 = .ok (.aload_n 0, 1))
theorem i_Ad_countKept_9 : iIns M_Ad_countKept 9 (.aload_n 1) 1 := (by decide +kernel : decode prog_2_method_5_code 9 = .ok (.aload_n 1, 1))
theorem i_Ad_countKept_10 : iIns M_Ad_countKept 10 (.iload_n 2) 1 := (by decide +kernel : decode prog_2_method_5_code 10 = .ok (.iload_n 2, 1))
theorem i_Ad_countKept_11 : iCallV M_Ad_countKept 11 M_Ad_countExtensions 2 2 := ⟨⟨55, (by decide +kernel : decode prog_2_method_5_code 11 = .ok (.invokevirtual 55, 3)), lw_k4 234 rfl rfl⟩, vm_Ad_countExtensions, me_Ad_countExtensions, pn_Ad_countExtensions⟩
theorem i_Ad_countKept_14 : iIns M_Ad_countKept 14 .ireturn 1 := (by decide +kernel : decode prog_2_method_5_code 14 = .ok (.ireturn, 1))
theorem i_Ad_countExtensions_0 : iIns M_Ad_countExtensions 0 (.aload_n 1) 1 := (by decide +kernel : decode prog_2_method_6_code 0 = .ok (.aload_n 1, 1))
theorem i_Ad_countExtensions_1 : iIns M_Ad_countExtensions 1 (.aload_n 0) 1 := (by decide +kernel : decode prog_2_method_6_code 1 = .ok (.aload_n 0, 1))
theorem i_Ad_countExtensions_2 : iGet M_Ad_countExtensions 2 2 0 := ⟨12, (by decide +kernel : decode prog_2_method_6_code 2 = .ok (.getfield 12, 3)), fl_Ad_Ad_word⟩
theorem i_Ad_countExtensions_5 : iCallS M_Ad_countExtensions 5 M_Ad_hasOneImage 2 := ⟨⟨21, (by decide +kernel : decode prog_2_method_6_code 5 = .ok (.invokestatic 21, 3)), lw_k4 193 rfl rfl⟩, sm_Ad_hasOneImage, me_Ad_hasOneImage, pn_Ad_hasOneImage⟩
theorem i_Ad_countExtensions_8 : iIf M_Ad_countExtensions 8 .eq 41 := ⟨33, (by decide +kernel : decode prog_2_method_6_code 8 = .ok (.ifCond .eq (33), 3)), by decide⟩
theorem i_Ad_countExtensions_11 : iIns M_Ad_countExtensions 11 (.aload_n 1) 1 := (by decide +kernel : decode prog_2_method_6_code 11 = .ok (.aload_n 1, 1))
theorem i_Ad_countExtensions_12 : iIns M_Ad_countExtensions 12 (.aload_n 0) 1 := (by decide +kernel : decode prog_2_method_6_code 12 = .ok (.aload_n 0, 1))
theorem i_Ad_countExtensions_13 : iGet M_Ad_countExtensions 13 2 0 := ⟨12, (by decide +kernel : decode prog_2_method_6_code 13 = .ok (.getfield 12, 3)), fl_Ad_Ad_word⟩
theorem i_Ad_countExtensions_16 : iIns M_Ad_countExtensions 16 (.iconst 0) 1 := (by decide +kernel : decode prog_2_method_6_code 16 = .ok (.iconst 0, 1))
theorem i_Ad_countExtensions_17 : iIns M_Ad_countExtensions 17 (.aload_n 0) 1 := (by decide +kernel : decode prog_2_method_6_code 17 = .ok (.aload_n 0, 1))
theorem i_Ad_countExtensions_18 : iGet M_Ad_countExtensions 18 2 1 := ⟨18, (by decide +kernel : decode prog_2_method_6_code 18 = .ok (.getfield 18, 3)), fl_Ad_Ad_image⟩
theorem i_Ad_countExtensions_21 : iCallV M_Ad_countExtensions 21 M_Tb_rewrite 3 9 := ⟨⟨25, (by decide +kernel : decode prog_2_method_6_code 21 = .ok (.invokevirtual 25, 3)), lw_k4 205 rfl rfl⟩, vm_Tb_rewrite, me_Tb_rewrite, pn_Tb_rewrite⟩
theorem i_Ad_countExtensions_24 : iIf M_Ad_countExtensions 24 .eq 41 := ⟨17, (by decide +kernel : decode prog_2_method_6_code 24 = .ok (.ifCond .eq (17), 3)), by decide⟩
theorem i_Ad_countExtensions_27 : iIns M_Ad_countExtensions 27 (.aload_n 0) 1 := (by decide +kernel : decode prog_2_method_6_code 27 = .ok (.aload_n 0, 1))
theorem i_Ad_countExtensions_28 : iGet M_Ad_countExtensions 28 2 1 := ⟨18, (by decide +kernel : decode prog_2_method_6_code 28 = .ok (.getfield 18, 3)), fl_Ad_Ad_image⟩
theorem i_Ad_countExtensions_31 : iIns M_Ad_countExtensions 31 (.aload_n 0) 1 := (by decide +kernel : decode prog_2_method_6_code 31 = .ok (.aload_n 0, 1))
theorem i_Ad_countExtensions_32 : iGet M_Ad_countExtensions 32 2 0 := ⟨12, (by decide +kernel : decode prog_2_method_6_code 32 = .ok (.getfield 12, 3)), fl_Ad_Ad_word⟩
theorem i_Ad_countExtensions_35 : iCallV M_Ad_countExtensions 35 M_Wd_agreesWith 1 12 := ⟨⟨59, (by decide +kernel : decode prog_2_method_6_code 35 = .ok (.invokevirtual 59, 3)), lw_k4 238 rfl rfl⟩, vm_Wd_agreesWith, me_Wd_agreesWith, pn_Wd_agreesWith⟩
theorem i_Ad_countExtensions_38 : iIf M_Ad_countExtensions 38 .ne 43 := ⟨5, (by decide +kernel : decode prog_2_method_6_code 38 = .ok (.ifCond .ne (5), 3)), by decide⟩
theorem i_Ad_countExtensions_41 : iIns M_Ad_countExtensions 41 (.iconst 0) 1 := (by decide +kernel : decode prog_2_method_6_code 41 = .ok (.iconst 0, 1))
theorem i_Ad_countExtensions_42 : iIns M_Ad_countExtensions 42 .ireturn 1 := (by decide +kernel : decode prog_2_method_6_code 42 = .ok (.ireturn, 1))
theorem i_Ad_countExtensions_43 : iIns M_Ad_countExtensions 43 (.aload_n 0) 1 := (by decide +kernel : decode prog_2_method_6_code 43 = .ok (.aload_n 0, 1))
theorem i_Ad_countExtensions_44 : iGet M_Ad_countExtensions 44 2 0 := ⟨12, (by decide +kernel : decode prog_2_method_6_code 44 = .ok (.getfield 12, 3)), fl_Ad_Ad_word⟩
theorem i_Ad_countExtensions_47 : iGet M_Ad_countExtensions 47 12 1 := ⟨35, (by decide +kernel : decode prog_2_method_6_code 47 = .ok (.getfield 35, 3)), fl_Ad_Wd_length⟩
theorem i_Ad_countExtensions_50 : iIns M_Ad_countExtensions 50 (.iload_n 2) 1 := (by decide +kernel : decode prog_2_method_6_code 50 = .ok (.iload_n 2, 1))
theorem i_Ad_countExtensions_51 : iIcmp M_Ad_countExtensions 51 .lt 77 := ⟨26, (by decide +kernel : decode prog_2_method_6_code 51 = .ok (.if_icmp .lt (26), 3)), by decide⟩
theorem i_Ad_countExtensions_54 : iIns M_Ad_countExtensions 54 (.aload_n 0) 1 := (by decide +kernel : decode prog_2_method_6_code 54 = .ok (.aload_n 0, 1))
theorem i_Ad_countExtensions_55 : iGet M_Ad_countExtensions 55 2 1 := ⟨18, (by decide +kernel : decode prog_2_method_6_code 55 = .ok (.getfield 18, 3)), fl_Ad_Ad_image⟩
theorem i_Ad_countExtensions_58 : iGet M_Ad_countExtensions 58 12 1 := ⟨35, (by decide +kernel : decode prog_2_method_6_code 58 = .ok (.getfield 35, 3)), fl_Ad_Wd_length⟩
theorem i_Ad_countExtensions_61 : iIns M_Ad_countExtensions 61 (.aload_n 0) 1 := (by decide +kernel : decode prog_2_method_6_code 61 = .ok (.aload_n 0, 1))
theorem i_Ad_countExtensions_62 : iGet M_Ad_countExtensions 62 2 0 := ⟨12, (by decide +kernel : decode prog_2_method_6_code 62 = .ok (.getfield 12, 3)), fl_Ad_Ad_word⟩
theorem i_Ad_countExtensions_65 : iGet M_Ad_countExtensions 65 12 1 := ⟨35, (by decide +kernel : decode prog_2_method_6_code 65 = .ok (.getfield 35, 3)), fl_Ad_Wd_length⟩
theorem i_Ad_countExtensions_68 : iIcmp M_Ad_countExtensions 68 .ne 75 := ⟨7, (by decide +kernel : decode prog_2_method_6_code 68 = .ok (.if_icmp .ne (7), 3)), by decide⟩
theorem i_Ad_countExtensions_71 : iIns M_Ad_countExtensions 71 (.iconst 1) 1 := (by decide +kernel : decode prog_2_method_6_code 71 = .ok (.iconst 1, 1))
theorem i_Ad_countExtensions_72 : iGoto M_Ad_countExtensions 72 76 := ⟨4, (by decide +kernel : decode prog_2_method_6_code 72 = .ok (.goto (4), 3)), by decide⟩
theorem i_Ad_countExtensions_75 : iIns M_Ad_countExtensions 75 (.iconst 0) 1 := (by decide +kernel : decode prog_2_method_6_code 75 = .ok (.iconst 0, 1))
theorem i_Ad_countExtensions_76 : iIns M_Ad_countExtensions 76 .ireturn 1 := (by decide +kernel : decode prog_2_method_6_code 76 = .ok (.ireturn, 1))
theorem i_Ad_countExtensions_77 : iIns M_Ad_countExtensions 77 (.iconst 0) 1 := (by decide +kernel : decode prog_2_method_6_code 77 = .ok (.iconst 0, 1))
theorem i_Ad_countExtensions_78 : iIns M_Ad_countExtensions 78 (.istore_n 3) 1 := (by decide +kernel : decode prog_2_method_6_code 78 = .ok (.istore_n 3, 1))
theorem i_Ad_countExtensions_79 : iIns M_Ad_countExtensions 79 (.aload_n 0) 1 := (by decide +kernel : decode prog_2_method_6_code 79 = .ok (.aload_n 0, 1))
theorem i_Ad_countExtensions_80 : iGet M_Ad_countExtensions 80 2 0 := ⟨12, (by decide +kernel : decode prog_2_method_6_code 80 = .ok (.getfield 12, 3)), fl_Ad_Ad_word⟩
theorem i_Ad_countExtensions_83 : iGet M_Ad_countExtensions 83 12 1 := ⟨35, (by decide +kernel : decode prog_2_method_6_code 83 = .ok (.getfield 35, 3)), fl_Ad_Wd_length⟩
theorem i_Ad_countExtensions_86 : iIns M_Ad_countExtensions 86 (.istore 4) 2 := (by decide +kernel : decode prog_2_method_6_code 86 = .ok (.istore 4, 2))
theorem i_Ad_countExtensions_88 : iIns M_Ad_countExtensions 88 (.iconst 0) 1 := (by decide +kernel : decode prog_2_method_6_code 88 = .ok (.iconst 0, 1))
theorem i_Ad_countExtensions_89 : iIns M_Ad_countExtensions 89 (.istore 5) 2 := (by decide +kernel : decode prog_2_method_6_code 89 = .ok (.istore 5, 2))
theorem i_Ad_countExtensions_91 : iIns M_Ad_countExtensions 91 (.iload 5) 2 := (by decide +kernel : decode prog_2_method_6_code 91 = .ok (.iload 5, 2))
theorem i_Ad_countExtensions_93 : iIns M_Ad_countExtensions 93 (.bipush 6) 2 := (by decide +kernel : decode prog_2_method_6_code 93 = .ok (.bipush 6, 2))
theorem i_Ad_countExtensions_95 : iIcmp M_Ad_countExtensions 95 .ge 132 := ⟨37, (by decide +kernel : decode prog_2_method_6_code 95 = .ok (.if_icmp .ge (37), 3)), by decide⟩
theorem i_Ad_countExtensions_98 : iIns M_Ad_countExtensions 98 (.aload_n 0) 1 := (by decide +kernel : decode prog_2_method_6_code 98 = .ok (.aload_n 0, 1))
theorem i_Ad_countExtensions_99 : iGet M_Ad_countExtensions 99 2 0 := ⟨12, (by decide +kernel : decode prog_2_method_6_code 99 = .ok (.getfield 12, 3)), fl_Ad_Ad_word⟩
theorem i_Ad_countExtensions_102 : iIns M_Ad_countExtensions 102 (.iload 5) 2 := (by decide +kernel : decode prog_2_method_6_code 102 = .ok (.iload 5, 2))
theorem i_Ad_countExtensions_104 : iCallV M_Ad_countExtensions 104 M_Wd_append 1 12 := ⟨⟨62, (by decide +kernel : decode prog_2_method_6_code 104 = .ok (.invokevirtual 62, 3)), lw_k4 239 rfl rfl⟩, vm_Wd_append, me_Wd_append, pn_Wd_append⟩
theorem i_Ad_countExtensions_107 : iIns M_Ad_countExtensions 107 .pop 1 := (by decide +kernel : decode prog_2_method_6_code 107 = .ok (.pop, 1))
theorem i_Ad_countExtensions_108 : iIns M_Ad_countExtensions 108 (.iload_n 3) 1 := (by decide +kernel : decode prog_2_method_6_code 108 = .ok (.iload_n 3, 1))
theorem i_Ad_countExtensions_109 : iIns M_Ad_countExtensions 109 (.aload_n 0) 1 := (by decide +kernel : decode prog_2_method_6_code 109 = .ok (.aload_n 0, 1))
theorem i_Ad_countExtensions_110 : iIns M_Ad_countExtensions 110 (.aload_n 1) 1 := (by decide +kernel : decode prog_2_method_6_code 110 = .ok (.aload_n 1, 1))
theorem i_Ad_countExtensions_111 : iIns M_Ad_countExtensions 111 (.iload_n 2) 1 := (by decide +kernel : decode prog_2_method_6_code 111 = .ok (.iload_n 2, 1))
theorem i_Ad_countExtensions_112 : iCallV M_Ad_countExtensions 112 M_Ad_countExtensions 2 2 := ⟨⟨55, (by decide +kernel : decode prog_2_method_6_code 112 = .ok (.invokevirtual 55, 3)), lw_k4 234 rfl rfl⟩, vm_Ad_countExtensions, me_Ad_countExtensions, pn_Ad_countExtensions⟩
theorem i_Ad_countExtensions_115 : iIns M_Ad_countExtensions 115 .iadd 1 := (by decide +kernel : decode prog_2_method_6_code 115 = .ok (.iadd, 1))
theorem i_Ad_countExtensions_116 : iIns M_Ad_countExtensions 116 (.istore_n 3) 1 := (by decide +kernel : decode prog_2_method_6_code 116 = .ok (.istore_n 3, 1))
theorem i_Ad_countExtensions_117 : iIns M_Ad_countExtensions 117 (.aload_n 0) 1 := (by decide +kernel : decode prog_2_method_6_code 117 = .ok (.aload_n 0, 1))
theorem i_Ad_countExtensions_118 : iGet M_Ad_countExtensions 118 2 0 := ⟨12, (by decide +kernel : decode prog_2_method_6_code 118 = .ok (.getfield 12, 3)), fl_Ad_Ad_word⟩
theorem i_Ad_countExtensions_121 : iIns M_Ad_countExtensions 121 (.iload 4) 2 := (by decide +kernel : decode prog_2_method_6_code 121 = .ok (.iload 4, 2))
theorem i_Ad_countExtensions_123 : iPutX M_Ad_countExtensions 123 12 1 .int := ⟨35, (by decide +kernel : decode prog_2_method_6_code 123 = .ok (.putfield 35, 3)), px_Ad_Wd_length⟩
theorem i_Ad_countExtensions_126 : iIns M_Ad_countExtensions 126 (.iinc 5 (1)) 3 := (by decide +kernel : decode prog_2_method_6_code 126 = .ok (.iinc 5 (1), 3))
theorem i_Ad_countExtensions_129 : iGoto M_Ad_countExtensions 129 91 := ⟨-38, (by decide +kernel : decode prog_2_method_6_code 129 = .ok (.goto (-38), 3)), by decide⟩
theorem i_Ad_countExtensions_132 : iIns M_Ad_countExtensions 132 (.iload_n 3) 1 := (by decide +kernel : decode prog_2_method_6_code 132 = .ok (.iload_n 3, 1))
theorem i_Ad_countExtensions_133 : iIns M_Ad_countExtensions 133 .ireturn 1 := (by decide +kernel : decode prog_2_method_6_code 133 = .ok (.ireturn, 1))
theorem i_Sq_init_0 : iIns M_Sq_init 0 (.aload_n 0) 1 := (by decide +kernel : decode prog_7_method_1_code 0 = .ok (.aload_n 0, 1))
theorem i_Sq_init_1 : iObjI M_Sq_init 1 := ⟨3, (by decide +kernel : decode prog_7_method_1_code 1 = .ok (.invokespecial 3, 3)), lw_k2 18 rfl rfl⟩
theorem i_Sq_init_4 : iIns M_Sq_init 4 (.aload_n 0) 1 := (by decide +kernel : decode prog_7_method_1_code 4 = .ok (.aload_n 0, 1))
theorem i_Sq_init_5 : iIns M_Sq_init 5 (.bipush 6) 2 := (by decide +kernel : decode prog_7_method_1_code 5 = .ok (.bipush 6, 2))
theorem i_Sq_init_7 : iNewQ M_Sq_init 7 "ParallelRewriting$Word" := ⟨9, (by decide +kernel : decode prog_7_method_1_code 7 = .ok (.anewarray 9, 3)), lw_k2 19 rfl rfl, Or.inr rfl⟩
theorem i_Sq_init_10 : iPutF M_Sq_init 10 7 0 (.array (.object "ParallelRewriting$Word")) := ⟨11, (by decide +kernel : decode prog_7_method_1_code 10 = .ok (.putfield 11, 3)), pf_Sq_Sq_trail, rfl⟩
theorem i_Sq_init_13 : iIns M_Sq_init 13 (.iconst 0) 1 := (by decide +kernel : decode prog_7_method_1_code 13 = .ok (.iconst 0, 1))
theorem i_Sq_init_14 : iIns M_Sq_init 14 (.istore_n 1) 1 := (by decide +kernel : decode prog_7_method_1_code 14 = .ok (.istore_n 1, 1))
theorem i_Sq_init_15 : iIns M_Sq_init 15 (.iload_n 1) 1 := (by decide +kernel : decode prog_7_method_1_code 15 = .ok (.iload_n 1, 1))
theorem i_Sq_init_16 : iIns M_Sq_init 16 (.iconst 5) 1 := (by decide +kernel : decode prog_7_method_1_code 16 = .ok (.iconst 5, 1))
theorem i_Sq_init_17 : iIcmp M_Sq_init 17 .gt 39 := ⟨22, (by decide +kernel : decode prog_7_method_1_code 17 = .ok (.if_icmp .gt (22), 3)), by decide⟩
theorem i_Sq_init_20 : iIns M_Sq_init 20 (.aload_n 0) 1 := (by decide +kernel : decode prog_7_method_1_code 20 = .ok (.aload_n 0, 1))
theorem i_Sq_init_21 : iGet M_Sq_init 21 7 0 := ⟨11, (by decide +kernel : decode prog_7_method_1_code 21 = .ok (.getfield 11, 3)), fl_Sq_Sq_trail⟩
theorem i_Sq_init_24 : iIns M_Sq_init 24 (.iload_n 1) 1 := (by decide +kernel : decode prog_7_method_1_code 24 = .ok (.iload_n 1, 1))
theorem i_Sq_init_25 : iNew M_Sq_init 25 12 [.null, .int 0] := ⟨9, (by decide +kernel : decode prog_7_method_1_code 25 = .ok (.new 9, 3)), RX10, TX10, 2, tyX10, rfl, uw_Wd, tyX10_ok, lw_k2 19 rfl rfl, lw_k1 97 rfl rfl, lw_k1 6 rfl rfl, by decide +kernel, rfl⟩
theorem i_Sq_init_28 : iIns M_Sq_init 28 .dup 1 := (by decide +kernel : decode prog_7_method_1_code 28 = .ok (.dup, 1))
theorem i_Sq_init_29 : iCallI M_Sq_init 29 M_Wd_init 0 := ⟨⟨17, (by decide +kernel : decode prog_7_method_1_code 29 = .ok (.invokespecial 17, 3)), lw_k2 20 rfl rfl⟩, im_Wd_init, me_Wd_init, pn_Wd_init⟩
theorem i_Sq_init_32 : iIns M_Sq_init 32 .aastore 1 := (by decide +kernel : decode prog_7_method_1_code 32 = .ok (.aastore, 1))
theorem i_Sq_init_33 : iIns M_Sq_init 33 (.iinc 1 (1)) 3 := (by decide +kernel : decode prog_7_method_1_code 33 = .ok (.iinc 1 (1), 3))
theorem i_Sq_init_36 : iGoto M_Sq_init 36 15 := ⟨-21, (by decide +kernel : decode prog_7_method_1_code 36 = .ok (.goto (-21), 3)), by decide⟩
theorem i_Sq_init_39 : iIns M_Sq_init 39 .return_ 1 := (by decide +kernel : decode prog_7_method_1_code 39 = .ok (.return_, 1))
theorem i_Sq_run_0 : iIns M_Sq_run 0 (.aload_n 0) 1 := (by decide +kernel : decode prog_7_method_2_code 0 = .ok (.aload_n 0, 1))
theorem i_Sq_run_1 : iIns M_Sq_run 1 (.iconst 0) 1 := (by decide +kernel : decode prog_7_method_2_code 1 = .ok (.iconst 0, 1))
theorem i_Sq_run_2 : iPutX M_Sq_run 2 7 1 .int := ⟨18, (by decide +kernel : decode prog_7_method_2_code 2 = .ok (.putfield 18, 3)), px_Sq_Sq_found⟩
theorem i_Sq_run_5 : iIns M_Sq_run 5 (.aload_n 0) 1 := (by decide +kernel : decode prog_7_method_2_code 5 = .ok (.aload_n 0, 1))
theorem i_Sq_run_6 : iIns M_Sq_run 6 (.iconst (-1)) 1 := (by decide +kernel : decode prog_7_method_2_code 6 = .ok (.iconst (-1), 1))
theorem i_Sq_run_7 : iPutX M_Sq_run 7 7 2 .int := ⟨22, (by decide +kernel : decode prog_7_method_2_code 7 = .ok (.putfield 22, 3)), px_Sq_Sq_first⟩
theorem i_Sq_run_10 : iIns M_Sq_run 10 (.aload_n 0) 1 := (by decide +kernel : decode prog_7_method_2_code 10 = .ok (.aload_n 0, 1))
theorem i_Sq_run_11 : iGet M_Sq_run 11 7 0 := ⟨11, (by decide +kernel : decode prog_7_method_2_code 11 = .ok (.getfield 11, 3)), fl_Sq_Sq_trail⟩
theorem i_Sq_run_14 : iIns M_Sq_run 14 (.iconst 0) 1 := (by decide +kernel : decode prog_7_method_2_code 14 = .ok (.iconst 0, 1))
theorem i_Sq_run_15 : iIns M_Sq_run 15 .aaload 1 := (by decide +kernel : decode prog_7_method_2_code 15 = .ok (.aaload, 1))
theorem i_Sq_run_16 : iIns M_Sq_run 16 (.aload_n 1) 1 := (by decide +kernel : decode prog_7_method_2_code 16 = .ok (.aload_n 1, 1))
theorem i_Sq_run_17 : iGet M_Sq_run 17 8 1 := ⟨25, (by decide +kernel : decode prog_7_method_2_code 17 = .ok (.getfield 25, 3)), fl_Sq_St_current⟩
theorem i_Sq_run_20 : iCallV M_Sq_run 20 M_Wd_copy 1 12 := ⟨⟨31, (by decide +kernel : decode prog_7_method_2_code 20 = .ok (.invokevirtual 31, 3)), lw_k5 50 rfl rfl⟩, vm_Wd_copy, me_Wd_copy, pn_Wd_copy⟩
theorem i_Sq_run_23 : iIns M_Sq_run 23 (.aload_n 0) 1 := (by decide +kernel : decode prog_7_method_2_code 23 = .ok (.aload_n 0, 1))
theorem i_Sq_run_24 : iIns M_Sq_run 24 (.aload_n 1) 1 := (by decide +kernel : decode prog_7_method_2_code 24 = .ok (.aload_n 1, 1))
theorem i_Sq_run_25 : iIns M_Sq_run 25 (.iconst 0) 1 := (by decide +kernel : decode prog_7_method_2_code 25 = .ok (.iconst 0, 1))
theorem i_Sq_run_26 : iIns M_Sq_run 26 (.iload_n 2) 1 := (by decide +kernel : decode prog_7_method_2_code 26 = .ok (.iload_n 2, 1))
theorem i_Sq_run_27 : iIns M_Sq_run 27 (.iconst 5) 1 := (by decide +kernel : decode prog_7_method_2_code 27 = .ok (.iconst 5, 1))
theorem i_Sq_run_28 : iCallS M_Sq_run 28 M_Ma_minI 2 := ⟨⟨35, (by decide +kernel : decode prog_7_method_2_code 28 = .ok (.invokestatic 35, 3)), lw_k5 51 rfl rfl⟩, sm_Ma_minI, me_Ma_minI, pn_Ma_minI⟩
theorem i_Sq_run_31 : iIns M_Sq_run 31 (.iconst 0) 1 := (by decide +kernel : decode prog_7_method_2_code 31 = .ok (.iconst 0, 1))
theorem i_Sq_run_32 : iCallV M_Sq_run 32 M_Sq_follow 4 7 := ⟨⟨41, (by decide +kernel : decode prog_7_method_2_code 32 = .ok (.invokevirtual 41, 3)), lw_k5 52 rfl rfl⟩, vm_Sq_follow, me_Sq_follow, pn_Sq_follow⟩
theorem i_Sq_run_35 : iIns M_Sq_run 35 .return_ 1 := (by decide +kernel : decode prog_7_method_2_code 35 = .ok (.return_, 1))
theorem i_Sq_follow_0 : iIns M_Sq_follow 0 (.iload_n 2) 1 := (by decide +kernel : decode prog_7_method_3_code 0 = .ok (.iload_n 2, 1))
theorem i_Sq_follow_1 : iIns M_Sq_follow 1 (.iload_n 3) 1 := (by decide +kernel : decode prog_7_method_3_code 1 = .ok (.iload_n 3, 1))
theorem i_Sq_follow_2 : iIcmp M_Sq_follow 2 .lt 52 := ⟨50, (by decide +kernel : decode prog_7_method_3_code 2 = .ok (.if_icmp .lt (50), 3)), by decide⟩
theorem i_Sq_follow_5 : iIns M_Sq_follow 5 (.aload_n 0) 1 := (by decide +kernel : decode prog_7_method_3_code 5 = .ok (.aload_n 0, 1))
theorem i_Sq_follow_6 : iGet M_Sq_follow 6 7 0 := ⟨11, (by decide +kernel : decode prog_7_method_3_code 6 = .ok (.getfield 11, 3)), fl_Sq_Sq_trail⟩
theorem i_Sq_follow_9 : iIns M_Sq_follow 9 (.iload_n 2) 1 := (by decide +kernel : decode prog_7_method_3_code 9 = .ok (.iload_n 2, 1))
theorem i_Sq_follow_10 : iIns M_Sq_follow 10 .aaload 1 := (by decide +kernel : decode prog_7_method_3_code 10 = .ok (.aaload, 1))
theorem i_Sq_follow_11 : iIns M_Sq_follow 11 (.aload_n 1) 1 := (by decide +kernel : decode prog_7_method_3_code 11 = .ok (.aload_n 1, 1))
theorem i_Sq_follow_12 : iGet M_Sq_follow 12 8 2 := ⟨45, (by decide +kernel : decode prog_7_method_3_code 12 = .ok (.getfield 45, 3)), fl_Sq_St_target⟩
theorem i_Sq_follow_15 : iCallV M_Sq_follow 15 M_Wd_sameAs 1 12 := ⟨⟨48, (by decide +kernel : decode prog_7_method_3_code 15 = .ok (.invokevirtual 48, 3)), lw_k5 56 rfl rfl⟩, vm_Wd_sameAs, me_Wd_sameAs, pn_Wd_sameAs⟩
theorem i_Sq_follow_18 : iIf M_Sq_follow 18 .eq 51 := ⟨33, (by decide +kernel : decode prog_7_method_3_code 18 = .ok (.ifCond .eq (33), 3)), by decide⟩
theorem i_Sq_follow_21 : iIns M_Sq_follow 21 (.aload_n 0) 1 := (by decide +kernel : decode prog_7_method_3_code 21 = .ok (.aload_n 0, 1))
theorem i_Sq_follow_22 : iIns M_Sq_follow 22 (.aload_n 0) 1 := (by decide +kernel : decode prog_7_method_3_code 22 = .ok (.aload_n 0, 1))
theorem i_Sq_follow_23 : iGet M_Sq_follow 23 7 1 := ⟨18, (by decide +kernel : decode prog_7_method_3_code 23 = .ok (.getfield 18, 3)), fl_Sq_Sq_found⟩
theorem i_Sq_follow_26 : iIf M_Sq_follow 26 .ne 34 := ⟨8, (by decide +kernel : decode prog_7_method_3_code 26 = .ok (.ifCond .ne (8), 3)), by decide⟩
theorem i_Sq_follow_29 : iIns M_Sq_follow 29 (.iload 4) 2 := (by decide +kernel : decode prog_7_method_3_code 29 = .ok (.iload 4, 2))
theorem i_Sq_follow_31 : iGoto M_Sq_follow 31 38 := ⟨7, (by decide +kernel : decode prog_7_method_3_code 31 = .ok (.goto (7), 3)), by decide⟩
theorem i_Sq_follow_34 : iIns M_Sq_follow 34 (.aload_n 0) 1 := (by decide +kernel : decode prog_7_method_3_code 34 = .ok (.aload_n 0, 1))
theorem i_Sq_follow_35 : iGet M_Sq_follow 35 7 2 := ⟨22, (by decide +kernel : decode prog_7_method_3_code 35 = .ok (.getfield 22, 3)), fl_Sq_Sq_first⟩
theorem i_Sq_follow_38 : iPutX M_Sq_follow 38 7 2 .int := ⟨22, (by decide +kernel : decode prog_7_method_3_code 38 = .ok (.putfield 22, 3)), px_Sq_Sq_first⟩
theorem i_Sq_follow_41 : iIns M_Sq_follow 41 (.aload_n 0) 1 := (by decide +kernel : decode prog_7_method_3_code 41 = .ok (.aload_n 0, 1))
theorem i_Sq_follow_42 : iIns M_Sq_follow 42 .dup 1 := (by decide +kernel : decode prog_7_method_3_code 42 = .ok (.dup, 1))
theorem i_Sq_follow_43 : iGet M_Sq_follow 43 7 1 := ⟨18, (by decide +kernel : decode prog_7_method_3_code 43 = .ok (.getfield 18, 3)), fl_Sq_Sq_found⟩
theorem i_Sq_follow_46 : iIns M_Sq_follow 46 (.iconst 1) 1 := (by decide +kernel : decode prog_7_method_3_code 46 = .ok (.iconst 1, 1))
theorem i_Sq_follow_47 : iIns M_Sq_follow 47 .iadd 1 := (by decide +kernel : decode prog_7_method_3_code 47 = .ok (.iadd, 1))
theorem i_Sq_follow_48 : iPutX M_Sq_follow 48 7 1 .int := ⟨18, (by decide +kernel : decode prog_7_method_3_code 48 = .ok (.putfield 18, 3)), px_Sq_Sq_found⟩
theorem i_Sq_follow_51 : iIns M_Sq_follow 51 .return_ 1 := (by decide +kernel : decode prog_7_method_3_code 51 = .ok (.return_, 1))
theorem i_Sq_follow_52 : iIns M_Sq_follow 52 (.iconst 0) 1 := (by decide +kernel : decode prog_7_method_3_code 52 = .ok (.iconst 0, 1))
theorem i_Sq_follow_53 : iIns M_Sq_follow 53 (.istore 5) 2 := (by decide +kernel : decode prog_7_method_3_code 53 = .ok (.istore 5, 2))
theorem i_Sq_follow_55 : iIns M_Sq_follow 55 (.iload 5) 2 := (by decide +kernel : decode prog_7_method_3_code 55 = .ok (.iload 5, 2))
theorem i_Sq_follow_57 : iIns M_Sq_follow 57 (.iconst 3) 1 := (by decide +kernel : decode prog_7_method_3_code 57 = .ok (.iconst 3, 1))
theorem i_Sq_follow_58 : iIcmp M_Sq_follow 58 .ge 111 := ⟨53, (by decide +kernel : decode prog_7_method_3_code 58 = .ok (.if_icmp .ge (53), 3)), by decide⟩
theorem i_Sq_follow_61 : iIns M_Sq_follow 61 (.aload_n 1) 1 := (by decide +kernel : decode prog_7_method_3_code 61 = .ok (.aload_n 1, 1))
theorem i_Sq_follow_62 : iGet M_Sq_follow 62 8 0 := ⟨52, (by decide +kernel : decode prog_7_method_3_code 62 = .ok (.getfield 52, 3)), fl_Sq_St_tables⟩
theorem i_Sq_follow_65 : iIns M_Sq_follow 65 (.iload 5) 2 := (by decide +kernel : decode prog_7_method_3_code 65 = .ok (.iload 5, 2))
theorem i_Sq_follow_67 : iIns M_Sq_follow 67 .aaload 1 := (by decide +kernel : decode prog_7_method_3_code 67 = .ok (.aaload, 1))
theorem i_Sq_follow_68 : iIns M_Sq_follow 68 (.aload_n 0) 1 := (by decide +kernel : decode prog_7_method_3_code 68 = .ok (.aload_n 0, 1))
theorem i_Sq_follow_69 : iGet M_Sq_follow 69 7 0 := ⟨11, (by decide +kernel : decode prog_7_method_3_code 69 = .ok (.getfield 11, 3)), fl_Sq_Sq_trail⟩
theorem i_Sq_follow_72 : iIns M_Sq_follow 72 (.iload_n 2) 1 := (by decide +kernel : decode prog_7_method_3_code 72 = .ok (.iload_n 2, 1))
theorem i_Sq_follow_73 : iIns M_Sq_follow 73 .aaload 1 := (by decide +kernel : decode prog_7_method_3_code 73 = .ok (.aaload, 1))
theorem i_Sq_follow_74 : iIns M_Sq_follow 74 (.iconst 0) 1 := (by decide +kernel : decode prog_7_method_3_code 74 = .ok (.iconst 0, 1))
theorem i_Sq_follow_75 : iIns M_Sq_follow 75 (.aload_n 0) 1 := (by decide +kernel : decode prog_7_method_3_code 75 = .ok (.aload_n 0, 1))
theorem i_Sq_follow_76 : iGet M_Sq_follow 76 7 0 := ⟨11, (by decide +kernel : decode prog_7_method_3_code 76 = .ok (.getfield 11, 3)), fl_Sq_Sq_trail⟩
theorem i_Sq_follow_79 : iIns M_Sq_follow 79 (.iload_n 2) 1 := (by decide +kernel : decode prog_7_method_3_code 79 = .ok (.iload_n 2, 1))
theorem i_Sq_follow_80 : iIns M_Sq_follow 80 (.iconst 1) 1 := (by decide +kernel : decode prog_7_method_3_code 80 = .ok (.iconst 1, 1))
theorem i_Sq_follow_81 : iIns M_Sq_follow 81 .iadd 1 := (by decide +kernel : decode prog_7_method_3_code 81 = .ok (.iadd, 1))
theorem i_Sq_follow_82 : iIns M_Sq_follow 82 .aaload 1 := (by decide +kernel : decode prog_7_method_3_code 82 = .ok (.aaload, 1))
theorem i_Sq_follow_83 : iCallV M_Sq_follow 83 M_Tb_rewrite 3 9 := ⟨⟨56, (by decide +kernel : decode prog_7_method_3_code 83 = .ok (.invokevirtual 56, 3)), lw_k5 57 rfl rfl⟩, vm_Tb_rewrite, me_Tb_rewrite, pn_Tb_rewrite⟩
theorem i_Sq_follow_86 : iIf M_Sq_follow 86 .eq 105 := ⟨19, (by decide +kernel : decode prog_7_method_3_code 86 = .ok (.ifCond .eq (19), 3)), by decide⟩
theorem i_Sq_follow_89 : iIns M_Sq_follow 89 (.aload_n 0) 1 := (by decide +kernel : decode prog_7_method_3_code 89 = .ok (.aload_n 0, 1))
theorem i_Sq_follow_90 : iIns M_Sq_follow 90 (.aload_n 1) 1 := (by decide +kernel : decode prog_7_method_3_code 90 = .ok (.aload_n 1, 1))
theorem i_Sq_follow_91 : iIns M_Sq_follow 91 (.iload_n 2) 1 := (by decide +kernel : decode prog_7_method_3_code 91 = .ok (.iload_n 2, 1))
theorem i_Sq_follow_92 : iIns M_Sq_follow 92 (.iconst 1) 1 := (by decide +kernel : decode prog_7_method_3_code 92 = .ok (.iconst 1, 1))
theorem i_Sq_follow_93 : iIns M_Sq_follow 93 .iadd 1 := (by decide +kernel : decode prog_7_method_3_code 93 = .ok (.iadd, 1))
theorem i_Sq_follow_94 : iIns M_Sq_follow 94 (.iload_n 3) 1 := (by decide +kernel : decode prog_7_method_3_code 94 = .ok (.iload_n 3, 1))
theorem i_Sq_follow_95 : iIns M_Sq_follow 95 (.iload 4) 2 := (by decide +kernel : decode prog_7_method_3_code 95 = .ok (.iload 4, 2))
theorem i_Sq_follow_97 : iIns M_Sq_follow 97 (.iconst 3) 1 := (by decide +kernel : decode prog_7_method_3_code 97 = .ok (.iconst 3, 1))
theorem i_Sq_follow_98 : iIns M_Sq_follow 98 .imul 1 := (by decide +kernel : decode prog_7_method_3_code 98 = .ok (.imul, 1))
theorem i_Sq_follow_99 : iIns M_Sq_follow 99 (.iload 5) 2 := (by decide +kernel : decode prog_7_method_3_code 99 = .ok (.iload 5, 2))
theorem i_Sq_follow_101 : iIns M_Sq_follow 101 .iadd 1 := (by decide +kernel : decode prog_7_method_3_code 101 = .ok (.iadd, 1))
theorem i_Sq_follow_102 : iCallV M_Sq_follow 102 M_Sq_follow 4 7 := ⟨⟨41, (by decide +kernel : decode prog_7_method_3_code 102 = .ok (.invokevirtual 41, 3)), lw_k5 52 rfl rfl⟩, vm_Sq_follow, me_Sq_follow, pn_Sq_follow⟩
theorem i_Sq_follow_105 : iIns M_Sq_follow 105 (.iinc 5 (1)) 3 := (by decide +kernel : decode prog_7_method_3_code 105 = .ok (.iinc 5 (1), 3))
theorem i_Sq_follow_108 : iGoto M_Sq_follow 108 55 := ⟨-53, (by decide +kernel : decode prog_7_method_3_code 108 = .ok (.goto (-53), 3)), by decide⟩
theorem i_Sq_follow_111 : iIns M_Sq_follow 111 .return_ 1 := (by decide +kernel : decode prog_7_method_3_code 111 = .ok (.return_, 1))
theorem i_Wy_init_0 : iIns M_Wy_init 0 (.aload_n 0) 1 := (by decide +kernel : decode prog_11_method_1_code 0 = .ok (.aload_n 0, 1))
theorem i_Wy_init_1 : iObjI M_Wy_init 1 := ⟨3, (by decide +kernel : decode prog_11_method_1_code 1 = .ok (.invokespecial 3, 3)), lw_k2 5 rfl rfl⟩
theorem i_Wy_init_4 : iIns M_Wy_init 4 (.aload_n 0) 1 := (by decide +kernel : decode prog_11_method_1_code 4 = .ok (.aload_n 0, 1))
theorem i_Wy_init_5 : iIns M_Wy_init 5 (.bipush 61) 2 := (by decide +kernel : decode prog_11_method_1_code 5 = .ok (.bipush 61, 2))
theorem i_Wy_init_7 : iNewA M_Wy_init 7 .long := ⟨(by decide +kernel : decode prog_11_method_1_code 7 = .ok (.newarray .long, 2)), lw_k1 189 rfl rfl⟩
theorem i_Wy_init_9 : iPutX M_Wy_init 9 11 0 (.array .long) := ⟨9, (by decide +kernel : decode prog_11_method_1_code 9 = .ok (.putfield 9, 3)), px_Wy_Wy_ways⟩
theorem i_Wy_init_12 : iIns M_Wy_init 12 (.aload_n 0) 1 := (by decide +kernel : decode prog_11_method_1_code 12 = .ok (.aload_n 0, 1))
theorem i_Wy_init_13 : iIns M_Wy_init 13 (.bipush 61) 2 := (by decide +kernel : decode prog_11_method_1_code 13 = .ok (.bipush 61, 2))
theorem i_Wy_init_15 : iNewA M_Wy_init 15 .long := ⟨(by decide +kernel : decode prog_11_method_1_code 15 = .ok (.newarray .long, 2)), lw_k1 189 rfl rfl⟩
theorem i_Wy_init_17 : iPutX M_Wy_init 17 11 1 (.array .long) := ⟨15, (by decide +kernel : decode prog_11_method_1_code 17 = .ok (.putfield 15, 3)), px_Wy_Wy_next⟩
theorem i_Wy_init_20 : iIns M_Wy_init 20 .return_ 1 := (by decide +kernel : decode prog_11_method_1_code 20 = .ok (.return_, 1))
theorem i_Wy_count_0 : iIns M_Wy_count 0 (.aload_n 0) 1 := (by decide +kernel : decode prog_11_method_2_code 0 = .ok (.aload_n 0, 1))
theorem i_Wy_count_1 : iGet M_Wy_count 1 11 0 := ⟨9, (by decide +kernel : decode prog_11_method_2_code 1 = .ok (.getfield 9, 3)), fl_Wy_Wy_ways⟩
theorem i_Wy_count_4 : iIns M_Wy_count 4 (.lconst 0) 1 := (by decide +kernel : decode prog_11_method_2_code 4 = .ok (.lconst 0, 1))
theorem i_Wy_count_5 : iCallS M_Wy_count 5 M_Ar_fillJ 2 := ⟨⟨18, (by decide +kernel : decode prog_11_method_2_code 5 = .ok (.invokestatic 18, 3)), lw_k5 11 rfl rfl⟩, sm_Ar_fillJ, me_Ar_fillJ, pn_Ar_fillJ⟩
theorem i_Wy_count_8 : iIns M_Wy_count 8 (.aload_n 0) 1 := (by decide +kernel : decode prog_11_method_2_code 8 = .ok (.aload_n 0, 1))
theorem i_Wy_count_9 : iGet M_Wy_count 9 11 0 := ⟨9, (by decide +kernel : decode prog_11_method_2_code 9 = .ok (.getfield 9, 3)), fl_Wy_Wy_ways⟩
theorem i_Wy_count_12 : iIns M_Wy_count 12 (.iconst 0) 1 := (by decide +kernel : decode prog_11_method_2_code 12 = .ok (.iconst 0, 1))
theorem i_Wy_count_13 : iIns M_Wy_count 13 (.lconst 1) 1 := (by decide +kernel : decode prog_11_method_2_code 13 = .ok (.lconst 1, 1))
theorem i_Wy_count_14 : iIns M_Wy_count 14 .lastore 1 := (by decide +kernel : decode prog_11_method_2_code 14 = .ok (.lastore, 1))
theorem i_Wy_count_15 : iIns M_Wy_count 15 (.iconst 0) 1 := (by decide +kernel : decode prog_11_method_2_code 15 = .ok (.iconst 0, 1))
theorem i_Wy_count_16 : iIns M_Wy_count 16 (.istore 4) 2 := (by decide +kernel : decode prog_11_method_2_code 16 = .ok (.istore 4, 2))
theorem i_Wy_count_18 : iIns M_Wy_count 18 (.iload 4) 2 := (by decide +kernel : decode prog_11_method_2_code 18 = .ok (.iload 4, 2))
theorem i_Wy_count_20 : iIns M_Wy_count 20 (.aload_n 2) 1 := (by decide +kernel : decode prog_11_method_2_code 20 = .ok (.aload_n 2, 1))
theorem i_Wy_count_21 : iGet M_Wy_count 21 12 1 := ⟨24, (by decide +kernel : decode prog_11_method_2_code 21 = .ok (.getfield 24, 3)), fl_Wy_Wd_length⟩
theorem i_Wy_count_24 : iIcmp M_Wy_count 24 .ge 70 := ⟨46, (by decide +kernel : decode prog_11_method_2_code 24 = .ok (.if_icmp .ge (46), 3)), by decide⟩
theorem i_Wy_count_27 : iIns M_Wy_count 27 (.aload_n 0) 1 := (by decide +kernel : decode prog_11_method_2_code 27 = .ok (.aload_n 0, 1))
theorem i_Wy_count_28 : iGet M_Wy_count 28 11 1 := ⟨15, (by decide +kernel : decode prog_11_method_2_code 28 = .ok (.getfield 15, 3)), fl_Wy_Wy_next⟩
theorem i_Wy_count_31 : iIns M_Wy_count 31 (.lconst 0) 1 := (by decide +kernel : decode prog_11_method_2_code 31 = .ok (.lconst 0, 1))
theorem i_Wy_count_32 : iCallS M_Wy_count 32 M_Ar_fillJ 2 := ⟨⟨18, (by decide +kernel : decode prog_11_method_2_code 32 = .ok (.invokestatic 18, 3)), lw_k5 11 rfl rfl⟩, sm_Ar_fillJ, me_Ar_fillJ, pn_Ar_fillJ⟩
theorem i_Wy_count_35 : iIns M_Wy_count 35 (.aload_n 0) 1 := (by decide +kernel : decode prog_11_method_2_code 35 = .ok (.aload_n 0, 1))
theorem i_Wy_count_36 : iIns M_Wy_count 36 (.aload_n 1) 1 := (by decide +kernel : decode prog_11_method_2_code 36 = .ok (.aload_n 1, 1))
theorem i_Wy_count_37 : iIns M_Wy_count 37 (.aload_n 2) 1 := (by decide +kernel : decode prog_11_method_2_code 37 = .ok (.aload_n 2, 1))
theorem i_Wy_count_38 : iIns M_Wy_count 38 (.iload 4) 2 := (by decide +kernel : decode prog_11_method_2_code 38 = .ok (.iload 4, 2))
theorem i_Wy_count_40 : iIns M_Wy_count 40 (.aload_n 3) 1 := (by decide +kernel : decode prog_11_method_2_code 40 = .ok (.aload_n 3, 1))
theorem i_Wy_count_41 : iCallV M_Wy_count 41 M_Wy_addLetter 4 11 := ⟨⟨30, (by decide +kernel : decode prog_11_method_2_code 41 = .ok (.invokevirtual 30, 3)), lw_k5 12 rfl rfl⟩, vm_Wy_addLetter, me_Wy_addLetter, pn_Wy_addLetter⟩
theorem i_Wy_count_44 : iIns M_Wy_count 44 (.aload_n 0) 1 := (by decide +kernel : decode prog_11_method_2_code 44 = .ok (.aload_n 0, 1))
theorem i_Wy_count_45 : iGet M_Wy_count 45 11 0 := ⟨9, (by decide +kernel : decode prog_11_method_2_code 45 = .ok (.getfield 9, 3)), fl_Wy_Wy_ways⟩
theorem i_Wy_count_48 : iIns M_Wy_count 48 (.astore 5) 2 := (by decide +kernel : decode prog_11_method_2_code 48 = .ok (.astore 5, 2))
theorem i_Wy_count_50 : iIns M_Wy_count 50 (.aload_n 0) 1 := (by decide +kernel : decode prog_11_method_2_code 50 = .ok (.aload_n 0, 1))
theorem i_Wy_count_51 : iIns M_Wy_count 51 (.aload_n 0) 1 := (by decide +kernel : decode prog_11_method_2_code 51 = .ok (.aload_n 0, 1))
theorem i_Wy_count_52 : iGet M_Wy_count 52 11 1 := ⟨15, (by decide +kernel : decode prog_11_method_2_code 52 = .ok (.getfield 15, 3)), fl_Wy_Wy_next⟩
theorem i_Wy_count_55 : iPutX M_Wy_count 55 11 0 (.array .long) := ⟨9, (by decide +kernel : decode prog_11_method_2_code 55 = .ok (.putfield 9, 3)), px_Wy_Wy_ways⟩
theorem i_Wy_count_58 : iIns M_Wy_count 58 (.aload_n 0) 1 := (by decide +kernel : decode prog_11_method_2_code 58 = .ok (.aload_n 0, 1))
theorem i_Wy_count_59 : iIns M_Wy_count 59 (.aload 5) 2 := (by decide +kernel : decode prog_11_method_2_code 59 = .ok (.aload 5, 2))
theorem i_Wy_count_61 : iPutX M_Wy_count 61 11 1 (.array .long) := ⟨15, (by decide +kernel : decode prog_11_method_2_code 61 = .ok (.putfield 15, 3)), px_Wy_Wy_next⟩
theorem i_Wy_count_64 : iIns M_Wy_count 64 (.iinc 4 (1)) 3 := (by decide +kernel : decode prog_11_method_2_code 64 = .ok (.iinc 4 (1), 3))
theorem i_Wy_count_67 : iGoto M_Wy_count 67 18 := ⟨-49, (by decide +kernel : decode prog_11_method_2_code 67 = .ok (.goto (-49), 3)), by decide⟩
theorem i_Wy_count_70 : iIns M_Wy_count 70 (.aload_n 0) 1 := (by decide +kernel : decode prog_11_method_2_code 70 = .ok (.aload_n 0, 1))
theorem i_Wy_count_71 : iGet M_Wy_count 71 11 0 := ⟨9, (by decide +kernel : decode prog_11_method_2_code 71 = .ok (.getfield 9, 3)), fl_Wy_Wy_ways⟩
theorem i_Wy_count_74 : iIns M_Wy_count 74 (.aload_n 3) 1 := (by decide +kernel : decode prog_11_method_2_code 74 = .ok (.aload_n 3, 1))
theorem i_Wy_count_75 : iGet M_Wy_count 75 12 1 := ⟨24, (by decide +kernel : decode prog_11_method_2_code 75 = .ok (.getfield 24, 3)), fl_Wy_Wd_length⟩
theorem i_Wy_count_78 : iIns M_Wy_count 78 .laload 1 := (by decide +kernel : decode prog_11_method_2_code 78 = .ok (.laload, 1))
theorem i_Wy_count_79 : iIns M_Wy_count 79 .lreturn 1 := (by decide +kernel : decode prog_11_method_2_code 79 = .ok (.lreturn, 1))
theorem i_Wy_addLetter_0 : iIns M_Wy_addLetter 0 (.aload_n 1) 1 := (by decide +kernel : decode prog_11_method_3_code 0 = .ok (.aload_n 1, 1))
theorem i_Wy_addLetter_1 : iIns M_Wy_addLetter 1 (.aload_n 2) 1 := (by decide +kernel : decode prog_11_method_3_code 1 = .ok (.aload_n 2, 1))
theorem i_Wy_addLetter_2 : iIns M_Wy_addLetter 2 (.iload_n 3) 1 := (by decide +kernel : decode prog_11_method_3_code 2 = .ok (.iload_n 3, 1))
theorem i_Wy_addLetter_3 : iCallV M_Wy_addLetter 3 M_Tb_ruleSlotAt 2 9 := ⟨⟨34, (by decide +kernel : decode prog_11_method_3_code 3 = .ok (.invokevirtual 34, 3)), lw_k5 16 rfl rfl⟩, vm_Tb_ruleSlotAt, me_Tb_ruleSlotAt, pn_Tb_ruleSlotAt⟩
theorem i_Wy_addLetter_6 : iIns M_Wy_addLetter 6 (.istore 5) 2 := (by decide +kernel : decode prog_11_method_3_code 6 = .ok (.istore 5, 2))
theorem i_Wy_addLetter_8 : iIns M_Wy_addLetter 8 (.iload 5) 2 := (by decide +kernel : decode prog_11_method_3_code 8 = .ok (.iload 5, 2))
theorem i_Wy_addLetter_10 : iIns M_Wy_addLetter 10 (.iconst (-1)) 1 := (by decide +kernel : decode prog_11_method_3_code 10 = .ok (.iconst (-1), 1))
theorem i_Wy_addLetter_11 : iIcmp M_Wy_addLetter 11 .eq 24 := ⟨13, (by decide +kernel : decode prog_11_method_3_code 11 = .ok (.if_icmp .eq (13), 3)), by decide⟩
theorem i_Wy_addLetter_14 : iIns M_Wy_addLetter 14 (.aload_n 0) 1 := (by decide +kernel : decode prog_11_method_3_code 14 = .ok (.aload_n 0, 1))
theorem i_Wy_addLetter_15 : iIns M_Wy_addLetter 15 (.aload_n 1) 1 := (by decide +kernel : decode prog_11_method_3_code 15 = .ok (.aload_n 1, 1))
theorem i_Wy_addLetter_16 : iIns M_Wy_addLetter 16 (.iload 5) 2 := (by decide +kernel : decode prog_11_method_3_code 16 = .ok (.iload 5, 2))
theorem i_Wy_addLetter_18 : iIns M_Wy_addLetter 18 (.aload 4) 2 := (by decide +kernel : decode prog_11_method_3_code 18 = .ok (.aload 4, 2))
theorem i_Wy_addLetter_20 : iCallV M_Wy_addLetter 20 M_Wy_addProductionOf 3 11 := ⟨⟨40, (by decide +kernel : decode prog_11_method_3_code 20 = .ok (.invokevirtual 40, 3)), lw_k5 17 rfl rfl⟩, vm_Wy_addProductionOf, me_Wy_addProductionOf, pn_Wy_addProductionOf⟩
theorem i_Wy_addLetter_23 : iIns M_Wy_addLetter 23 .return_ 1 := (by decide +kernel : decode prog_11_method_3_code 23 = .ok (.return_, 1))
theorem i_Wy_addLetter_24 : iIns M_Wy_addLetter 24 (.aload_n 2) 1 := (by decide +kernel : decode prog_11_method_3_code 24 = .ok (.aload_n 2, 1))
theorem i_Wy_addLetter_25 : iGet M_Wy_addLetter 25 12 0 := ⟨44, (by decide +kernel : decode prog_11_method_3_code 25 = .ok (.getfield 44, 3)), fl_Wy_Wd_letters⟩
theorem i_Wy_addLetter_28 : iIns M_Wy_addLetter 28 (.iload_n 3) 1 := (by decide +kernel : decode prog_11_method_3_code 28 = .ok (.iload_n 3, 1))
theorem i_Wy_addLetter_29 : iIns M_Wy_addLetter 29 .iaload 1 := (by decide +kernel : decode prog_11_method_3_code 29 = .ok (.iaload, 1))
theorem i_Wy_addLetter_30 : iIns M_Wy_addLetter 30 (.istore 6) 2 := (by decide +kernel : decode prog_11_method_3_code 30 = .ok (.istore 6, 2))
theorem i_Wy_addLetter_32 : iIns M_Wy_addLetter 32 (.iconst 0) 1 := (by decide +kernel : decode prog_11_method_3_code 32 = .ok (.iconst 0, 1))
theorem i_Wy_addLetter_33 : iIns M_Wy_addLetter 33 (.istore 7) 2 := (by decide +kernel : decode prog_11_method_3_code 33 = .ok (.istore 7, 2))
theorem i_Wy_addLetter_35 : iIns M_Wy_addLetter 35 (.iload 7) 2 := (by decide +kernel : decode prog_11_method_3_code 35 = .ok (.iload 7, 2))
theorem i_Wy_addLetter_37 : iIns M_Wy_addLetter 37 (.aload_n 1) 1 := (by decide +kernel : decode prog_11_method_3_code 37 = .ok (.aload_n 1, 1))
theorem i_Wy_addLetter_38 : iGet M_Wy_addLetter 38 9 0 := ⟨48, (by decide +kernel : decode prog_11_method_3_code 38 = .ok (.getfield 48, 3)), fl_Wy_Tb_listSizes⟩
theorem i_Wy_addLetter_41 : iIns M_Wy_addLetter 41 (.iload 6) 2 := (by decide +kernel : decode prog_11_method_3_code 41 = .ok (.iload 6, 2))
theorem i_Wy_addLetter_43 : iIns M_Wy_addLetter 43 .iaload 1 := (by decide +kernel : decode prog_11_method_3_code 43 = .ok (.iaload, 1))
theorem i_Wy_addLetter_44 : iIcmp M_Wy_addLetter 44 .ge 67 := ⟨23, (by decide +kernel : decode prog_11_method_3_code 44 = .ok (.if_icmp .ge (23), 3)), by decide⟩
theorem i_Wy_addLetter_47 : iIns M_Wy_addLetter 47 (.aload_n 0) 1 := (by decide +kernel : decode prog_11_method_3_code 47 = .ok (.aload_n 0, 1))
theorem i_Wy_addLetter_48 : iIns M_Wy_addLetter 48 (.aload_n 1) 1 := (by decide +kernel : decode prog_11_method_3_code 48 = .ok (.aload_n 1, 1))
theorem i_Wy_addLetter_49 : iIns M_Wy_addLetter 49 (.iload 6) 2 := (by decide +kernel : decode prog_11_method_3_code 49 = .ok (.iload 6, 2))
theorem i_Wy_addLetter_51 : iIns M_Wy_addLetter 51 (.iload 7) 2 := (by decide +kernel : decode prog_11_method_3_code 51 = .ok (.iload 7, 2))
theorem i_Wy_addLetter_53 : iCallS M_Wy_addLetter 53 M_Tb_listSlot 2 := ⟨⟨51, (by decide +kernel : decode prog_11_method_3_code 53 = .ok (.invokestatic 51, 3)), lw_k5 30 rfl rfl⟩, sm_Tb_listSlot, me_Tb_listSlot, pn_Tb_listSlot⟩
theorem i_Wy_addLetter_56 : iIns M_Wy_addLetter 56 (.aload 4) 2 := (by decide +kernel : decode prog_11_method_3_code 56 = .ok (.aload 4, 2))
theorem i_Wy_addLetter_58 : iCallV M_Wy_addLetter 58 M_Wy_addProductionOf 3 11 := ⟨⟨40, (by decide +kernel : decode prog_11_method_3_code 58 = .ok (.invokevirtual 40, 3)), lw_k5 17 rfl rfl⟩, vm_Wy_addProductionOf, me_Wy_addProductionOf, pn_Wy_addProductionOf⟩
theorem i_Wy_addLetter_61 : iIns M_Wy_addLetter 61 (.iinc 7 (1)) 3 := (by decide +kernel : decode prog_11_method_3_code 61 = .ok (.iinc 7 (1), 3))
theorem i_Wy_addLetter_64 : iGoto M_Wy_addLetter 64 35 := ⟨-29, (by decide +kernel : decode prog_11_method_3_code 64 = .ok (.goto (-29), 3)), by decide⟩
theorem i_Wy_addLetter_67 : iIns M_Wy_addLetter 67 .return_ 1 := (by decide +kernel : decode prog_11_method_3_code 67 = .ok (.return_, 1))
theorem i_Wy_addProductionOf_0 : iIns M_Wy_addProductionOf 0 (.aload_n 1) 1 := (by decide +kernel : decode prog_11_method_4_code 0 = .ok (.aload_n 1, 1))
theorem i_Wy_addProductionOf_1 : iGet M_Wy_addProductionOf 1 9 1 := ⟨55, (by decide +kernel : decode prog_11_method_4_code 1 = .ok (.getfield 55, 3)), fl_Wy_Tb_lengths⟩
theorem i_Wy_addProductionOf_4 : iIns M_Wy_addProductionOf 4 (.iload_n 2) 1 := (by decide +kernel : decode prog_11_method_4_code 4 = .ok (.iload_n 2, 1))
theorem i_Wy_addProductionOf_5 : iIns M_Wy_addProductionOf 5 .iaload 1 := (by decide +kernel : decode prog_11_method_4_code 5 = .ok (.iaload, 1))
theorem i_Wy_addProductionOf_6 : iIns M_Wy_addProductionOf 6 (.istore 4) 2 := (by decide +kernel : decode prog_11_method_4_code 6 = .ok (.istore 4, 2))
theorem i_Wy_addProductionOf_8 : iIns M_Wy_addProductionOf 8 (.iconst 0) 1 := (by decide +kernel : decode prog_11_method_4_code 8 = .ok (.iconst 0, 1))
theorem i_Wy_addProductionOf_9 : iIns M_Wy_addProductionOf 9 (.istore 5) 2 := (by decide +kernel : decode prog_11_method_4_code 9 = .ok (.istore 5, 2))
theorem i_Wy_addProductionOf_11 : iIns M_Wy_addProductionOf 11 (.iload 5) 2 := (by decide +kernel : decode prog_11_method_4_code 11 = .ok (.iload 5, 2))
theorem i_Wy_addProductionOf_13 : iIns M_Wy_addProductionOf 13 (.iload 4) 2 := (by decide +kernel : decode prog_11_method_4_code 13 = .ok (.iload 4, 2))
theorem i_Wy_addProductionOf_15 : iIns M_Wy_addProductionOf 15 .iadd 1 := (by decide +kernel : decode prog_11_method_4_code 15 = .ok (.iadd, 1))
theorem i_Wy_addProductionOf_16 : iIns M_Wy_addProductionOf 16 (.aload_n 3) 1 := (by decide +kernel : decode prog_11_method_4_code 16 = .ok (.aload_n 3, 1))
theorem i_Wy_addProductionOf_17 : iGet M_Wy_addProductionOf 17 12 1 := ⟨24, (by decide +kernel : decode prog_11_method_4_code 17 = .ok (.getfield 24, 3)), fl_Wy_Wd_length⟩
theorem i_Wy_addProductionOf_20 : iIcmp M_Wy_addProductionOf 20 .gt 82 := ⟨62, (by decide +kernel : decode prog_11_method_4_code 20 = .ok (.if_icmp .gt (62), 3)), by decide⟩
theorem i_Wy_addProductionOf_23 : iIns M_Wy_addProductionOf 23 (.aload_n 0) 1 := (by decide +kernel : decode prog_11_method_4_code 23 = .ok (.aload_n 0, 1))
theorem i_Wy_addProductionOf_24 : iGet M_Wy_addProductionOf 24 11 0 := ⟨9, (by decide +kernel : decode prog_11_method_4_code 24 = .ok (.getfield 9, 3)), fl_Wy_Wy_ways⟩
theorem i_Wy_addProductionOf_27 : iIns M_Wy_addProductionOf 27 (.iload 5) 2 := (by decide +kernel : decode prog_11_method_4_code 27 = .ok (.iload 5, 2))
theorem i_Wy_addProductionOf_29 : iIns M_Wy_addProductionOf 29 .laload 1 := (by decide +kernel : decode prog_11_method_4_code 29 = .ok (.laload, 1))
theorem i_Wy_addProductionOf_30 : iIns M_Wy_addProductionOf 30 (.lconst 0) 1 := (by decide +kernel : decode prog_11_method_4_code 30 = .ok (.lconst 0, 1))
theorem i_Wy_addProductionOf_31 : iIns M_Wy_addProductionOf 31 .lcmp 1 := (by decide +kernel : decode prog_11_method_4_code 31 = .ok (.lcmp, 1))
theorem i_Wy_addProductionOf_32 : iIf M_Wy_addProductionOf 32 .eq 76 := ⟨44, (by decide +kernel : decode prog_11_method_4_code 32 = .ok (.ifCond .eq (44), 3)), by decide⟩
theorem i_Wy_addProductionOf_35 : iIns M_Wy_addProductionOf 35 (.aload_n 1) 1 := (by decide +kernel : decode prog_11_method_4_code 35 = .ok (.aload_n 1, 1))
theorem i_Wy_addProductionOf_36 : iIns M_Wy_addProductionOf 36 (.iload_n 2) 1 := (by decide +kernel : decode prog_11_method_4_code 36 = .ok (.iload_n 2, 1))
theorem i_Wy_addProductionOf_37 : iIns M_Wy_addProductionOf 37 (.aload_n 3) 1 := (by decide +kernel : decode prog_11_method_4_code 37 = .ok (.aload_n 3, 1))
theorem i_Wy_addProductionOf_38 : iIns M_Wy_addProductionOf 38 (.iload 5) 2 := (by decide +kernel : decode prog_11_method_4_code 38 = .ok (.iload 5, 2))
theorem i_Wy_addProductionOf_40 : iCallS M_Wy_addProductionOf 40 M_Wy_standsAt 4 := ⟨⟨58, (by decide +kernel : decode prog_11_method_4_code 40 = .ok (.invokestatic 58, 3)), lw_k5 21 rfl rfl⟩, sm_Wy_standsAt, me_Wy_standsAt, pn_Wy_standsAt⟩
theorem i_Wy_addProductionOf_43 : iIf M_Wy_addProductionOf 43 .eq 76 := ⟨33, (by decide +kernel : decode prog_11_method_4_code 43 = .ok (.ifCond .eq (33), 3)), by decide⟩
theorem i_Wy_addProductionOf_46 : iIns M_Wy_addProductionOf 46 (.aload_n 0) 1 := (by decide +kernel : decode prog_11_method_4_code 46 = .ok (.aload_n 0, 1))
theorem i_Wy_addProductionOf_47 : iGet M_Wy_addProductionOf 47 11 1 := ⟨15, (by decide +kernel : decode prog_11_method_4_code 47 = .ok (.getfield 15, 3)), fl_Wy_Wy_next⟩
theorem i_Wy_addProductionOf_50 : iIns M_Wy_addProductionOf 50 (.iload 5) 2 := (by decide +kernel : decode prog_11_method_4_code 50 = .ok (.iload 5, 2))
theorem i_Wy_addProductionOf_52 : iIns M_Wy_addProductionOf 52 (.iload 4) 2 := (by decide +kernel : decode prog_11_method_4_code 52 = .ok (.iload 4, 2))
theorem i_Wy_addProductionOf_54 : iIns M_Wy_addProductionOf 54 .iadd 1 := (by decide +kernel : decode prog_11_method_4_code 54 = .ok (.iadd, 1))
theorem i_Wy_addProductionOf_55 : iIns M_Wy_addProductionOf 55 (.aload_n 0) 1 := (by decide +kernel : decode prog_11_method_4_code 55 = .ok (.aload_n 0, 1))
theorem i_Wy_addProductionOf_56 : iGet M_Wy_addProductionOf 56 11 1 := ⟨15, (by decide +kernel : decode prog_11_method_4_code 56 = .ok (.getfield 15, 3)), fl_Wy_Wy_next⟩
theorem i_Wy_addProductionOf_59 : iIns M_Wy_addProductionOf 59 (.iload 5) 2 := (by decide +kernel : decode prog_11_method_4_code 59 = .ok (.iload 5, 2))
theorem i_Wy_addProductionOf_61 : iIns M_Wy_addProductionOf 61 (.iload 4) 2 := (by decide +kernel : decode prog_11_method_4_code 61 = .ok (.iload 4, 2))
theorem i_Wy_addProductionOf_63 : iIns M_Wy_addProductionOf 63 .iadd 1 := (by decide +kernel : decode prog_11_method_4_code 63 = .ok (.iadd, 1))
theorem i_Wy_addProductionOf_64 : iIns M_Wy_addProductionOf 64 .laload 1 := (by decide +kernel : decode prog_11_method_4_code 64 = .ok (.laload, 1))
theorem i_Wy_addProductionOf_65 : iIns M_Wy_addProductionOf 65 (.aload_n 0) 1 := (by decide +kernel : decode prog_11_method_4_code 65 = .ok (.aload_n 0, 1))
theorem i_Wy_addProductionOf_66 : iGet M_Wy_addProductionOf 66 11 0 := ⟨9, (by decide +kernel : decode prog_11_method_4_code 66 = .ok (.getfield 9, 3)), fl_Wy_Wy_ways⟩
theorem i_Wy_addProductionOf_69 : iIns M_Wy_addProductionOf 69 (.iload 5) 2 := (by decide +kernel : decode prog_11_method_4_code 69 = .ok (.iload 5, 2))
theorem i_Wy_addProductionOf_71 : iIns M_Wy_addProductionOf 71 .laload 1 := (by decide +kernel : decode prog_11_method_4_code 71 = .ok (.laload, 1))
theorem i_Wy_addProductionOf_72 : iCallS M_Wy_addProductionOf 72 M_Wy_sum 2 := ⟨⟨62, (by decide +kernel : decode prog_11_method_4_code 72 = .ok (.invokestatic 62, 3)), lw_k5 25 rfl rfl⟩, sm_Wy_sum, me_Wy_sum, pn_Wy_sum⟩
theorem i_Wy_addProductionOf_75 : iIns M_Wy_addProductionOf 75 .lastore 1 := (by decide +kernel : decode prog_11_method_4_code 75 = .ok (.lastore, 1))
theorem i_Wy_addProductionOf_76 : iIns M_Wy_addProductionOf 76 (.iinc 5 (1)) 3 := (by decide +kernel : decode prog_11_method_4_code 76 = .ok (.iinc 5 (1), 3))
theorem i_Wy_addProductionOf_79 : iGoto M_Wy_addProductionOf 79 11 := ⟨-68, (by decide +kernel : decode prog_11_method_4_code 79 = .ok (.goto (-68), 3)), by decide⟩
theorem i_Wy_addProductionOf_82 : iIns M_Wy_addProductionOf 82 .return_ 1 := (by decide +kernel : decode prog_11_method_4_code 82 = .ok (.return_, 1))
theorem i_Wy_standsAt_0 : iIns M_Wy_standsAt 0 (.iconst 0) 1 := (by decide +kernel : decode prog_11_method_5_code 0 = .ok (.iconst 0, 1))
theorem i_Wy_standsAt_1 : iIns M_Wy_standsAt 1 (.istore 4) 2 := (by decide +kernel : decode prog_11_method_5_code 1 = .ok (.istore 4, 2))
theorem i_Wy_standsAt_3 : iIns M_Wy_standsAt 3 (.iload 4) 2 := (by decide +kernel : decode prog_11_method_5_code 3 = .ok (.iload 4, 2))
theorem i_Wy_standsAt_5 : iIns M_Wy_standsAt 5 (.aload_n 0) 1 := (by decide +kernel : decode prog_11_method_5_code 5 = .ok (.aload_n 0, 1))
theorem i_Wy_standsAt_6 : iGet M_Wy_standsAt 6 9 1 := ⟨55, (by decide +kernel : decode prog_11_method_5_code 6 = .ok (.getfield 55, 3)), fl_Wy_Tb_lengths⟩
theorem i_Wy_standsAt_9 : iIns M_Wy_standsAt 9 (.iload_n 1) 1 := (by decide +kernel : decode prog_11_method_5_code 9 = .ok (.iload_n 1, 1))
theorem i_Wy_standsAt_10 : iIns M_Wy_standsAt 10 .iaload 1 := (by decide +kernel : decode prog_11_method_5_code 10 = .ok (.iaload, 1))
theorem i_Wy_standsAt_11 : iIcmp M_Wy_standsAt 11 .ge 41 := ⟨30, (by decide +kernel : decode prog_11_method_5_code 11 = .ok (.if_icmp .ge (30), 3)), by decide⟩
theorem i_Wy_standsAt_14 : iIns M_Wy_standsAt 14 (.aload_n 0) 1 := (by decide +kernel : decode prog_11_method_5_code 14 = .ok (.aload_n 0, 1))
theorem i_Wy_standsAt_15 : iIns M_Wy_standsAt 15 (.iload_n 1) 1 := (by decide +kernel : decode prog_11_method_5_code 15 = .ok (.iload_n 1, 1))
theorem i_Wy_standsAt_16 : iIns M_Wy_standsAt 16 (.iload 4) 2 := (by decide +kernel : decode prog_11_method_5_code 16 = .ok (.iload 4, 2))
theorem i_Wy_standsAt_18 : iCallV M_Wy_standsAt 18 M_Tb_letterOf 2 9 := ⟨⟨66, (by decide +kernel : decode prog_11_method_5_code 18 = .ok (.invokevirtual 66, 3)), lw_k5 24 rfl rfl⟩, vm_Tb_letterOf, me_Tb_letterOf, pn_Tb_letterOf⟩
theorem i_Wy_standsAt_21 : iIns M_Wy_standsAt 21 (.aload_n 2) 1 := (by decide +kernel : decode prog_11_method_5_code 21 = .ok (.aload_n 2, 1))
theorem i_Wy_standsAt_22 : iGet M_Wy_standsAt 22 12 0 := ⟨44, (by decide +kernel : decode prog_11_method_5_code 22 = .ok (.getfield 44, 3)), fl_Wy_Wd_letters⟩
theorem i_Wy_standsAt_25 : iIns M_Wy_standsAt 25 (.iload_n 3) 1 := (by decide +kernel : decode prog_11_method_5_code 25 = .ok (.iload_n 3, 1))
theorem i_Wy_standsAt_26 : iIns M_Wy_standsAt 26 (.iload 4) 2 := (by decide +kernel : decode prog_11_method_5_code 26 = .ok (.iload 4, 2))
theorem i_Wy_standsAt_28 : iIns M_Wy_standsAt 28 .iadd 1 := (by decide +kernel : decode prog_11_method_5_code 28 = .ok (.iadd, 1))
theorem i_Wy_standsAt_29 : iIns M_Wy_standsAt 29 .iaload 1 := (by decide +kernel : decode prog_11_method_5_code 29 = .ok (.iaload, 1))
theorem i_Wy_standsAt_30 : iIcmp M_Wy_standsAt 30 .eq 35 := ⟨5, (by decide +kernel : decode prog_11_method_5_code 30 = .ok (.if_icmp .eq (5), 3)), by decide⟩
theorem i_Wy_standsAt_33 : iIns M_Wy_standsAt 33 (.iconst 0) 1 := (by decide +kernel : decode prog_11_method_5_code 33 = .ok (.iconst 0, 1))
theorem i_Wy_standsAt_34 : iIns M_Wy_standsAt 34 .ireturn 1 := (by decide +kernel : decode prog_11_method_5_code 34 = .ok (.ireturn, 1))
theorem i_Wy_standsAt_35 : iIns M_Wy_standsAt 35 (.iinc 4 (1)) 3 := (by decide +kernel : decode prog_11_method_5_code 35 = .ok (.iinc 4 (1), 3))
theorem i_Wy_standsAt_38 : iGoto M_Wy_standsAt 38 3 := ⟨-35, (by decide +kernel : decode prog_11_method_5_code 38 = .ok (.goto (-35), 3)), by decide⟩
theorem i_Wy_standsAt_41 : iIns M_Wy_standsAt 41 (.iconst 1) 1 := (by decide +kernel : decode prog_11_method_5_code 41 = .ok (.iconst 1, 1))
theorem i_Wy_standsAt_42 : iIns M_Wy_standsAt 42 .ireturn 1 := (by decide +kernel : decode prog_11_method_5_code 42 = .ok (.ireturn, 1))
theorem i_Wy_sum_0 : iIns M_Wy_sum 0 (.lload_n 0) 1 := (by decide +kernel : decode prog_11_method_6_code 0 = .ok (.lload_n 0, 1))
theorem i_Wy_sum_1 : iLdcL M_Wy_sum 1 (-1) := ⟨69, (by decide +kernel : decode prog_11_method_6_code 1 = .ok (.ldc2_w 69, 3)), lw_k5 28 rfl rfl⟩
theorem i_Wy_sum_4 : iIns M_Wy_sum 4 .lcmp 1 := (by decide +kernel : decode prog_11_method_6_code 4 = .ok (.lcmp, 1))
theorem i_Wy_sum_5 : iIf M_Wy_sum 5 .eq 26 := ⟨21, (by decide +kernel : decode prog_11_method_6_code 5 = .ok (.ifCond .eq (21), 3)), by decide⟩
theorem i_Wy_sum_8 : iIns M_Wy_sum 8 (.lload_n 2) 1 := (by decide +kernel : decode prog_11_method_6_code 8 = .ok (.lload_n 2, 1))
theorem i_Wy_sum_9 : iLdcL M_Wy_sum 9 (-1) := ⟨69, (by decide +kernel : decode prog_11_method_6_code 9 = .ok (.ldc2_w 69, 3)), lw_k5 28 rfl rfl⟩
theorem i_Wy_sum_12 : iIns M_Wy_sum 12 .lcmp 1 := (by decide +kernel : decode prog_11_method_6_code 12 = .ok (.lcmp, 1))
theorem i_Wy_sum_13 : iIf M_Wy_sum 13 .eq 26 := ⟨13, (by decide +kernel : decode prog_11_method_6_code 13 = .ok (.ifCond .eq (13), 3)), by decide⟩
theorem i_Wy_sum_16 : iIns M_Wy_sum 16 (.lload_n 0) 1 := (by decide +kernel : decode prog_11_method_6_code 16 = .ok (.lload_n 0, 1))
theorem i_Wy_sum_17 : iLdcL M_Wy_sum 17 (9223372036854775807) := ⟨73, (by decide +kernel : decode prog_11_method_6_code 17 = .ok (.ldc2_w 73, 3)), lw_k5 29 rfl rfl⟩
theorem i_Wy_sum_20 : iIns M_Wy_sum 20 (.lload_n 2) 1 := (by decide +kernel : decode prog_11_method_6_code 20 = .ok (.lload_n 2, 1))
theorem i_Wy_sum_21 : iIns M_Wy_sum 21 .lsub 1 := (by decide +kernel : decode prog_11_method_6_code 21 = .ok (.lsub, 1))
theorem i_Wy_sum_22 : iIns M_Wy_sum 22 .lcmp 1 := (by decide +kernel : decode prog_11_method_6_code 22 = .ok (.lcmp, 1))
theorem i_Wy_sum_23 : iIf M_Wy_sum 23 .le 30 := ⟨7, (by decide +kernel : decode prog_11_method_6_code 23 = .ok (.ifCond .le (7), 3)), by decide⟩
theorem i_Wy_sum_26 : iLdcL M_Wy_sum 26 (-1) := ⟨69, (by decide +kernel : decode prog_11_method_6_code 26 = .ok (.ldc2_w 69, 3)), lw_k5 28 rfl rfl⟩
theorem i_Wy_sum_29 : iIns M_Wy_sum 29 .lreturn 1 := (by decide +kernel : decode prog_11_method_6_code 29 = .ok (.lreturn, 1))
theorem i_Wy_sum_30 : iIns M_Wy_sum 30 (.lload_n 0) 1 := (by decide +kernel : decode prog_11_method_6_code 30 = .ok (.lload_n 0, 1))
theorem i_Wy_sum_31 : iIns M_Wy_sum 31 (.lload_n 2) 1 := (by decide +kernel : decode prog_11_method_6_code 31 = .ok (.lload_n 2, 1))
theorem i_Wy_sum_32 : iIns M_Wy_sum 32 .ladd 1 := (by decide +kernel : decode prog_11_method_6_code 32 = .ok (.ladd, 1))
theorem i_Wy_sum_33 : iIns M_Wy_sum 33 .lreturn 1 := (by decide +kernel : decode prog_11_method_6_code 33 = .ok (.lreturn, 1))
theorem i_Fi_init_0 : iIns M_Fi_init 0 (.aload_n 0) 1 := (by decide +kernel : decode prog_3_method_1_code 0 = .ok (.aload_n 0, 1))
theorem i_Fi_init_1 : iObjI M_Fi_init 1 := ⟨3, (by decide +kernel : decode prog_3_method_1_code 1 = .ok (.invokespecial 3, 3)), lw_k2 38 rfl rfl⟩
theorem i_Fi_init_4 : iIns M_Fi_init 4 (.aload_n 0) 1 := (by decide +kernel : decode prog_3_method_1_code 4 = .ok (.aload_n 0, 1))
theorem i_Fi_init_5 : iIns M_Fi_init 5 (.bipush 61) 2 := (by decide +kernel : decode prog_3_method_1_code 5 = .ok (.bipush 61, 2))
theorem i_Fi_init_7 : iNewA M_Fi_init 7 .double := ⟨(by decide +kernel : decode prog_3_method_1_code 7 = .ok (.newarray .double, 2)), lw_k2 88 rfl rfl⟩
theorem i_Fi_init_9 : iPutF M_Fi_init 9 3 0 (.array .double) := ⟨9, (by decide +kernel : decode prog_3_method_1_code 9 = .ok (.putfield 9, 3)), pf_Fi_Fi_xs, rfl⟩
theorem i_Fi_init_12 : iIns M_Fi_init 12 (.aload_n 0) 1 := (by decide +kernel : decode prog_3_method_1_code 12 = .ok (.aload_n 0, 1))
theorem i_Fi_init_13 : iIns M_Fi_init 13 (.bipush 61) 2 := (by decide +kernel : decode prog_3_method_1_code 13 = .ok (.bipush 61, 2))
theorem i_Fi_init_15 : iNewA M_Fi_init 15 .double := ⟨(by decide +kernel : decode prog_3_method_1_code 15 = .ok (.newarray .double, 2)), lw_k2 88 rfl rfl⟩
theorem i_Fi_init_17 : iPutF M_Fi_init 17 3 1 (.array .double) := ⟨15, (by decide +kernel : decode prog_3_method_1_code 17 = .ok (.putfield 15, 3)), pf_Fi_Fi_ys, rfl⟩
theorem i_Fi_init_20 : iIns M_Fi_init 20 (.aload_n 0) 1 := (by decide +kernel : decode prog_3_method_1_code 20 = .ok (.aload_n 0, 1))
theorem i_Fi_init_21 : iIns M_Fi_init 21 (.sipush 240) 3 := (by decide +kernel : decode prog_3_method_1_code 21 = .ok (.sipush 240, 3))
theorem i_Fi_init_24 : iNewA M_Fi_init 24 .double := ⟨(by decide +kernel : decode prog_3_method_1_code 24 = .ok (.newarray .double, 2)), lw_k2 88 rfl rfl⟩
theorem i_Fi_init_26 : iPutF M_Fi_init 26 3 3 (.array .double) := ⟨18, (by decide +kernel : decode prog_3_method_1_code 26 = .ok (.putfield 18, 3)), pf_Fi_Fi_ends, rfl⟩
theorem i_Fi_init_29 : iIns M_Fi_init 29 (.aload_n 0) 1 := (by decide +kernel : decode prog_3_method_1_code 29 = .ok (.aload_n 0, 1))
theorem i_Fi_init_30 : iIns M_Fi_init 30 (.bipush 60) 2 := (by decide +kernel : decode prog_3_method_1_code 30 = .ok (.bipush 60, 2))
theorem i_Fi_init_32 : iNewA M_Fi_init 32 .double := ⟨(by decide +kernel : decode prog_3_method_1_code 32 = .ok (.newarray .double, 2)), lw_k2 88 rfl rfl⟩
theorem i_Fi_init_34 : iPutF M_Fi_init 34 3 6 (.array .double) := ⟨21, (by decide +kernel : decode prog_3_method_1_code 34 = .ok (.putfield 21, 3)), pf_Fi_Fi_heldNumbers, rfl⟩
theorem i_Fi_init_37 : iIns M_Fi_init 37 (.aload_n 0) 1 := (by decide +kernel : decode prog_3_method_1_code 37 = .ok (.aload_n 0, 1))
theorem i_Fi_init_38 : iIns M_Fi_init 38 (.bipush 20) 2 := (by decide +kernel : decode prog_3_method_1_code 38 = .ok (.bipush 20, 2))
theorem i_Fi_init_40 : iNewA M_Fi_init 40 .int := ⟨(by decide +kernel : decode prog_3_method_1_code 40 = .ok (.newarray .int, 2)), lw_k1 95 rfl rfl⟩
theorem i_Fi_init_42 : iPutF M_Fi_init 42 3 7 (.array .int) := ⟨24, (by decide +kernel : decode prog_3_method_1_code 42 = .ok (.putfield 24, 3)), pf_Fi_Fi_heldHeadings, rfl⟩
theorem i_Fi_init_45 : iIns M_Fi_init 45 .return_ 1 := (by decide +kernel : decode prog_3_method_1_code 45 = .ok (.return_, 1))
theorem i_Fi_draw_0 : iIns M_Fi_draw 0 (.aload_n 0) 1 := (by decide +kernel : decode prog_3_method_2_code 0 = .ok (.aload_n 0, 1))
theorem i_Fi_draw_1 : iCallV M_Fi_draw 1 M_Fi_begin 0 3 := ⟨⟨28, (by decide +kernel : decode prog_3_method_2_code 1 = .ok (.invokevirtual 28, 3)), lw_k5 155 rfl rfl⟩, vm_Fi_begin, me_Fi_begin, pn_Fi_begin⟩
theorem i_Fi_draw_4 : iIns M_Fi_draw 4 (.aload_n 0) 1 := (by decide +kernel : decode prog_3_method_2_code 4 = .ok (.aload_n 0, 1))
theorem i_Fi_draw_5 : iCallV M_Fi_draw 5 M_Fi_keepPoint 0 3 := ⟨⟨31, (by decide +kernel : decode prog_3_method_2_code 5 = .ok (.invokevirtual 31, 3)), lw_k5 159 rfl rfl⟩, vm_Fi_keepPoint, me_Fi_keepPoint, pn_Fi_keepPoint⟩
theorem i_Fi_draw_8 : iIns M_Fi_draw 8 (.iconst 0) 1 := (by decide +kernel : decode prog_3_method_2_code 8 = .ok (.iconst 0, 1))
theorem i_Fi_draw_9 : iIns M_Fi_draw 9 (.istore_n 3) 1 := (by decide +kernel : decode prog_3_method_2_code 9 = .ok (.istore_n 3, 1))
theorem i_Fi_draw_10 : iIns M_Fi_draw 10 (.iload_n 3) 1 := (by decide +kernel : decode prog_3_method_2_code 10 = .ok (.iload_n 3, 1))
theorem i_Fi_draw_11 : iIns M_Fi_draw 11 (.aload_n 1) 1 := (by decide +kernel : decode prog_3_method_2_code 11 = .ok (.aload_n 1, 1))
theorem i_Fi_draw_12 : iGet M_Fi_draw 12 12 1 := ⟨34, (by decide +kernel : decode prog_3_method_2_code 12 = .ok (.getfield 34, 3)), fl_Fi_Wd_length⟩
theorem i_Fi_draw_15 : iIcmp M_Fi_draw 15 .ge 45 := ⟨30, (by decide +kernel : decode prog_3_method_2_code 15 = .ok (.if_icmp .ge (30), 3)), by decide⟩
theorem i_Fi_draw_18 : iIns M_Fi_draw 18 (.aload_n 0) 1 := (by decide +kernel : decode prog_3_method_2_code 18 = .ok (.aload_n 0, 1))
theorem i_Fi_draw_19 : iIns M_Fi_draw 19 (.aload_n 2) 1 := (by decide +kernel : decode prog_3_method_2_code 19 = .ok (.aload_n 2, 1))
theorem i_Fi_draw_20 : iIns M_Fi_draw 20 (.aload_n 1) 1 := (by decide +kernel : decode prog_3_method_2_code 20 = .ok (.aload_n 1, 1))
theorem i_Fi_draw_21 : iGet M_Fi_draw 21 12 0 := ⟨40, (by decide +kernel : decode prog_3_method_2_code 21 = .ok (.getfield 40, 3)), fl_Fi_Wd_letters⟩
theorem i_Fi_draw_24 : iIns M_Fi_draw 24 (.iload_n 3) 1 := (by decide +kernel : decode prog_3_method_2_code 24 = .ok (.iload_n 3, 1))
theorem i_Fi_draw_25 : iIns M_Fi_draw 25 .iaload 1 := (by decide +kernel : decode prog_3_method_2_code 25 = .ok (.iaload, 1))
theorem i_Fi_draw_26 : iIns M_Fi_draw 26 .iaload 1 := (by decide +kernel : decode prog_3_method_2_code 26 = .ok (.iaload, 1))
theorem i_Fi_draw_27 : iCallV M_Fi_draw 27 M_Fi_carryOut 1 3 := ⟨⟨43, (by decide +kernel : decode prog_3_method_2_code 27 = .ok (.invokevirtual 43, 3)), lw_k5 163 rfl rfl⟩, vm_Fi_carryOut, me_Fi_carryOut, pn_Fi_carryOut⟩
theorem i_Fi_draw_30 : iIf M_Fi_draw 30 .ne 35 := ⟨5, (by decide +kernel : decode prog_3_method_2_code 30 = .ok (.ifCond .ne (5), 3)), by decide⟩
theorem i_Fi_draw_33 : iIns M_Fi_draw 33 (.iconst 0) 1 := (by decide +kernel : decode prog_3_method_2_code 33 = .ok (.iconst 0, 1))
theorem i_Fi_draw_34 : iIns M_Fi_draw 34 .ireturn 1 := (by decide +kernel : decode prog_3_method_2_code 34 = .ok (.ireturn, 1))
theorem i_Fi_draw_35 : iIns M_Fi_draw 35 (.aload_n 0) 1 := (by decide +kernel : decode prog_3_method_2_code 35 = .ok (.aload_n 0, 1))
theorem i_Fi_draw_36 : iCallV M_Fi_draw 36 M_Fi_keepPoint 0 3 := ⟨⟨31, (by decide +kernel : decode prog_3_method_2_code 36 = .ok (.invokevirtual 31, 3)), lw_k5 159 rfl rfl⟩, vm_Fi_keepPoint, me_Fi_keepPoint, pn_Fi_keepPoint⟩
theorem i_Fi_draw_39 : iIns M_Fi_draw 39 (.iinc 3 (1)) 3 := (by decide +kernel : decode prog_3_method_2_code 39 = .ok (.iinc 3 (1), 3))
theorem i_Fi_draw_42 : iGoto M_Fi_draw 42 10 := ⟨-32, (by decide +kernel : decode prog_3_method_2_code 42 = .ok (.goto (-32), 3)), by decide⟩
theorem i_Fi_draw_45 : iIns M_Fi_draw 45 (.iconst 1) 1 := (by decide +kernel : decode prog_3_method_2_code 45 = .ok (.iconst 1, 1))
theorem i_Fi_draw_46 : iIns M_Fi_draw 46 .ireturn 1 := (by decide +kernel : decode prog_3_method_2_code 46 = .ok (.ireturn, 1))
theorem i_Fi_begin_0 : iIns M_Fi_begin 0 (.aload_n 0) 1 := (by decide +kernel : decode prog_3_method_3_code 0 = .ok (.aload_n 0, 1))
theorem i_Fi_begin_1 : iIns M_Fi_begin 1 (.iconst 0) 1 := (by decide +kernel : decode prog_3_method_3_code 1 = .ok (.iconst 0, 1))
theorem i_Fi_begin_2 : iPutX M_Fi_begin 2 3 2 .int := ⟨47, (by decide +kernel : decode prog_3_method_3_code 2 = .ok (.putfield 47, 3)), px_Fi_Fi_points⟩
theorem i_Fi_begin_5 : iIns M_Fi_begin 5 (.aload_n 0) 1 := (by decide +kernel : decode prog_3_method_3_code 5 = .ok (.aload_n 0, 1))
theorem i_Fi_begin_6 : iIns M_Fi_begin 6 (.iconst 0) 1 := (by decide +kernel : decode prog_3_method_3_code 6 = .ok (.iconst 0, 1))
theorem i_Fi_begin_7 : iPutX M_Fi_begin 7 3 4 .int := ⟨50, (by decide +kernel : decode prog_3_method_3_code 7 = .ok (.putfield 50, 3)), px_Fi_Fi_segments⟩
theorem i_Fi_begin_10 : iIns M_Fi_begin 10 (.aload_n 0) 1 := (by decide +kernel : decode prog_3_method_3_code 10 = .ok (.aload_n 0, 1))
theorem i_Fi_begin_11 : iIns M_Fi_begin 11 (.dconst 0) 1 := (by decide +kernel : decode prog_3_method_3_code 11 = .ok (.dconst 0, 1))
theorem i_Fi_begin_12 : iPutX M_Fi_begin 12 3 5 .double := ⟨53, (by decide +kernel : decode prog_3_method_3_code 12 = .ok (.putfield 53, 3)), px_Fi_Fi_ink⟩
theorem i_Fi_begin_15 : iIns M_Fi_begin 15 (.aload_n 0) 1 := (by decide +kernel : decode prog_3_method_3_code 15 = .ok (.aload_n 0, 1))
theorem i_Fi_begin_16 : iIns M_Fi_begin 16 (.iconst 0) 1 := (by decide +kernel : decode prog_3_method_3_code 16 = .ok (.iconst 0, 1))
theorem i_Fi_begin_17 : iPutX M_Fi_begin 17 3 8 .int := ⟨57, (by decide +kernel : decode prog_3_method_3_code 17 = .ok (.putfield 57, 3)), px_Fi_Fi_depth⟩
theorem i_Fi_begin_20 : iIns M_Fi_begin 20 (.aload_n 0) 1 := (by decide +kernel : decode prog_3_method_3_code 20 = .ok (.aload_n 0, 1))
theorem i_Fi_begin_21 : iIns M_Fi_begin 21 (.iconst 0) 1 := (by decide +kernel : decode prog_3_method_3_code 21 = .ok (.iconst 0, 1))
theorem i_Fi_begin_22 : iPutX M_Fi_begin 22 3 9 .int := ⟨60, (by decide +kernel : decode prog_3_method_3_code 22 = .ok (.putfield 60, 3)), px_Fi_Fi_deepest⟩
theorem i_Fi_begin_25 : iIns M_Fi_begin 25 (.aload_n 0) 1 := (by decide +kernel : decode prog_3_method_3_code 25 = .ok (.aload_n 0, 1))
theorem i_Fi_begin_26 : iIns M_Fi_begin 26 (.dconst 0) 1 := (by decide +kernel : decode prog_3_method_3_code 26 = .ok (.dconst 0, 1))
theorem i_Fi_begin_27 : iPutX M_Fi_begin 27 3 10 .double := ⟨63, (by decide +kernel : decode prog_3_method_3_code 27 = .ok (.putfield 63, 3)), px_Fi_Fi_x⟩
theorem i_Fi_begin_30 : iIns M_Fi_begin 30 (.aload_n 0) 1 := (by decide +kernel : decode prog_3_method_3_code 30 = .ok (.aload_n 0, 1))
theorem i_Fi_begin_31 : iIns M_Fi_begin 31 (.dconst 0) 1 := (by decide +kernel : decode prog_3_method_3_code 31 = .ok (.dconst 0, 1))
theorem i_Fi_begin_32 : iPutX M_Fi_begin 32 3 11 .double := ⟨66, (by decide +kernel : decode prog_3_method_3_code 32 = .ok (.putfield 66, 3)), px_Fi_Fi_y⟩
theorem i_Fi_begin_35 : iIns M_Fi_begin 35 (.aload_n 0) 1 := (by decide +kernel : decode prog_3_method_3_code 35 = .ok (.aload_n 0, 1))
theorem i_Fi_begin_36 : iIns M_Fi_begin 36 (.dconst 1) 1 := (by decide +kernel : decode prog_3_method_3_code 36 = .ok (.dconst 1, 1))
theorem i_Fi_begin_37 : iPutX M_Fi_begin 37 3 12 .double := ⟨69, (by decide +kernel : decode prog_3_method_3_code 37 = .ok (.putfield 69, 3)), px_Fi_Fi_stepLength⟩
theorem i_Fi_begin_40 : iIns M_Fi_begin 40 (.aload_n 0) 1 := (by decide +kernel : decode prog_3_method_3_code 40 = .ok (.aload_n 0, 1))
theorem i_Fi_begin_41 : iIns M_Fi_begin 41 (.iconst 0) 1 := (by decide +kernel : decode prog_3_method_3_code 41 = .ok (.iconst 0, 1))
theorem i_Fi_begin_42 : iPutX M_Fi_begin 42 3 13 .int := ⟨72, (by decide +kernel : decode prog_3_method_3_code 42 = .ok (.putfield 72, 3)), px_Fi_Fi_heading⟩
theorem i_Fi_begin_45 : iIns M_Fi_begin 45 .return_ 1 := (by decide +kernel : decode prog_3_method_3_code 45 = .ok (.return_, 1))
theorem i_Fi_keepPoint_0 : iIns M_Fi_keepPoint 0 (.aload_n 0) 1 := (by decide +kernel : decode prog_3_method_4_code 0 = .ok (.aload_n 0, 1))
theorem i_Fi_keepPoint_1 : iGet M_Fi_keepPoint 1 3 2 := ⟨47, (by decide +kernel : decode prog_3_method_4_code 1 = .ok (.getfield 47, 3)), fl_Fi_Fi_points⟩
theorem i_Fi_keepPoint_4 : iIns M_Fi_keepPoint 4 (.aload_n 0) 1 := (by decide +kernel : decode prog_3_method_4_code 4 = .ok (.aload_n 0, 1))
theorem i_Fi_keepPoint_5 : iGet M_Fi_keepPoint 5 3 0 := ⟨9, (by decide +kernel : decode prog_3_method_4_code 5 = .ok (.getfield 9, 3)), fl_Fi_Fi_xs⟩
theorem i_Fi_keepPoint_8 : iIns M_Fi_keepPoint 8 .arraylength 1 := (by decide +kernel : decode prog_3_method_4_code 8 = .ok (.arraylength, 1))
theorem i_Fi_keepPoint_9 : iIcmp M_Fi_keepPoint 9 .ge 48 := ⟨39, (by decide +kernel : decode prog_3_method_4_code 9 = .ok (.if_icmp .ge (39), 3)), by decide⟩
theorem i_Fi_keepPoint_12 : iIns M_Fi_keepPoint 12 (.aload_n 0) 1 := (by decide +kernel : decode prog_3_method_4_code 12 = .ok (.aload_n 0, 1))
theorem i_Fi_keepPoint_13 : iGet M_Fi_keepPoint 13 3 0 := ⟨9, (by decide +kernel : decode prog_3_method_4_code 13 = .ok (.getfield 9, 3)), fl_Fi_Fi_xs⟩
theorem i_Fi_keepPoint_16 : iIns M_Fi_keepPoint 16 (.aload_n 0) 1 := (by decide +kernel : decode prog_3_method_4_code 16 = .ok (.aload_n 0, 1))
theorem i_Fi_keepPoint_17 : iGet M_Fi_keepPoint 17 3 2 := ⟨47, (by decide +kernel : decode prog_3_method_4_code 17 = .ok (.getfield 47, 3)), fl_Fi_Fi_points⟩
theorem i_Fi_keepPoint_20 : iIns M_Fi_keepPoint 20 (.aload_n 0) 1 := (by decide +kernel : decode prog_3_method_4_code 20 = .ok (.aload_n 0, 1))
theorem i_Fi_keepPoint_21 : iGet M_Fi_keepPoint 21 3 10 := ⟨63, (by decide +kernel : decode prog_3_method_4_code 21 = .ok (.getfield 63, 3)), fl_Fi_Fi_x⟩
theorem i_Fi_keepPoint_24 : iIns M_Fi_keepPoint 24 .dastore 1 := (by decide +kernel : decode prog_3_method_4_code 24 = .ok (.dastore, 1))
theorem i_Fi_keepPoint_25 : iIns M_Fi_keepPoint 25 (.aload_n 0) 1 := (by decide +kernel : decode prog_3_method_4_code 25 = .ok (.aload_n 0, 1))
theorem i_Fi_keepPoint_26 : iGet M_Fi_keepPoint 26 3 1 := ⟨15, (by decide +kernel : decode prog_3_method_4_code 26 = .ok (.getfield 15, 3)), fl_Fi_Fi_ys⟩
theorem i_Fi_keepPoint_29 : iIns M_Fi_keepPoint 29 (.aload_n 0) 1 := (by decide +kernel : decode prog_3_method_4_code 29 = .ok (.aload_n 0, 1))
theorem i_Fi_keepPoint_30 : iGet M_Fi_keepPoint 30 3 2 := ⟨47, (by decide +kernel : decode prog_3_method_4_code 30 = .ok (.getfield 47, 3)), fl_Fi_Fi_points⟩
theorem i_Fi_keepPoint_33 : iIns M_Fi_keepPoint 33 (.aload_n 0) 1 := (by decide +kernel : decode prog_3_method_4_code 33 = .ok (.aload_n 0, 1))
theorem i_Fi_keepPoint_34 : iGet M_Fi_keepPoint 34 3 11 := ⟨66, (by decide +kernel : decode prog_3_method_4_code 34 = .ok (.getfield 66, 3)), fl_Fi_Fi_y⟩
theorem i_Fi_keepPoint_37 : iIns M_Fi_keepPoint 37 .dastore 1 := (by decide +kernel : decode prog_3_method_4_code 37 = .ok (.dastore, 1))
theorem i_Fi_keepPoint_38 : iIns M_Fi_keepPoint 38 (.aload_n 0) 1 := (by decide +kernel : decode prog_3_method_4_code 38 = .ok (.aload_n 0, 1))
theorem i_Fi_keepPoint_39 : iIns M_Fi_keepPoint 39 .dup 1 := (by decide +kernel : decode prog_3_method_4_code 39 = .ok (.dup, 1))
theorem i_Fi_keepPoint_40 : iGet M_Fi_keepPoint 40 3 2 := ⟨47, (by decide +kernel : decode prog_3_method_4_code 40 = .ok (.getfield 47, 3)), fl_Fi_Fi_points⟩
theorem i_Fi_keepPoint_43 : iIns M_Fi_keepPoint 43 (.iconst 1) 1 := (by decide +kernel : decode prog_3_method_4_code 43 = .ok (.iconst 1, 1))
theorem i_Fi_keepPoint_44 : iIns M_Fi_keepPoint 44 .iadd 1 := (by decide +kernel : decode prog_3_method_4_code 44 = .ok (.iadd, 1))
theorem i_Fi_keepPoint_45 : iPutX M_Fi_keepPoint 45 3 2 .int := ⟨47, (by decide +kernel : decode prog_3_method_4_code 45 = .ok (.putfield 47, 3)), px_Fi_Fi_points⟩
theorem i_Fi_keepPoint_48 : iIns M_Fi_keepPoint 48 .return_ 1 := (by decide +kernel : decode prog_3_method_4_code 48 = .ok (.return_, 1))
theorem i_Fi_carryOut_0 : iIns M_Fi_carryOut 0 (.iload_n 1) 1 := (by decide +kernel : decode prog_3_method_5_code 0 = .ok (.iload_n 1, 1))
theorem i_Fi_carryOut_1 : decode prog_3_method_5_code 1 = .ok (.tableswitch (89) (1) (6) #[39, 45, 51, 65, 79, 84], 39) := by decide +kernel
theorem i_Fi_carryOut_40 : iIns M_Fi_carryOut 40 (.aload_n 0) 1 := (by decide +kernel : decode prog_3_method_5_code 40 = .ok (.aload_n 0, 1))
theorem i_Fi_carryOut_41 : iCallV M_Fi_carryOut 41 M_Fi_drawAhead 0 3 := ⟨⟨75, (by decide +kernel : decode prog_3_method_5_code 41 = .ok (.invokevirtual 75, 3)), lw_k5 167 rfl rfl⟩, vm_Fi_drawAhead, me_Fi_drawAhead, pn_Fi_drawAhead⟩
theorem i_Fi_carryOut_44 : iIns M_Fi_carryOut 44 (.iconst 1) 1 := (by decide +kernel : decode prog_3_method_5_code 44 = .ok (.iconst 1, 1))
theorem i_Fi_carryOut_45 : iIns M_Fi_carryOut 45 .ireturn 1 := (by decide +kernel : decode prog_3_method_5_code 45 = .ok (.ireturn, 1))
theorem i_Fi_carryOut_46 : iIns M_Fi_carryOut 46 (.aload_n 0) 1 := (by decide +kernel : decode prog_3_method_5_code 46 = .ok (.aload_n 0, 1))
theorem i_Fi_carryOut_47 : iCallV M_Fi_carryOut 47 M_Fi_goAhead 0 3 := ⟨⟨78, (by decide +kernel : decode prog_3_method_5_code 47 = .ok (.invokevirtual 78, 3)), lw_k5 171 rfl rfl⟩, vm_Fi_goAhead, me_Fi_goAhead, pn_Fi_goAhead⟩
theorem i_Fi_carryOut_50 : iIns M_Fi_carryOut 50 (.iconst 1) 1 := (by decide +kernel : decode prog_3_method_5_code 50 = .ok (.iconst 1, 1))
theorem i_Fi_carryOut_51 : iIns M_Fi_carryOut 51 .ireturn 1 := (by decide +kernel : decode prog_3_method_5_code 51 = .ok (.ireturn, 1))
theorem i_Fi_carryOut_52 : iIns M_Fi_carryOut 52 (.aload_n 0) 1 := (by decide +kernel : decode prog_3_method_5_code 52 = .ok (.aload_n 0, 1))
theorem i_Fi_carryOut_53 : iIns M_Fi_carryOut 53 (.aload_n 0) 1 := (by decide +kernel : decode prog_3_method_5_code 53 = .ok (.aload_n 0, 1))
theorem i_Fi_carryOut_54 : iGet M_Fi_carryOut 54 3 13 := ⟨72, (by decide +kernel : decode prog_3_method_5_code 54 = .ok (.getfield 72, 3)), fl_Fi_Fi_heading⟩
theorem i_Fi_carryOut_57 : iIns M_Fi_carryOut 57 (.iconst 1) 1 := (by decide +kernel : decode prog_3_method_5_code 57 = .ok (.iconst 1, 1))
theorem i_Fi_carryOut_58 : iIns M_Fi_carryOut 58 .iadd 1 := (by decide +kernel : decode prog_3_method_5_code 58 = .ok (.iadd, 1))
theorem i_Fi_carryOut_59 : iIns M_Fi_carryOut 59 (.iconst 4) 1 := (by decide +kernel : decode prog_3_method_5_code 59 = .ok (.iconst 4, 1))
theorem i_Fi_carryOut_60 : iIns M_Fi_carryOut 60 .irem 1 := (by decide +kernel : decode prog_3_method_5_code 60 = .ok (.irem, 1))
theorem i_Fi_carryOut_61 : iPutX M_Fi_carryOut 61 3 13 .int := ⟨72, (by decide +kernel : decode prog_3_method_5_code 61 = .ok (.putfield 72, 3)), px_Fi_Fi_heading⟩
theorem i_Fi_carryOut_64 : iIns M_Fi_carryOut 64 (.iconst 1) 1 := (by decide +kernel : decode prog_3_method_5_code 64 = .ok (.iconst 1, 1))
theorem i_Fi_carryOut_65 : iIns M_Fi_carryOut 65 .ireturn 1 := (by decide +kernel : decode prog_3_method_5_code 65 = .ok (.ireturn, 1))
theorem i_Fi_carryOut_66 : iIns M_Fi_carryOut 66 (.aload_n 0) 1 := (by decide +kernel : decode prog_3_method_5_code 66 = .ok (.aload_n 0, 1))
theorem i_Fi_carryOut_67 : iIns M_Fi_carryOut 67 (.aload_n 0) 1 := (by decide +kernel : decode prog_3_method_5_code 67 = .ok (.aload_n 0, 1))
theorem i_Fi_carryOut_68 : iGet M_Fi_carryOut 68 3 13 := ⟨72, (by decide +kernel : decode prog_3_method_5_code 68 = .ok (.getfield 72, 3)), fl_Fi_Fi_heading⟩
theorem i_Fi_carryOut_71 : iIns M_Fi_carryOut 71 (.iconst 3) 1 := (by decide +kernel : decode prog_3_method_5_code 71 = .ok (.iconst 3, 1))
theorem i_Fi_carryOut_72 : iIns M_Fi_carryOut 72 .iadd 1 := (by decide +kernel : decode prog_3_method_5_code 72 = .ok (.iadd, 1))
theorem i_Fi_carryOut_73 : iIns M_Fi_carryOut 73 (.iconst 4) 1 := (by decide +kernel : decode prog_3_method_5_code 73 = .ok (.iconst 4, 1))
theorem i_Fi_carryOut_74 : iIns M_Fi_carryOut 74 .irem 1 := (by decide +kernel : decode prog_3_method_5_code 74 = .ok (.irem, 1))
theorem i_Fi_carryOut_75 : iPutX M_Fi_carryOut 75 3 13 .int := ⟨72, (by decide +kernel : decode prog_3_method_5_code 75 = .ok (.putfield 72, 3)), px_Fi_Fi_heading⟩
theorem i_Fi_carryOut_78 : iIns M_Fi_carryOut 78 (.iconst 1) 1 := (by decide +kernel : decode prog_3_method_5_code 78 = .ok (.iconst 1, 1))
theorem i_Fi_carryOut_79 : iIns M_Fi_carryOut 79 .ireturn 1 := (by decide +kernel : decode prog_3_method_5_code 79 = .ok (.ireturn, 1))
theorem i_Fi_carryOut_80 : iIns M_Fi_carryOut 80 (.aload_n 0) 1 := (by decide +kernel : decode prog_3_method_5_code 80 = .ok (.aload_n 0, 1))
theorem i_Fi_carryOut_81 : iCallV M_Fi_carryOut 81 M_Fi_open 0 3 := ⟨⟨81, (by decide +kernel : decode prog_3_method_5_code 81 = .ok (.invokevirtual 81, 3)), lw_k5 183 rfl rfl⟩, vm_Fi_open, me_Fi_open, pn_Fi_open⟩
theorem i_Fi_carryOut_84 : iIns M_Fi_carryOut 84 .ireturn 1 := (by decide +kernel : decode prog_3_method_5_code 84 = .ok (.ireturn, 1))
theorem i_Fi_carryOut_85 : iIns M_Fi_carryOut 85 (.aload_n 0) 1 := (by decide +kernel : decode prog_3_method_5_code 85 = .ok (.aload_n 0, 1))
theorem i_Fi_carryOut_86 : iCallV M_Fi_carryOut 86 M_Fi_close 0 3 := ⟨⟨85, (by decide +kernel : decode prog_3_method_5_code 86 = .ok (.invokevirtual 85, 3)), lw_k5 189 rfl rfl⟩, vm_Fi_close, me_Fi_close, pn_Fi_close⟩
theorem i_Fi_carryOut_89 : iIns M_Fi_carryOut 89 .ireturn 1 := (by decide +kernel : decode prog_3_method_5_code 89 = .ok (.ireturn, 1))
theorem i_Fi_carryOut_90 : iIns M_Fi_carryOut 90 (.iconst 1) 1 := (by decide +kernel : decode prog_3_method_5_code 90 = .ok (.iconst 1, 1))
theorem i_Fi_carryOut_91 : iIns M_Fi_carryOut 91 .ireturn 1 := (by decide +kernel : decode prog_3_method_5_code 91 = .ok (.ireturn, 1))
theorem i_Fi_drawAhead_0 : iIns M_Fi_drawAhead 0 (.aload_n 0) 1 := (by decide +kernel : decode prog_3_method_7_code 0 = .ok (.aload_n 0, 1))
theorem i_Fi_drawAhead_1 : iGet M_Fi_drawAhead 1 3 10 := ⟨63, (by decide +kernel : decode prog_3_method_7_code 1 = .ok (.getfield 63, 3)), fl_Fi_Fi_x⟩
theorem i_Fi_drawAhead_4 : iIns M_Fi_drawAhead 4 (.dstore_n 1) 1 := (by decide +kernel : decode prog_3_method_7_code 4 = .ok (.dstore_n 1, 1))
theorem i_Fi_drawAhead_5 : iIns M_Fi_drawAhead 5 (.aload_n 0) 1 := (by decide +kernel : decode prog_3_method_7_code 5 = .ok (.aload_n 0, 1))
theorem i_Fi_drawAhead_6 : iGet M_Fi_drawAhead 6 3 11 := ⟨66, (by decide +kernel : decode prog_3_method_7_code 6 = .ok (.getfield 66, 3)), fl_Fi_Fi_y⟩
theorem i_Fi_drawAhead_9 : iIns M_Fi_drawAhead 9 (.dstore_n 3) 1 := (by decide +kernel : decode prog_3_method_7_code 9 = .ok (.dstore_n 3, 1))
theorem i_Fi_drawAhead_10 : iIns M_Fi_drawAhead 10 (.aload_n 0) 1 := (by decide +kernel : decode prog_3_method_7_code 10 = .ok (.aload_n 0, 1))
theorem i_Fi_drawAhead_11 : iCallV M_Fi_drawAhead 11 M_Fi_goAhead 0 3 := ⟨⟨78, (by decide +kernel : decode prog_3_method_7_code 11 = .ok (.invokevirtual 78, 3)), lw_k5 171 rfl rfl⟩, vm_Fi_goAhead, me_Fi_goAhead, pn_Fi_goAhead⟩
theorem i_Fi_drawAhead_14 : iIns M_Fi_drawAhead 14 (.aload_n 0) 1 := (by decide +kernel : decode prog_3_method_7_code 14 = .ok (.aload_n 0, 1))
theorem i_Fi_drawAhead_15 : iIns M_Fi_drawAhead 15 (.dload_n 1) 1 := (by decide +kernel : decode prog_3_method_7_code 15 = .ok (.dload_n 1, 1))
theorem i_Fi_drawAhead_16 : iIns M_Fi_drawAhead 16 (.dload_n 3) 1 := (by decide +kernel : decode prog_3_method_7_code 16 = .ok (.dload_n 3, 1))
theorem i_Fi_drawAhead_17 : iCallV M_Fi_drawAhead 17 M_Fi_isDrawn 2 3 := ⟨⟨88, (by decide +kernel : decode prog_3_method_7_code 17 = .ok (.invokevirtual 88, 3)), lw_k5 175 rfl rfl⟩, vm_Fi_isDrawn, me_Fi_isDrawn, pn_Fi_isDrawn⟩
theorem i_Fi_drawAhead_20 : iIf M_Fi_drawAhead 20 .ne 122 := ⟨102, (by decide +kernel : decode prog_3_method_7_code 20 = .ok (.ifCond .ne (102), 3)), by decide⟩
theorem i_Fi_drawAhead_23 : iIns M_Fi_drawAhead 23 (.iconst 4) 1 := (by decide +kernel : decode prog_3_method_7_code 23 = .ok (.iconst 4, 1))
theorem i_Fi_drawAhead_24 : iIns M_Fi_drawAhead 24 (.aload_n 0) 1 := (by decide +kernel : decode prog_3_method_7_code 24 = .ok (.aload_n 0, 1))
theorem i_Fi_drawAhead_25 : iGet M_Fi_drawAhead 25 3 4 := ⟨50, (by decide +kernel : decode prog_3_method_7_code 25 = .ok (.getfield 50, 3)), fl_Fi_Fi_segments⟩
theorem i_Fi_drawAhead_28 : iIns M_Fi_drawAhead 28 .imul 1 := (by decide +kernel : decode prog_3_method_7_code 28 = .ok (.imul, 1))
theorem i_Fi_drawAhead_29 : iIns M_Fi_drawAhead 29 (.iconst 3) 1 := (by decide +kernel : decode prog_3_method_7_code 29 = .ok (.iconst 3, 1))
theorem i_Fi_drawAhead_30 : iIns M_Fi_drawAhead 30 .iadd 1 := (by decide +kernel : decode prog_3_method_7_code 30 = .ok (.iadd, 1))
theorem i_Fi_drawAhead_31 : iIns M_Fi_drawAhead 31 (.aload_n 0) 1 := (by decide +kernel : decode prog_3_method_7_code 31 = .ok (.aload_n 0, 1))
theorem i_Fi_drawAhead_32 : iGet M_Fi_drawAhead 32 3 3 := ⟨18, (by decide +kernel : decode prog_3_method_7_code 32 = .ok (.getfield 18, 3)), fl_Fi_Fi_ends⟩
theorem i_Fi_drawAhead_35 : iIns M_Fi_drawAhead 35 .arraylength 1 := (by decide +kernel : decode prog_3_method_7_code 35 = .ok (.arraylength, 1))
theorem i_Fi_drawAhead_36 : iIcmp M_Fi_drawAhead 36 .ge 122 := ⟨86, (by decide +kernel : decode prog_3_method_7_code 36 = .ok (.if_icmp .ge (86), 3)), by decide⟩
theorem i_Fi_drawAhead_39 : iIns M_Fi_drawAhead 39 (.aload_n 0) 1 := (by decide +kernel : decode prog_3_method_7_code 39 = .ok (.aload_n 0, 1))
theorem i_Fi_drawAhead_40 : iGet M_Fi_drawAhead 40 3 3 := ⟨18, (by decide +kernel : decode prog_3_method_7_code 40 = .ok (.getfield 18, 3)), fl_Fi_Fi_ends⟩
theorem i_Fi_drawAhead_43 : iIns M_Fi_drawAhead 43 (.iconst 4) 1 := (by decide +kernel : decode prog_3_method_7_code 43 = .ok (.iconst 4, 1))
theorem i_Fi_drawAhead_44 : iIns M_Fi_drawAhead 44 (.aload_n 0) 1 := (by decide +kernel : decode prog_3_method_7_code 44 = .ok (.aload_n 0, 1))
theorem i_Fi_drawAhead_45 : iGet M_Fi_drawAhead 45 3 4 := ⟨50, (by decide +kernel : decode prog_3_method_7_code 45 = .ok (.getfield 50, 3)), fl_Fi_Fi_segments⟩
theorem i_Fi_drawAhead_48 : iIns M_Fi_drawAhead 48 .imul 1 := (by decide +kernel : decode prog_3_method_7_code 48 = .ok (.imul, 1))
theorem i_Fi_drawAhead_49 : iIns M_Fi_drawAhead 49 (.dload_n 1) 1 := (by decide +kernel : decode prog_3_method_7_code 49 = .ok (.dload_n 1, 1))
theorem i_Fi_drawAhead_50 : iIns M_Fi_drawAhead 50 .dastore 1 := (by decide +kernel : decode prog_3_method_7_code 50 = .ok (.dastore, 1))
theorem i_Fi_drawAhead_51 : iIns M_Fi_drawAhead 51 (.aload_n 0) 1 := (by decide +kernel : decode prog_3_method_7_code 51 = .ok (.aload_n 0, 1))
theorem i_Fi_drawAhead_52 : iGet M_Fi_drawAhead 52 3 3 := ⟨18, (by decide +kernel : decode prog_3_method_7_code 52 = .ok (.getfield 18, 3)), fl_Fi_Fi_ends⟩
theorem i_Fi_drawAhead_55 : iIns M_Fi_drawAhead 55 (.iconst 4) 1 := (by decide +kernel : decode prog_3_method_7_code 55 = .ok (.iconst 4, 1))
theorem i_Fi_drawAhead_56 : iIns M_Fi_drawAhead 56 (.aload_n 0) 1 := (by decide +kernel : decode prog_3_method_7_code 56 = .ok (.aload_n 0, 1))
theorem i_Fi_drawAhead_57 : iGet M_Fi_drawAhead 57 3 4 := ⟨50, (by decide +kernel : decode prog_3_method_7_code 57 = .ok (.getfield 50, 3)), fl_Fi_Fi_segments⟩
theorem i_Fi_drawAhead_60 : iIns M_Fi_drawAhead 60 .imul 1 := (by decide +kernel : decode prog_3_method_7_code 60 = .ok (.imul, 1))
theorem i_Fi_drawAhead_61 : iIns M_Fi_drawAhead 61 (.iconst 1) 1 := (by decide +kernel : decode prog_3_method_7_code 61 = .ok (.iconst 1, 1))
theorem i_Fi_drawAhead_62 : iIns M_Fi_drawAhead 62 .iadd 1 := (by decide +kernel : decode prog_3_method_7_code 62 = .ok (.iadd, 1))
theorem i_Fi_drawAhead_63 : iIns M_Fi_drawAhead 63 (.dload_n 3) 1 := (by decide +kernel : decode prog_3_method_7_code 63 = .ok (.dload_n 3, 1))
theorem i_Fi_drawAhead_64 : iIns M_Fi_drawAhead 64 .dastore 1 := (by decide +kernel : decode prog_3_method_7_code 64 = .ok (.dastore, 1))
theorem i_Fi_drawAhead_65 : iIns M_Fi_drawAhead 65 (.aload_n 0) 1 := (by decide +kernel : decode prog_3_method_7_code 65 = .ok (.aload_n 0, 1))
theorem i_Fi_drawAhead_66 : iGet M_Fi_drawAhead 66 3 3 := ⟨18, (by decide +kernel : decode prog_3_method_7_code 66 = .ok (.getfield 18, 3)), fl_Fi_Fi_ends⟩
theorem i_Fi_drawAhead_69 : iIns M_Fi_drawAhead 69 (.iconst 4) 1 := (by decide +kernel : decode prog_3_method_7_code 69 = .ok (.iconst 4, 1))
theorem i_Fi_drawAhead_70 : iIns M_Fi_drawAhead 70 (.aload_n 0) 1 := (by decide +kernel : decode prog_3_method_7_code 70 = .ok (.aload_n 0, 1))
theorem i_Fi_drawAhead_71 : iGet M_Fi_drawAhead 71 3 4 := ⟨50, (by decide +kernel : decode prog_3_method_7_code 71 = .ok (.getfield 50, 3)), fl_Fi_Fi_segments⟩
theorem i_Fi_drawAhead_74 : iIns M_Fi_drawAhead 74 .imul 1 := (by decide +kernel : decode prog_3_method_7_code 74 = .ok (.imul, 1))
theorem i_Fi_drawAhead_75 : iIns M_Fi_drawAhead 75 (.iconst 2) 1 := (by decide +kernel : decode prog_3_method_7_code 75 = .ok (.iconst 2, 1))
theorem i_Fi_drawAhead_76 : iIns M_Fi_drawAhead 76 .iadd 1 := (by decide +kernel : decode prog_3_method_7_code 76 = .ok (.iadd, 1))
theorem i_Fi_drawAhead_77 : iIns M_Fi_drawAhead 77 (.aload_n 0) 1 := (by decide +kernel : decode prog_3_method_7_code 77 = .ok (.aload_n 0, 1))
theorem i_Fi_drawAhead_78 : iGet M_Fi_drawAhead 78 3 10 := ⟨63, (by decide +kernel : decode prog_3_method_7_code 78 = .ok (.getfield 63, 3)), fl_Fi_Fi_x⟩
theorem i_Fi_drawAhead_81 : iIns M_Fi_drawAhead 81 .dastore 1 := (by decide +kernel : decode prog_3_method_7_code 81 = .ok (.dastore, 1))
theorem i_Fi_drawAhead_82 : iIns M_Fi_drawAhead 82 (.aload_n 0) 1 := (by decide +kernel : decode prog_3_method_7_code 82 = .ok (.aload_n 0, 1))
theorem i_Fi_drawAhead_83 : iGet M_Fi_drawAhead 83 3 3 := ⟨18, (by decide +kernel : decode prog_3_method_7_code 83 = .ok (.getfield 18, 3)), fl_Fi_Fi_ends⟩
theorem i_Fi_drawAhead_86 : iIns M_Fi_drawAhead 86 (.iconst 4) 1 := (by decide +kernel : decode prog_3_method_7_code 86 = .ok (.iconst 4, 1))
theorem i_Fi_drawAhead_87 : iIns M_Fi_drawAhead 87 (.aload_n 0) 1 := (by decide +kernel : decode prog_3_method_7_code 87 = .ok (.aload_n 0, 1))
theorem i_Fi_drawAhead_88 : iGet M_Fi_drawAhead 88 3 4 := ⟨50, (by decide +kernel : decode prog_3_method_7_code 88 = .ok (.getfield 50, 3)), fl_Fi_Fi_segments⟩
theorem i_Fi_drawAhead_91 : iIns M_Fi_drawAhead 91 .imul 1 := (by decide +kernel : decode prog_3_method_7_code 91 = .ok (.imul, 1))
theorem i_Fi_drawAhead_92 : iIns M_Fi_drawAhead 92 (.iconst 3) 1 := (by decide +kernel : decode prog_3_method_7_code 92 = .ok (.iconst 3, 1))
theorem i_Fi_drawAhead_93 : iIns M_Fi_drawAhead 93 .iadd 1 := (by decide +kernel : decode prog_3_method_7_code 93 = .ok (.iadd, 1))
theorem i_Fi_drawAhead_94 : iIns M_Fi_drawAhead 94 (.aload_n 0) 1 := (by decide +kernel : decode prog_3_method_7_code 94 = .ok (.aload_n 0, 1))
theorem i_Fi_drawAhead_95 : iGet M_Fi_drawAhead 95 3 11 := ⟨66, (by decide +kernel : decode prog_3_method_7_code 95 = .ok (.getfield 66, 3)), fl_Fi_Fi_y⟩
theorem i_Fi_drawAhead_98 : iIns M_Fi_drawAhead 98 .dastore 1 := (by decide +kernel : decode prog_3_method_7_code 98 = .ok (.dastore, 1))
theorem i_Fi_drawAhead_99 : iIns M_Fi_drawAhead 99 (.aload_n 0) 1 := (by decide +kernel : decode prog_3_method_7_code 99 = .ok (.aload_n 0, 1))
theorem i_Fi_drawAhead_100 : iIns M_Fi_drawAhead 100 .dup 1 := (by decide +kernel : decode prog_3_method_7_code 100 = .ok (.dup, 1))
theorem i_Fi_drawAhead_101 : iGet M_Fi_drawAhead 101 3 4 := ⟨50, (by decide +kernel : decode prog_3_method_7_code 101 = .ok (.getfield 50, 3)), fl_Fi_Fi_segments⟩
theorem i_Fi_drawAhead_104 : iIns M_Fi_drawAhead 104 (.iconst 1) 1 := (by decide +kernel : decode prog_3_method_7_code 104 = .ok (.iconst 1, 1))
theorem i_Fi_drawAhead_105 : iIns M_Fi_drawAhead 105 .iadd 1 := (by decide +kernel : decode prog_3_method_7_code 105 = .ok (.iadd, 1))
theorem i_Fi_drawAhead_106 : iPutX M_Fi_drawAhead 106 3 4 .int := ⟨50, (by decide +kernel : decode prog_3_method_7_code 106 = .ok (.putfield 50, 3)), px_Fi_Fi_segments⟩
theorem i_Fi_drawAhead_109 : iIns M_Fi_drawAhead 109 (.aload_n 0) 1 := (by decide +kernel : decode prog_3_method_7_code 109 = .ok (.aload_n 0, 1))
theorem i_Fi_drawAhead_110 : iIns M_Fi_drawAhead 110 .dup 1 := (by decide +kernel : decode prog_3_method_7_code 110 = .ok (.dup, 1))
theorem i_Fi_drawAhead_111 : iGet M_Fi_drawAhead 111 3 5 := ⟨53, (by decide +kernel : decode prog_3_method_7_code 111 = .ok (.getfield 53, 3)), fl_Fi_Fi_ink⟩
theorem i_Fi_drawAhead_114 : iIns M_Fi_drawAhead 114 (.aload_n 0) 1 := (by decide +kernel : decode prog_3_method_7_code 114 = .ok (.aload_n 0, 1))
theorem i_Fi_drawAhead_115 : iGet M_Fi_drawAhead 115 3 12 := ⟨69, (by decide +kernel : decode prog_3_method_7_code 115 = .ok (.getfield 69, 3)), fl_Fi_Fi_stepLength⟩
theorem i_Fi_drawAhead_118 : iIns M_Fi_drawAhead 118 .dadd 1 := (by decide +kernel : decode prog_3_method_7_code 118 = .ok (.dadd, 1))
theorem i_Fi_drawAhead_119 : iPutX M_Fi_drawAhead 119 3 5 .double := ⟨53, (by decide +kernel : decode prog_3_method_7_code 119 = .ok (.putfield 53, 3)), px_Fi_Fi_ink⟩
theorem i_Fi_drawAhead_122 : iIns M_Fi_drawAhead 122 .return_ 1 := (by decide +kernel : decode prog_3_method_7_code 122 = .ok (.return_, 1))
theorem i_Fi_goAhead_0 : iIns M_Fi_goAhead 0 (.aload_n 0) 1 := (by decide +kernel : decode prog_3_method_6_code 0 = .ok (.aload_n 0, 1))
theorem i_Fi_goAhead_1 : iGet M_Fi_goAhead 1 3 13 := ⟨72, (by decide +kernel : decode prog_3_method_6_code 1 = .ok (.getfield 72, 3)), fl_Fi_Fi_heading⟩
theorem i_Fi_goAhead_4 : decode prog_3_method_6_code 4 = .ok (.tableswitch (76) (0) (2) #[28, 44, 60], 28) := by decide +kernel
theorem i_Fi_goAhead_32 : iIns M_Fi_goAhead 32 (.aload_n 0) 1 := (by decide +kernel : decode prog_3_method_6_code 32 = .ok (.aload_n 0, 1))
theorem i_Fi_goAhead_33 : iIns M_Fi_goAhead 33 .dup 1 := (by decide +kernel : decode prog_3_method_6_code 33 = .ok (.dup, 1))
theorem i_Fi_goAhead_34 : iGet M_Fi_goAhead 34 3 10 := ⟨63, (by decide +kernel : decode prog_3_method_6_code 34 = .ok (.getfield 63, 3)), fl_Fi_Fi_x⟩
theorem i_Fi_goAhead_37 : iIns M_Fi_goAhead 37 (.aload_n 0) 1 := (by decide +kernel : decode prog_3_method_6_code 37 = .ok (.aload_n 0, 1))
theorem i_Fi_goAhead_38 : iGet M_Fi_goAhead 38 3 12 := ⟨69, (by decide +kernel : decode prog_3_method_6_code 38 = .ok (.getfield 69, 3)), fl_Fi_Fi_stepLength⟩
theorem i_Fi_goAhead_41 : iIns M_Fi_goAhead 41 .dadd 1 := (by decide +kernel : decode prog_3_method_6_code 41 = .ok (.dadd, 1))
theorem i_Fi_goAhead_42 : iPutX M_Fi_goAhead 42 3 10 .double := ⟨63, (by decide +kernel : decode prog_3_method_6_code 42 = .ok (.putfield 63, 3)), px_Fi_Fi_x⟩
theorem i_Fi_goAhead_45 : iGoto M_Fi_goAhead 45 93 := ⟨48, (by decide +kernel : decode prog_3_method_6_code 45 = .ok (.goto (48), 3)), by decide⟩
theorem i_Fi_goAhead_48 : iIns M_Fi_goAhead 48 (.aload_n 0) 1 := (by decide +kernel : decode prog_3_method_6_code 48 = .ok (.aload_n 0, 1))
theorem i_Fi_goAhead_49 : iIns M_Fi_goAhead 49 .dup 1 := (by decide +kernel : decode prog_3_method_6_code 49 = .ok (.dup, 1))
theorem i_Fi_goAhead_50 : iGet M_Fi_goAhead 50 3 11 := ⟨66, (by decide +kernel : decode prog_3_method_6_code 50 = .ok (.getfield 66, 3)), fl_Fi_Fi_y⟩
theorem i_Fi_goAhead_53 : iIns M_Fi_goAhead 53 (.aload_n 0) 1 := (by decide +kernel : decode prog_3_method_6_code 53 = .ok (.aload_n 0, 1))
theorem i_Fi_goAhead_54 : iGet M_Fi_goAhead 54 3 12 := ⟨69, (by decide +kernel : decode prog_3_method_6_code 54 = .ok (.getfield 69, 3)), fl_Fi_Fi_stepLength⟩
theorem i_Fi_goAhead_57 : iIns M_Fi_goAhead 57 .dadd 1 := (by decide +kernel : decode prog_3_method_6_code 57 = .ok (.dadd, 1))
theorem i_Fi_goAhead_58 : iPutX M_Fi_goAhead 58 3 11 .double := ⟨66, (by decide +kernel : decode prog_3_method_6_code 58 = .ok (.putfield 66, 3)), px_Fi_Fi_y⟩
theorem i_Fi_goAhead_61 : iGoto M_Fi_goAhead 61 93 := ⟨32, (by decide +kernel : decode prog_3_method_6_code 61 = .ok (.goto (32), 3)), by decide⟩
theorem i_Fi_goAhead_64 : iIns M_Fi_goAhead 64 (.aload_n 0) 1 := (by decide +kernel : decode prog_3_method_6_code 64 = .ok (.aload_n 0, 1))
theorem i_Fi_goAhead_65 : iIns M_Fi_goAhead 65 .dup 1 := (by decide +kernel : decode prog_3_method_6_code 65 = .ok (.dup, 1))
theorem i_Fi_goAhead_66 : iGet M_Fi_goAhead 66 3 10 := ⟨63, (by decide +kernel : decode prog_3_method_6_code 66 = .ok (.getfield 63, 3)), fl_Fi_Fi_x⟩
theorem i_Fi_goAhead_69 : iIns M_Fi_goAhead 69 (.aload_n 0) 1 := (by decide +kernel : decode prog_3_method_6_code 69 = .ok (.aload_n 0, 1))
theorem i_Fi_goAhead_70 : iGet M_Fi_goAhead 70 3 12 := ⟨69, (by decide +kernel : decode prog_3_method_6_code 70 = .ok (.getfield 69, 3)), fl_Fi_Fi_stepLength⟩
theorem i_Fi_goAhead_73 : iIns M_Fi_goAhead 73 .dsub 1 := (by decide +kernel : decode prog_3_method_6_code 73 = .ok (.dsub, 1))
theorem i_Fi_goAhead_74 : iPutX M_Fi_goAhead 74 3 10 .double := ⟨63, (by decide +kernel : decode prog_3_method_6_code 74 = .ok (.putfield 63, 3)), px_Fi_Fi_x⟩
theorem i_Fi_goAhead_77 : iGoto M_Fi_goAhead 77 93 := ⟨16, (by decide +kernel : decode prog_3_method_6_code 77 = .ok (.goto (16), 3)), by decide⟩
theorem i_Fi_goAhead_80 : iIns M_Fi_goAhead 80 (.aload_n 0) 1 := (by decide +kernel : decode prog_3_method_6_code 80 = .ok (.aload_n 0, 1))
theorem i_Fi_goAhead_81 : iIns M_Fi_goAhead 81 .dup 1 := (by decide +kernel : decode prog_3_method_6_code 81 = .ok (.dup, 1))
theorem i_Fi_goAhead_82 : iGet M_Fi_goAhead 82 3 11 := ⟨66, (by decide +kernel : decode prog_3_method_6_code 82 = .ok (.getfield 66, 3)), fl_Fi_Fi_y⟩
theorem i_Fi_goAhead_85 : iIns M_Fi_goAhead 85 (.aload_n 0) 1 := (by decide +kernel : decode prog_3_method_6_code 85 = .ok (.aload_n 0, 1))
theorem i_Fi_goAhead_86 : iGet M_Fi_goAhead 86 3 12 := ⟨69, (by decide +kernel : decode prog_3_method_6_code 86 = .ok (.getfield 69, 3)), fl_Fi_Fi_stepLength⟩
theorem i_Fi_goAhead_89 : iIns M_Fi_goAhead 89 .dsub 1 := (by decide +kernel : decode prog_3_method_6_code 89 = .ok (.dsub, 1))
theorem i_Fi_goAhead_90 : iPutX M_Fi_goAhead 90 3 11 .double := ⟨66, (by decide +kernel : decode prog_3_method_6_code 90 = .ok (.putfield 66, 3)), px_Fi_Fi_y⟩
theorem i_Fi_goAhead_93 : iIns M_Fi_goAhead 93 .return_ 1 := (by decide +kernel : decode prog_3_method_6_code 93 = .ok (.return_, 1))
theorem i_Fi_isDrawn_0 : iIns M_Fi_isDrawn 0 (.iconst 0) 1 := (by decide +kernel : decode prog_3_method_8_code 0 = .ok (.iconst 0, 1))
theorem i_Fi_isDrawn_1 : iIns M_Fi_isDrawn 1 (.istore 5) 2 := (by decide +kernel : decode prog_3_method_8_code 1 = .ok (.istore 5, 2))
theorem i_Fi_isDrawn_3 : iIns M_Fi_isDrawn 3 (.iload 5) 2 := (by decide +kernel : decode prog_3_method_8_code 3 = .ok (.iload 5, 2))
theorem i_Fi_isDrawn_5 : iIns M_Fi_isDrawn 5 (.aload_n 0) 1 := (by decide +kernel : decode prog_3_method_8_code 5 = .ok (.aload_n 0, 1))
theorem i_Fi_isDrawn_6 : iGet M_Fi_isDrawn 6 3 4 := ⟨50, (by decide +kernel : decode prog_3_method_8_code 6 = .ok (.getfield 50, 3)), fl_Fi_Fi_segments⟩
theorem i_Fi_isDrawn_9 : iIcmp M_Fi_isDrawn 9 .ge 112 := ⟨103, (by decide +kernel : decode prog_3_method_8_code 9 = .ok (.if_icmp .ge (103), 3)), by decide⟩
theorem i_Fi_isDrawn_12 : iIns M_Fi_isDrawn 12 (.aload_n 0) 1 := (by decide +kernel : decode prog_3_method_8_code 12 = .ok (.aload_n 0, 1))
theorem i_Fi_isDrawn_13 : iIns M_Fi_isDrawn 13 (.iconst 2) 1 := (by decide +kernel : decode prog_3_method_8_code 13 = .ok (.iconst 2, 1))
theorem i_Fi_isDrawn_14 : iIns M_Fi_isDrawn 14 (.iload 5) 2 := (by decide +kernel : decode prog_3_method_8_code 14 = .ok (.iload 5, 2))
theorem i_Fi_isDrawn_16 : iIns M_Fi_isDrawn 16 .imul 1 := (by decide +kernel : decode prog_3_method_8_code 16 = .ok (.imul, 1))
theorem i_Fi_isDrawn_17 : iIns M_Fi_isDrawn 17 (.dload_n 1) 1 := (by decide +kernel : decode prog_3_method_8_code 17 = .ok (.dload_n 1, 1))
theorem i_Fi_isDrawn_18 : iIns M_Fi_isDrawn 18 (.dload_n 3) 1 := (by decide +kernel : decode prog_3_method_8_code 18 = .ok (.dload_n 3, 1))
theorem i_Fi_isDrawn_19 : iCallV M_Fi_isDrawn 19 M_Fi_isEnd 3 3 := ⟨⟨92, (by decide +kernel : decode prog_3_method_8_code 19 = .ok (.invokevirtual 92, 3)), lw_k5 179 rfl rfl⟩, vm_Fi_isEnd, me_Fi_isEnd, pn_Fi_isEnd⟩
theorem i_Fi_isDrawn_22 : iIf M_Fi_isDrawn 22 .eq 50 := ⟨28, (by decide +kernel : decode prog_3_method_8_code 22 = .ok (.ifCond .eq (28), 3)), by decide⟩
theorem i_Fi_isDrawn_25 : iIns M_Fi_isDrawn 25 (.aload_n 0) 1 := (by decide +kernel : decode prog_3_method_8_code 25 = .ok (.aload_n 0, 1))
theorem i_Fi_isDrawn_26 : iIns M_Fi_isDrawn 26 (.iconst 2) 1 := (by decide +kernel : decode prog_3_method_8_code 26 = .ok (.iconst 2, 1))
theorem i_Fi_isDrawn_27 : iIns M_Fi_isDrawn 27 (.iload 5) 2 := (by decide +kernel : decode prog_3_method_8_code 27 = .ok (.iload 5, 2))
theorem i_Fi_isDrawn_29 : iIns M_Fi_isDrawn 29 .imul 1 := (by decide +kernel : decode prog_3_method_8_code 29 = .ok (.imul, 1))
theorem i_Fi_isDrawn_30 : iIns M_Fi_isDrawn 30 (.iconst 1) 1 := (by decide +kernel : decode prog_3_method_8_code 30 = .ok (.iconst 1, 1))
theorem i_Fi_isDrawn_31 : iIns M_Fi_isDrawn 31 .iadd 1 := (by decide +kernel : decode prog_3_method_8_code 31 = .ok (.iadd, 1))
theorem i_Fi_isDrawn_32 : iIns M_Fi_isDrawn 32 (.aload_n 0) 1 := (by decide +kernel : decode prog_3_method_8_code 32 = .ok (.aload_n 0, 1))
theorem i_Fi_isDrawn_33 : iGet M_Fi_isDrawn 33 3 10 := ⟨63, (by decide +kernel : decode prog_3_method_8_code 33 = .ok (.getfield 63, 3)), fl_Fi_Fi_x⟩
theorem i_Fi_isDrawn_36 : iIns M_Fi_isDrawn 36 (.aload_n 0) 1 := (by decide +kernel : decode prog_3_method_8_code 36 = .ok (.aload_n 0, 1))
theorem i_Fi_isDrawn_37 : iGet M_Fi_isDrawn 37 3 11 := ⟨66, (by decide +kernel : decode prog_3_method_8_code 37 = .ok (.getfield 66, 3)), fl_Fi_Fi_y⟩
theorem i_Fi_isDrawn_40 : iCallV M_Fi_isDrawn 40 M_Fi_isEnd 3 3 := ⟨⟨92, (by decide +kernel : decode prog_3_method_8_code 40 = .ok (.invokevirtual 92, 3)), lw_k5 179 rfl rfl⟩, vm_Fi_isEnd, me_Fi_isEnd, pn_Fi_isEnd⟩
theorem i_Fi_isDrawn_43 : iIf M_Fi_isDrawn 43 .eq 50 := ⟨7, (by decide +kernel : decode prog_3_method_8_code 43 = .ok (.ifCond .eq (7), 3)), by decide⟩
theorem i_Fi_isDrawn_46 : iIns M_Fi_isDrawn 46 (.iconst 1) 1 := (by decide +kernel : decode prog_3_method_8_code 46 = .ok (.iconst 1, 1))
theorem i_Fi_isDrawn_47 : iGoto M_Fi_isDrawn 47 51 := ⟨4, (by decide +kernel : decode prog_3_method_8_code 47 = .ok (.goto (4), 3)), by decide⟩
theorem i_Fi_isDrawn_50 : iIns M_Fi_isDrawn 50 (.iconst 0) 1 := (by decide +kernel : decode prog_3_method_8_code 50 = .ok (.iconst 0, 1))
theorem i_Fi_isDrawn_51 : iIns M_Fi_isDrawn 51 (.istore 6) 2 := (by decide +kernel : decode prog_3_method_8_code 51 = .ok (.istore 6, 2))
theorem i_Fi_isDrawn_53 : iIns M_Fi_isDrawn 53 (.aload_n 0) 1 := (by decide +kernel : decode prog_3_method_8_code 53 = .ok (.aload_n 0, 1))
theorem i_Fi_isDrawn_54 : iIns M_Fi_isDrawn 54 (.iconst 2) 1 := (by decide +kernel : decode prog_3_method_8_code 54 = .ok (.iconst 2, 1))
theorem i_Fi_isDrawn_55 : iIns M_Fi_isDrawn 55 (.iload 5) 2 := (by decide +kernel : decode prog_3_method_8_code 55 = .ok (.iload 5, 2))
theorem i_Fi_isDrawn_57 : iIns M_Fi_isDrawn 57 .imul 1 := (by decide +kernel : decode prog_3_method_8_code 57 = .ok (.imul, 1))
theorem i_Fi_isDrawn_58 : iIns M_Fi_isDrawn 58 (.aload_n 0) 1 := (by decide +kernel : decode prog_3_method_8_code 58 = .ok (.aload_n 0, 1))
theorem i_Fi_isDrawn_59 : iGet M_Fi_isDrawn 59 3 10 := ⟨63, (by decide +kernel : decode prog_3_method_8_code 59 = .ok (.getfield 63, 3)), fl_Fi_Fi_x⟩
theorem i_Fi_isDrawn_62 : iIns M_Fi_isDrawn 62 (.aload_n 0) 1 := (by decide +kernel : decode prog_3_method_8_code 62 = .ok (.aload_n 0, 1))
theorem i_Fi_isDrawn_63 : iGet M_Fi_isDrawn 63 3 11 := ⟨66, (by decide +kernel : decode prog_3_method_8_code 63 = .ok (.getfield 66, 3)), fl_Fi_Fi_y⟩
theorem i_Fi_isDrawn_66 : iCallV M_Fi_isDrawn 66 M_Fi_isEnd 3 3 := ⟨⟨92, (by decide +kernel : decode prog_3_method_8_code 66 = .ok (.invokevirtual 92, 3)), lw_k5 179 rfl rfl⟩, vm_Fi_isEnd, me_Fi_isEnd, pn_Fi_isEnd⟩
theorem i_Fi_isDrawn_69 : iIf M_Fi_isDrawn 69 .eq 91 := ⟨22, (by decide +kernel : decode prog_3_method_8_code 69 = .ok (.ifCond .eq (22), 3)), by decide⟩
theorem i_Fi_isDrawn_72 : iIns M_Fi_isDrawn 72 (.aload_n 0) 1 := (by decide +kernel : decode prog_3_method_8_code 72 = .ok (.aload_n 0, 1))
theorem i_Fi_isDrawn_73 : iIns M_Fi_isDrawn 73 (.iconst 2) 1 := (by decide +kernel : decode prog_3_method_8_code 73 = .ok (.iconst 2, 1))
theorem i_Fi_isDrawn_74 : iIns M_Fi_isDrawn 74 (.iload 5) 2 := (by decide +kernel : decode prog_3_method_8_code 74 = .ok (.iload 5, 2))
theorem i_Fi_isDrawn_76 : iIns M_Fi_isDrawn 76 .imul 1 := (by decide +kernel : decode prog_3_method_8_code 76 = .ok (.imul, 1))
theorem i_Fi_isDrawn_77 : iIns M_Fi_isDrawn 77 (.iconst 1) 1 := (by decide +kernel : decode prog_3_method_8_code 77 = .ok (.iconst 1, 1))
theorem i_Fi_isDrawn_78 : iIns M_Fi_isDrawn 78 .iadd 1 := (by decide +kernel : decode prog_3_method_8_code 78 = .ok (.iadd, 1))
theorem i_Fi_isDrawn_79 : iIns M_Fi_isDrawn 79 (.dload_n 1) 1 := (by decide +kernel : decode prog_3_method_8_code 79 = .ok (.dload_n 1, 1))
theorem i_Fi_isDrawn_80 : iIns M_Fi_isDrawn 80 (.dload_n 3) 1 := (by decide +kernel : decode prog_3_method_8_code 80 = .ok (.dload_n 3, 1))
theorem i_Fi_isDrawn_81 : iCallV M_Fi_isDrawn 81 M_Fi_isEnd 3 3 := ⟨⟨92, (by decide +kernel : decode prog_3_method_8_code 81 = .ok (.invokevirtual 92, 3)), lw_k5 179 rfl rfl⟩, vm_Fi_isEnd, me_Fi_isEnd, pn_Fi_isEnd⟩
theorem i_Fi_isDrawn_84 : iIf M_Fi_isDrawn 84 .eq 91 := ⟨7, (by decide +kernel : decode prog_3_method_8_code 84 = .ok (.ifCond .eq (7), 3)), by decide⟩
theorem i_Fi_isDrawn_87 : iIns M_Fi_isDrawn 87 (.iconst 1) 1 := (by decide +kernel : decode prog_3_method_8_code 87 = .ok (.iconst 1, 1))
theorem i_Fi_isDrawn_88 : iGoto M_Fi_isDrawn 88 92 := ⟨4, (by decide +kernel : decode prog_3_method_8_code 88 = .ok (.goto (4), 3)), by decide⟩
theorem i_Fi_isDrawn_91 : iIns M_Fi_isDrawn 91 (.iconst 0) 1 := (by decide +kernel : decode prog_3_method_8_code 91 = .ok (.iconst 0, 1))
theorem i_Fi_isDrawn_92 : iIns M_Fi_isDrawn 92 (.istore 7) 2 := (by decide +kernel : decode prog_3_method_8_code 92 = .ok (.istore 7, 2))
theorem i_Fi_isDrawn_94 : iIns M_Fi_isDrawn 94 (.iload 6) 2 := (by decide +kernel : decode prog_3_method_8_code 94 = .ok (.iload 6, 2))
theorem i_Fi_isDrawn_96 : iIf M_Fi_isDrawn 96 .ne 104 := ⟨8, (by decide +kernel : decode prog_3_method_8_code 96 = .ok (.ifCond .ne (8), 3)), by decide⟩
theorem i_Fi_isDrawn_99 : iIns M_Fi_isDrawn 99 (.iload 7) 2 := (by decide +kernel : decode prog_3_method_8_code 99 = .ok (.iload 7, 2))
theorem i_Fi_isDrawn_101 : iIf M_Fi_isDrawn 101 .eq 106 := ⟨5, (by decide +kernel : decode prog_3_method_8_code 101 = .ok (.ifCond .eq (5), 3)), by decide⟩
theorem i_Fi_isDrawn_104 : iIns M_Fi_isDrawn 104 (.iconst 1) 1 := (by decide +kernel : decode prog_3_method_8_code 104 = .ok (.iconst 1, 1))
theorem i_Fi_isDrawn_105 : iIns M_Fi_isDrawn 105 .ireturn 1 := (by decide +kernel : decode prog_3_method_8_code 105 = .ok (.ireturn, 1))
theorem i_Fi_isDrawn_106 : iIns M_Fi_isDrawn 106 (.iinc 5 (1)) 3 := (by decide +kernel : decode prog_3_method_8_code 106 = .ok (.iinc 5 (1), 3))
theorem i_Fi_isDrawn_109 : iGoto M_Fi_isDrawn 109 3 := ⟨-106, (by decide +kernel : decode prog_3_method_8_code 109 = .ok (.goto (-106), 3)), by decide⟩
theorem i_Fi_isDrawn_112 : iIns M_Fi_isDrawn 112 (.iconst 0) 1 := (by decide +kernel : decode prog_3_method_8_code 112 = .ok (.iconst 0, 1))
theorem i_Fi_isDrawn_113 : iIns M_Fi_isDrawn 113 .ireturn 1 := (by decide +kernel : decode prog_3_method_8_code 113 = .ok (.ireturn, 1))
theorem i_Fi_isEnd_0 : iIns M_Fi_isEnd 0 (.aload_n 0) 1 := (by decide +kernel : decode prog_3_method_9_code 0 = .ok (.aload_n 0, 1))
theorem i_Fi_isEnd_1 : iGet M_Fi_isEnd 1 3 3 := ⟨18, (by decide +kernel : decode prog_3_method_9_code 1 = .ok (.getfield 18, 3)), fl_Fi_Fi_ends⟩
theorem i_Fi_isEnd_4 : iIns M_Fi_isEnd 4 (.iconst 2) 1 := (by decide +kernel : decode prog_3_method_9_code 4 = .ok (.iconst 2, 1))
theorem i_Fi_isEnd_5 : iIns M_Fi_isEnd 5 (.iload_n 1) 1 := (by decide +kernel : decode prog_3_method_9_code 5 = .ok (.iload_n 1, 1))
theorem i_Fi_isEnd_6 : iIns M_Fi_isEnd 6 .imul 1 := (by decide +kernel : decode prog_3_method_9_code 6 = .ok (.imul, 1))
theorem i_Fi_isEnd_7 : iIns M_Fi_isEnd 7 .daload 1 := (by decide +kernel : decode prog_3_method_9_code 7 = .ok (.daload, 1))
theorem i_Fi_isEnd_8 : iIns M_Fi_isEnd 8 (.dload_n 2) 1 := (by decide +kernel : decode prog_3_method_9_code 8 = .ok (.dload_n 2, 1))
theorem i_Fi_isEnd_9 : iIns M_Fi_isEnd 9 (.dcmp .l) 1 := (by decide +kernel : decode prog_3_method_9_code 9 = .ok (.dcmp .l, 1))
theorem i_Fi_isEnd_10 : iIf M_Fi_isEnd 10 .ne 33 := ⟨23, (by decide +kernel : decode prog_3_method_9_code 10 = .ok (.ifCond .ne (23), 3)), by decide⟩
theorem i_Fi_isEnd_13 : iIns M_Fi_isEnd 13 (.aload_n 0) 1 := (by decide +kernel : decode prog_3_method_9_code 13 = .ok (.aload_n 0, 1))
theorem i_Fi_isEnd_14 : iGet M_Fi_isEnd 14 3 3 := ⟨18, (by decide +kernel : decode prog_3_method_9_code 14 = .ok (.getfield 18, 3)), fl_Fi_Fi_ends⟩
theorem i_Fi_isEnd_17 : iIns M_Fi_isEnd 17 (.iconst 2) 1 := (by decide +kernel : decode prog_3_method_9_code 17 = .ok (.iconst 2, 1))
theorem i_Fi_isEnd_18 : iIns M_Fi_isEnd 18 (.iload_n 1) 1 := (by decide +kernel : decode prog_3_method_9_code 18 = .ok (.iload_n 1, 1))
theorem i_Fi_isEnd_19 : iIns M_Fi_isEnd 19 .imul 1 := (by decide +kernel : decode prog_3_method_9_code 19 = .ok (.imul, 1))
theorem i_Fi_isEnd_20 : iIns M_Fi_isEnd 20 (.iconst 1) 1 := (by decide +kernel : decode prog_3_method_9_code 20 = .ok (.iconst 1, 1))
theorem i_Fi_isEnd_21 : iIns M_Fi_isEnd 21 .iadd 1 := (by decide +kernel : decode prog_3_method_9_code 21 = .ok (.iadd, 1))
theorem i_Fi_isEnd_22 : iIns M_Fi_isEnd 22 .daload 1 := (by decide +kernel : decode prog_3_method_9_code 22 = .ok (.daload, 1))
theorem i_Fi_isEnd_23 : iIns M_Fi_isEnd 23 (.dload 4) 2 := (by decide +kernel : decode prog_3_method_9_code 23 = .ok (.dload 4, 2))
theorem i_Fi_isEnd_25 : iIns M_Fi_isEnd 25 (.dcmp .l) 1 := (by decide +kernel : decode prog_3_method_9_code 25 = .ok (.dcmp .l, 1))
theorem i_Fi_isEnd_26 : iIf M_Fi_isEnd 26 .ne 33 := ⟨7, (by decide +kernel : decode prog_3_method_9_code 26 = .ok (.ifCond .ne (7), 3)), by decide⟩
theorem i_Fi_isEnd_29 : iIns M_Fi_isEnd 29 (.iconst 1) 1 := (by decide +kernel : decode prog_3_method_9_code 29 = .ok (.iconst 1, 1))
theorem i_Fi_isEnd_30 : iGoto M_Fi_isEnd 30 34 := ⟨4, (by decide +kernel : decode prog_3_method_9_code 30 = .ok (.goto (4), 3)), by decide⟩
theorem i_Fi_isEnd_33 : iIns M_Fi_isEnd 33 (.iconst 0) 1 := (by decide +kernel : decode prog_3_method_9_code 33 = .ok (.iconst 0, 1))
theorem i_Fi_isEnd_34 : iIns M_Fi_isEnd 34 .ireturn 1 := (by decide +kernel : decode prog_3_method_9_code 34 = .ok (.ireturn, 1))
theorem i_Fi_open_0 : iIns M_Fi_open 0 (.aload_n 0) 1 := (by decide +kernel : decode prog_3_method_10_code 0 = .ok (.aload_n 0, 1))
theorem i_Fi_open_1 : iGet M_Fi_open 1 3 8 := ⟨57, (by decide +kernel : decode prog_3_method_10_code 1 = .ok (.getfield 57, 3)), fl_Fi_Fi_depth⟩
theorem i_Fi_open_4 : iIns M_Fi_open 4 (.bipush 20) 2 := (by decide +kernel : decode prog_3_method_10_code 4 = .ok (.bipush 20, 2))
theorem i_Fi_open_6 : iIcmp M_Fi_open 6 .lt 11 := ⟨5, (by decide +kernel : decode prog_3_method_10_code 6 = .ok (.if_icmp .lt (5), 3)), by decide⟩
theorem i_Fi_open_9 : iIns M_Fi_open 9 (.iconst 0) 1 := (by decide +kernel : decode prog_3_method_10_code 9 = .ok (.iconst 0, 1))
theorem i_Fi_open_10 : iIns M_Fi_open 10 .ireturn 1 := (by decide +kernel : decode prog_3_method_10_code 10 = .ok (.ireturn, 1))
theorem i_Fi_open_11 : iIns M_Fi_open 11 (.aload_n 0) 1 := (by decide +kernel : decode prog_3_method_10_code 11 = .ok (.aload_n 0, 1))
theorem i_Fi_open_12 : iGet M_Fi_open 12 3 6 := ⟨21, (by decide +kernel : decode prog_3_method_10_code 12 = .ok (.getfield 21, 3)), fl_Fi_Fi_heldNumbers⟩
theorem i_Fi_open_15 : iIns M_Fi_open 15 (.iconst 3) 1 := (by decide +kernel : decode prog_3_method_10_code 15 = .ok (.iconst 3, 1))
theorem i_Fi_open_16 : iIns M_Fi_open 16 (.aload_n 0) 1 := (by decide +kernel : decode prog_3_method_10_code 16 = .ok (.aload_n 0, 1))
theorem i_Fi_open_17 : iGet M_Fi_open 17 3 8 := ⟨57, (by decide +kernel : decode prog_3_method_10_code 17 = .ok (.getfield 57, 3)), fl_Fi_Fi_depth⟩
theorem i_Fi_open_20 : iIns M_Fi_open 20 .imul 1 := (by decide +kernel : decode prog_3_method_10_code 20 = .ok (.imul, 1))
theorem i_Fi_open_21 : iIns M_Fi_open 21 (.aload_n 0) 1 := (by decide +kernel : decode prog_3_method_10_code 21 = .ok (.aload_n 0, 1))
theorem i_Fi_open_22 : iGet M_Fi_open 22 3 10 := ⟨63, (by decide +kernel : decode prog_3_method_10_code 22 = .ok (.getfield 63, 3)), fl_Fi_Fi_x⟩
theorem i_Fi_open_25 : iIns M_Fi_open 25 .dastore 1 := (by decide +kernel : decode prog_3_method_10_code 25 = .ok (.dastore, 1))
theorem i_Fi_open_26 : iIns M_Fi_open 26 (.aload_n 0) 1 := (by decide +kernel : decode prog_3_method_10_code 26 = .ok (.aload_n 0, 1))
theorem i_Fi_open_27 : iGet M_Fi_open 27 3 6 := ⟨21, (by decide +kernel : decode prog_3_method_10_code 27 = .ok (.getfield 21, 3)), fl_Fi_Fi_heldNumbers⟩
theorem i_Fi_open_30 : iIns M_Fi_open 30 (.iconst 3) 1 := (by decide +kernel : decode prog_3_method_10_code 30 = .ok (.iconst 3, 1))
theorem i_Fi_open_31 : iIns M_Fi_open 31 (.aload_n 0) 1 := (by decide +kernel : decode prog_3_method_10_code 31 = .ok (.aload_n 0, 1))
theorem i_Fi_open_32 : iGet M_Fi_open 32 3 8 := ⟨57, (by decide +kernel : decode prog_3_method_10_code 32 = .ok (.getfield 57, 3)), fl_Fi_Fi_depth⟩
theorem i_Fi_open_35 : iIns M_Fi_open 35 .imul 1 := (by decide +kernel : decode prog_3_method_10_code 35 = .ok (.imul, 1))
theorem i_Fi_open_36 : iIns M_Fi_open 36 (.iconst 1) 1 := (by decide +kernel : decode prog_3_method_10_code 36 = .ok (.iconst 1, 1))
theorem i_Fi_open_37 : iIns M_Fi_open 37 .iadd 1 := (by decide +kernel : decode prog_3_method_10_code 37 = .ok (.iadd, 1))
theorem i_Fi_open_38 : iIns M_Fi_open 38 (.aload_n 0) 1 := (by decide +kernel : decode prog_3_method_10_code 38 = .ok (.aload_n 0, 1))
theorem i_Fi_open_39 : iGet M_Fi_open 39 3 11 := ⟨66, (by decide +kernel : decode prog_3_method_10_code 39 = .ok (.getfield 66, 3)), fl_Fi_Fi_y⟩
theorem i_Fi_open_42 : iIns M_Fi_open 42 .dastore 1 := (by decide +kernel : decode prog_3_method_10_code 42 = .ok (.dastore, 1))
theorem i_Fi_open_43 : iIns M_Fi_open 43 (.aload_n 0) 1 := (by decide +kernel : decode prog_3_method_10_code 43 = .ok (.aload_n 0, 1))
theorem i_Fi_open_44 : iGet M_Fi_open 44 3 6 := ⟨21, (by decide +kernel : decode prog_3_method_10_code 44 = .ok (.getfield 21, 3)), fl_Fi_Fi_heldNumbers⟩
theorem i_Fi_open_47 : iIns M_Fi_open 47 (.iconst 3) 1 := (by decide +kernel : decode prog_3_method_10_code 47 = .ok (.iconst 3, 1))
theorem i_Fi_open_48 : iIns M_Fi_open 48 (.aload_n 0) 1 := (by decide +kernel : decode prog_3_method_10_code 48 = .ok (.aload_n 0, 1))
theorem i_Fi_open_49 : iGet M_Fi_open 49 3 8 := ⟨57, (by decide +kernel : decode prog_3_method_10_code 49 = .ok (.getfield 57, 3)), fl_Fi_Fi_depth⟩
theorem i_Fi_open_52 : iIns M_Fi_open 52 .imul 1 := (by decide +kernel : decode prog_3_method_10_code 52 = .ok (.imul, 1))
theorem i_Fi_open_53 : iIns M_Fi_open 53 (.iconst 2) 1 := (by decide +kernel : decode prog_3_method_10_code 53 = .ok (.iconst 2, 1))
theorem i_Fi_open_54 : iIns M_Fi_open 54 .iadd 1 := (by decide +kernel : decode prog_3_method_10_code 54 = .ok (.iadd, 1))
theorem i_Fi_open_55 : iIns M_Fi_open 55 (.aload_n 0) 1 := (by decide +kernel : decode prog_3_method_10_code 55 = .ok (.aload_n 0, 1))
theorem i_Fi_open_56 : iGet M_Fi_open 56 3 12 := ⟨69, (by decide +kernel : decode prog_3_method_10_code 56 = .ok (.getfield 69, 3)), fl_Fi_Fi_stepLength⟩
theorem i_Fi_open_59 : iIns M_Fi_open 59 .dastore 1 := (by decide +kernel : decode prog_3_method_10_code 59 = .ok (.dastore, 1))
theorem i_Fi_open_60 : iIns M_Fi_open 60 (.aload_n 0) 1 := (by decide +kernel : decode prog_3_method_10_code 60 = .ok (.aload_n 0, 1))
theorem i_Fi_open_61 : iGet M_Fi_open 61 3 7 := ⟨24, (by decide +kernel : decode prog_3_method_10_code 61 = .ok (.getfield 24, 3)), fl_Fi_Fi_heldHeadings⟩
theorem i_Fi_open_64 : iIns M_Fi_open 64 (.aload_n 0) 1 := (by decide +kernel : decode prog_3_method_10_code 64 = .ok (.aload_n 0, 1))
theorem i_Fi_open_65 : iGet M_Fi_open 65 3 8 := ⟨57, (by decide +kernel : decode prog_3_method_10_code 65 = .ok (.getfield 57, 3)), fl_Fi_Fi_depth⟩
theorem i_Fi_open_68 : iIns M_Fi_open 68 (.aload_n 0) 1 := (by decide +kernel : decode prog_3_method_10_code 68 = .ok (.aload_n 0, 1))
theorem i_Fi_open_69 : iGet M_Fi_open 69 3 13 := ⟨72, (by decide +kernel : decode prog_3_method_10_code 69 = .ok (.getfield 72, 3)), fl_Fi_Fi_heading⟩
theorem i_Fi_open_72 : iIns M_Fi_open 72 .iastore 1 := (by decide +kernel : decode prog_3_method_10_code 72 = .ok (.iastore, 1))
theorem i_Fi_open_73 : iIns M_Fi_open 73 (.aload_n 0) 1 := (by decide +kernel : decode prog_3_method_10_code 73 = .ok (.aload_n 0, 1))
theorem i_Fi_open_74 : iIns M_Fi_open 74 .dup 1 := (by decide +kernel : decode prog_3_method_10_code 74 = .ok (.dup, 1))
theorem i_Fi_open_75 : iGet M_Fi_open 75 3 8 := ⟨57, (by decide +kernel : decode prog_3_method_10_code 75 = .ok (.getfield 57, 3)), fl_Fi_Fi_depth⟩
theorem i_Fi_open_78 : iIns M_Fi_open 78 (.iconst 1) 1 := (by decide +kernel : decode prog_3_method_10_code 78 = .ok (.iconst 1, 1))
theorem i_Fi_open_79 : iIns M_Fi_open 79 .iadd 1 := (by decide +kernel : decode prog_3_method_10_code 79 = .ok (.iadd, 1))
theorem i_Fi_open_80 : iPutX M_Fi_open 80 3 8 .int := ⟨57, (by decide +kernel : decode prog_3_method_10_code 80 = .ok (.putfield 57, 3)), px_Fi_Fi_depth⟩
theorem i_Fi_open_83 : iIns M_Fi_open 83 (.aload_n 0) 1 := (by decide +kernel : decode prog_3_method_10_code 83 = .ok (.aload_n 0, 1))
theorem i_Fi_open_84 : iIns M_Fi_open 84 (.aload_n 0) 1 := (by decide +kernel : decode prog_3_method_10_code 84 = .ok (.aload_n 0, 1))
theorem i_Fi_open_85 : iGet M_Fi_open 85 3 9 := ⟨60, (by decide +kernel : decode prog_3_method_10_code 85 = .ok (.getfield 60, 3)), fl_Fi_Fi_deepest⟩
theorem i_Fi_open_88 : iIns M_Fi_open 88 (.aload_n 0) 1 := (by decide +kernel : decode prog_3_method_10_code 88 = .ok (.aload_n 0, 1))
theorem i_Fi_open_89 : iGet M_Fi_open 89 3 8 := ⟨57, (by decide +kernel : decode prog_3_method_10_code 89 = .ok (.getfield 57, 3)), fl_Fi_Fi_depth⟩
theorem i_Fi_open_92 : iCallS M_Fi_open 92 M_Ma_maxI 2 := ⟨⟨96, (by decide +kernel : decode prog_3_method_10_code 92 = .ok (.invokestatic 96, 3)), lw_k5 187 rfl rfl⟩, sm_Ma_maxI, me_Ma_maxI, pn_Ma_maxI⟩
theorem i_Fi_open_95 : iPutX M_Fi_open 95 3 9 .int := ⟨60, (by decide +kernel : decode prog_3_method_10_code 95 = .ok (.putfield 60, 3)), px_Fi_Fi_deepest⟩
theorem i_Fi_open_98 : iIns M_Fi_open 98 (.aload_n 0) 1 := (by decide +kernel : decode prog_3_method_10_code 98 = .ok (.aload_n 0, 1))
theorem i_Fi_open_99 : iIns M_Fi_open 99 .dup 1 := (by decide +kernel : decode prog_3_method_10_code 99 = .ok (.dup, 1))
theorem i_Fi_open_100 : iGet M_Fi_open 100 3 12 := ⟨69, (by decide +kernel : decode prog_3_method_10_code 100 = .ok (.getfield 69, 3)), fl_Fi_Fi_stepLength⟩
theorem i_Fi_open_103 : iLdcD M_Fi_open 103 4611686018427387904 := ⟨102, (by decide +kernel : decode prog_3_method_10_code 103 = .ok (.ldc2_w 102, 3)), lw_k5 188 rfl rfl⟩
theorem i_Fi_open_106 : iIns M_Fi_open 106 .ddiv 1 := (by decide +kernel : decode prog_3_method_10_code 106 = .ok (.ddiv, 1))
theorem i_Fi_open_107 : iPutX M_Fi_open 107 3 12 .double := ⟨69, (by decide +kernel : decode prog_3_method_10_code 107 = .ok (.putfield 69, 3)), px_Fi_Fi_stepLength⟩
theorem i_Fi_open_110 : iIns M_Fi_open 110 (.iconst 1) 1 := (by decide +kernel : decode prog_3_method_10_code 110 = .ok (.iconst 1, 1))
theorem i_Fi_open_111 : iIns M_Fi_open 111 .ireturn 1 := (by decide +kernel : decode prog_3_method_10_code 111 = .ok (.ireturn, 1))
theorem i_Fi_close_0 : iIns M_Fi_close 0 (.aload_n 0) 1 := (by decide +kernel : decode prog_3_method_11_code 0 = .ok (.aload_n 0, 1))
theorem i_Fi_close_1 : iGet M_Fi_close 1 3 8 := ⟨57, (by decide +kernel : decode prog_3_method_11_code 1 = .ok (.getfield 57, 3)), fl_Fi_Fi_depth⟩
theorem i_Fi_close_4 : iIf M_Fi_close 4 .ne 9 := ⟨5, (by decide +kernel : decode prog_3_method_11_code 4 = .ok (.ifCond .ne (5), 3)), by decide⟩
theorem i_Fi_close_7 : iIns M_Fi_close 7 (.iconst 0) 1 := (by decide +kernel : decode prog_3_method_11_code 7 = .ok (.iconst 0, 1))
theorem i_Fi_close_8 : iIns M_Fi_close 8 .ireturn 1 := (by decide +kernel : decode prog_3_method_11_code 8 = .ok (.ireturn, 1))
theorem i_Fi_close_9 : iIns M_Fi_close 9 (.aload_n 0) 1 := (by decide +kernel : decode prog_3_method_11_code 9 = .ok (.aload_n 0, 1))
theorem i_Fi_close_10 : iIns M_Fi_close 10 .dup 1 := (by decide +kernel : decode prog_3_method_11_code 10 = .ok (.dup, 1))
theorem i_Fi_close_11 : iGet M_Fi_close 11 3 8 := ⟨57, (by decide +kernel : decode prog_3_method_11_code 11 = .ok (.getfield 57, 3)), fl_Fi_Fi_depth⟩
theorem i_Fi_close_14 : iIns M_Fi_close 14 (.iconst 1) 1 := (by decide +kernel : decode prog_3_method_11_code 14 = .ok (.iconst 1, 1))
theorem i_Fi_close_15 : iIns M_Fi_close 15 .isub 1 := (by decide +kernel : decode prog_3_method_11_code 15 = .ok (.isub, 1))
theorem i_Fi_close_16 : iPutX M_Fi_close 16 3 8 .int := ⟨57, (by decide +kernel : decode prog_3_method_11_code 16 = .ok (.putfield 57, 3)), px_Fi_Fi_depth⟩
theorem i_Fi_close_19 : iIns M_Fi_close 19 (.aload_n 0) 1 := (by decide +kernel : decode prog_3_method_11_code 19 = .ok (.aload_n 0, 1))
theorem i_Fi_close_20 : iIns M_Fi_close 20 (.aload_n 0) 1 := (by decide +kernel : decode prog_3_method_11_code 20 = .ok (.aload_n 0, 1))
theorem i_Fi_close_21 : iGet M_Fi_close 21 3 6 := ⟨21, (by decide +kernel : decode prog_3_method_11_code 21 = .ok (.getfield 21, 3)), fl_Fi_Fi_heldNumbers⟩
theorem i_Fi_close_24 : iIns M_Fi_close 24 (.iconst 3) 1 := (by decide +kernel : decode prog_3_method_11_code 24 = .ok (.iconst 3, 1))
theorem i_Fi_close_25 : iIns M_Fi_close 25 (.aload_n 0) 1 := (by decide +kernel : decode prog_3_method_11_code 25 = .ok (.aload_n 0, 1))
theorem i_Fi_close_26 : iGet M_Fi_close 26 3 8 := ⟨57, (by decide +kernel : decode prog_3_method_11_code 26 = .ok (.getfield 57, 3)), fl_Fi_Fi_depth⟩
theorem i_Fi_close_29 : iIns M_Fi_close 29 .imul 1 := (by decide +kernel : decode prog_3_method_11_code 29 = .ok (.imul, 1))
theorem i_Fi_close_30 : iIns M_Fi_close 30 .daload 1 := (by decide +kernel : decode prog_3_method_11_code 30 = .ok (.daload, 1))
theorem i_Fi_close_31 : iPutX M_Fi_close 31 3 10 .double := ⟨63, (by decide +kernel : decode prog_3_method_11_code 31 = .ok (.putfield 63, 3)), px_Fi_Fi_x⟩
theorem i_Fi_close_34 : iIns M_Fi_close 34 (.aload_n 0) 1 := (by decide +kernel : decode prog_3_method_11_code 34 = .ok (.aload_n 0, 1))
theorem i_Fi_close_35 : iIns M_Fi_close 35 (.aload_n 0) 1 := (by decide +kernel : decode prog_3_method_11_code 35 = .ok (.aload_n 0, 1))
theorem i_Fi_close_36 : iGet M_Fi_close 36 3 6 := ⟨21, (by decide +kernel : decode prog_3_method_11_code 36 = .ok (.getfield 21, 3)), fl_Fi_Fi_heldNumbers⟩
theorem i_Fi_close_39 : iIns M_Fi_close 39 (.iconst 3) 1 := (by decide +kernel : decode prog_3_method_11_code 39 = .ok (.iconst 3, 1))
theorem i_Fi_close_40 : iIns M_Fi_close 40 (.aload_n 0) 1 := (by decide +kernel : decode prog_3_method_11_code 40 = .ok (.aload_n 0, 1))
theorem i_Fi_close_41 : iGet M_Fi_close 41 3 8 := ⟨57, (by decide +kernel : decode prog_3_method_11_code 41 = .ok (.getfield 57, 3)), fl_Fi_Fi_depth⟩
theorem i_Fi_close_44 : iIns M_Fi_close 44 .imul 1 := (by decide +kernel : decode prog_3_method_11_code 44 = .ok (.imul, 1))
theorem i_Fi_close_45 : iIns M_Fi_close 45 (.iconst 1) 1 := (by decide +kernel : decode prog_3_method_11_code 45 = .ok (.iconst 1, 1))
theorem i_Fi_close_46 : iIns M_Fi_close 46 .iadd 1 := (by decide +kernel : decode prog_3_method_11_code 46 = .ok (.iadd, 1))
theorem i_Fi_close_47 : iIns M_Fi_close 47 .daload 1 := (by decide +kernel : decode prog_3_method_11_code 47 = .ok (.daload, 1))
theorem i_Fi_close_48 : iPutX M_Fi_close 48 3 11 .double := ⟨66, (by decide +kernel : decode prog_3_method_11_code 48 = .ok (.putfield 66, 3)), px_Fi_Fi_y⟩
theorem i_Fi_close_51 : iIns M_Fi_close 51 (.aload_n 0) 1 := (by decide +kernel : decode prog_3_method_11_code 51 = .ok (.aload_n 0, 1))
theorem i_Fi_close_52 : iIns M_Fi_close 52 (.aload_n 0) 1 := (by decide +kernel : decode prog_3_method_11_code 52 = .ok (.aload_n 0, 1))
theorem i_Fi_close_53 : iGet M_Fi_close 53 3 6 := ⟨21, (by decide +kernel : decode prog_3_method_11_code 53 = .ok (.getfield 21, 3)), fl_Fi_Fi_heldNumbers⟩
theorem i_Fi_close_56 : iIns M_Fi_close 56 (.iconst 3) 1 := (by decide +kernel : decode prog_3_method_11_code 56 = .ok (.iconst 3, 1))
theorem i_Fi_close_57 : iIns M_Fi_close 57 (.aload_n 0) 1 := (by decide +kernel : decode prog_3_method_11_code 57 = .ok (.aload_n 0, 1))
theorem i_Fi_close_58 : iGet M_Fi_close 58 3 8 := ⟨57, (by decide +kernel : decode prog_3_method_11_code 58 = .ok (.getfield 57, 3)), fl_Fi_Fi_depth⟩
theorem i_Fi_close_61 : iIns M_Fi_close 61 .imul 1 := (by decide +kernel : decode prog_3_method_11_code 61 = .ok (.imul, 1))
theorem i_Fi_close_62 : iIns M_Fi_close 62 (.iconst 2) 1 := (by decide +kernel : decode prog_3_method_11_code 62 = .ok (.iconst 2, 1))
theorem i_Fi_close_63 : iIns M_Fi_close 63 .iadd 1 := (by decide +kernel : decode prog_3_method_11_code 63 = .ok (.iadd, 1))
theorem i_Fi_close_64 : iIns M_Fi_close 64 .daload 1 := (by decide +kernel : decode prog_3_method_11_code 64 = .ok (.daload, 1))
theorem i_Fi_close_65 : iPutX M_Fi_close 65 3 12 .double := ⟨69, (by decide +kernel : decode prog_3_method_11_code 65 = .ok (.putfield 69, 3)), px_Fi_Fi_stepLength⟩
theorem i_Fi_close_68 : iIns M_Fi_close 68 (.aload_n 0) 1 := (by decide +kernel : decode prog_3_method_11_code 68 = .ok (.aload_n 0, 1))
theorem i_Fi_close_69 : iIns M_Fi_close 69 (.aload_n 0) 1 := (by decide +kernel : decode prog_3_method_11_code 69 = .ok (.aload_n 0, 1))
theorem i_Fi_close_70 : iGet M_Fi_close 70 3 7 := ⟨24, (by decide +kernel : decode prog_3_method_11_code 70 = .ok (.getfield 24, 3)), fl_Fi_Fi_heldHeadings⟩
theorem i_Fi_close_73 : iIns M_Fi_close 73 (.aload_n 0) 1 := (by decide +kernel : decode prog_3_method_11_code 73 = .ok (.aload_n 0, 1))
theorem i_Fi_close_74 : iGet M_Fi_close 74 3 8 := ⟨57, (by decide +kernel : decode prog_3_method_11_code 74 = .ok (.getfield 57, 3)), fl_Fi_Fi_depth⟩
theorem i_Fi_close_77 : iIns M_Fi_close 77 .iaload 1 := (by decide +kernel : decode prog_3_method_11_code 77 = .ok (.iaload, 1))
theorem i_Fi_close_78 : iPutX M_Fi_close 78 3 13 .int := ⟨72, (by decide +kernel : decode prog_3_method_11_code 78 = .ok (.putfield 72, 3)), px_Fi_Fi_heading⟩
theorem i_Fi_close_81 : iIns M_Fi_close 81 (.iconst 1) 1 := (by decide +kernel : decode prog_3_method_11_code 81 = .ok (.iconst 1, 1))
theorem i_Fi_close_82 : iIns M_Fi_close 82 .ireturn 1 := (by decide +kernel : decode prog_3_method_11_code 82 = .ok (.ireturn, 1))
theorem i_Fi_lowest_0 : iIns M_Fi_lowest 0 (.dconst 0) 1 := (by decide +kernel : decode prog_3_method_12_code 0 = .ok (.dconst 0, 1))
theorem i_Fi_lowest_1 : iIns M_Fi_lowest 1 (.dstore_n 2) 1 := (by decide +kernel : decode prog_3_method_12_code 1 = .ok (.dstore_n 2, 1))
theorem i_Fi_lowest_2 : iIns M_Fi_lowest 2 (.iconst 0) 1 := (by decide +kernel : decode prog_3_method_12_code 2 = .ok (.iconst 0, 1))
theorem i_Fi_lowest_3 : iIns M_Fi_lowest 3 (.istore 4) 2 := (by decide +kernel : decode prog_3_method_12_code 3 = .ok (.istore 4, 2))
theorem i_Fi_lowest_5 : iIns M_Fi_lowest 5 (.iload 4) 2 := (by decide +kernel : decode prog_3_method_12_code 5 = .ok (.iload 4, 2))
theorem i_Fi_lowest_7 : iIns M_Fi_lowest 7 (.aload_n 0) 1 := (by decide +kernel : decode prog_3_method_12_code 7 = .ok (.aload_n 0, 1))
theorem i_Fi_lowest_8 : iGet M_Fi_lowest 8 3 2 := ⟨47, (by decide +kernel : decode prog_3_method_12_code 8 = .ok (.getfield 47, 3)), fl_Fi_Fi_points⟩
theorem i_Fi_lowest_11 : iIcmp M_Fi_lowest 11 .ge 38 := ⟨27, (by decide +kernel : decode prog_3_method_12_code 11 = .ok (.if_icmp .ge (27), 3)), by decide⟩
theorem i_Fi_lowest_14 : iIns M_Fi_lowest 14 (.aload_n 1) 1 := (by decide +kernel : decode prog_3_method_12_code 14 = .ok (.aload_n 1, 1))
theorem i_Fi_lowest_15 : iIns M_Fi_lowest 15 (.iload 4) 2 := (by decide +kernel : decode prog_3_method_12_code 15 = .ok (.iload 4, 2))
theorem i_Fi_lowest_17 : iIns M_Fi_lowest 17 .daload 1 := (by decide +kernel : decode prog_3_method_12_code 17 = .ok (.daload, 1))
theorem i_Fi_lowest_18 : iIns M_Fi_lowest 18 (.dload_n 2) 1 := (by decide +kernel : decode prog_3_method_12_code 18 = .ok (.dload_n 2, 1))
theorem i_Fi_lowest_19 : iIns M_Fi_lowest 19 (.dcmp .g) 1 := (by decide +kernel : decode prog_3_method_12_code 19 = .ok (.dcmp .g, 1))
theorem i_Fi_lowest_20 : iIf M_Fi_lowest 20 .ge 30 := ⟨10, (by decide +kernel : decode prog_3_method_12_code 20 = .ok (.ifCond .ge (10), 3)), by decide⟩
theorem i_Fi_lowest_23 : iIns M_Fi_lowest 23 (.aload_n 1) 1 := (by decide +kernel : decode prog_3_method_12_code 23 = .ok (.aload_n 1, 1))
theorem i_Fi_lowest_24 : iIns M_Fi_lowest 24 (.iload 4) 2 := (by decide +kernel : decode prog_3_method_12_code 24 = .ok (.iload 4, 2))
theorem i_Fi_lowest_26 : iIns M_Fi_lowest 26 .daload 1 := (by decide +kernel : decode prog_3_method_12_code 26 = .ok (.daload, 1))
theorem i_Fi_lowest_27 : iGoto M_Fi_lowest 27 31 := ⟨4, (by decide +kernel : decode prog_3_method_12_code 27 = .ok (.goto (4), 3)), by decide⟩
theorem i_Fi_lowest_30 : iIns M_Fi_lowest 30 (.dload_n 2) 1 := (by decide +kernel : decode prog_3_method_12_code 30 = .ok (.dload_n 2, 1))
theorem i_Fi_lowest_31 : iIns M_Fi_lowest 31 (.dstore_n 2) 1 := (by decide +kernel : decode prog_3_method_12_code 31 = .ok (.dstore_n 2, 1))
theorem i_Fi_lowest_32 : iIns M_Fi_lowest 32 (.iinc 4 (1)) 3 := (by decide +kernel : decode prog_3_method_12_code 32 = .ok (.iinc 4 (1), 3))
theorem i_Fi_lowest_35 : iGoto M_Fi_lowest 35 5 := ⟨-30, (by decide +kernel : decode prog_3_method_12_code 35 = .ok (.goto (-30), 3)), by decide⟩
theorem i_Fi_lowest_38 : iIns M_Fi_lowest 38 (.dload_n 2) 1 := (by decide +kernel : decode prog_3_method_12_code 38 = .ok (.dload_n 2, 1))
theorem i_Fi_lowest_39 : iIns M_Fi_lowest 39 .dreturn 1 := (by decide +kernel : decode prog_3_method_12_code 39 = .ok (.dreturn, 1))
theorem i_Fi_greatest_0 : iIns M_Fi_greatest 0 (.dconst 0) 1 := (by decide +kernel : decode prog_3_method_13_code 0 = .ok (.dconst 0, 1))
theorem i_Fi_greatest_1 : iIns M_Fi_greatest 1 (.dstore_n 2) 1 := (by decide +kernel : decode prog_3_method_13_code 1 = .ok (.dstore_n 2, 1))
theorem i_Fi_greatest_2 : iIns M_Fi_greatest 2 (.iconst 0) 1 := (by decide +kernel : decode prog_3_method_13_code 2 = .ok (.iconst 0, 1))
theorem i_Fi_greatest_3 : iIns M_Fi_greatest 3 (.istore 4) 2 := (by decide +kernel : decode prog_3_method_13_code 3 = .ok (.istore 4, 2))
theorem i_Fi_greatest_5 : iIns M_Fi_greatest 5 (.iload 4) 2 := (by decide +kernel : decode prog_3_method_13_code 5 = .ok (.iload 4, 2))
theorem i_Fi_greatest_7 : iIns M_Fi_greatest 7 (.aload_n 0) 1 := (by decide +kernel : decode prog_3_method_13_code 7 = .ok (.aload_n 0, 1))
theorem i_Fi_greatest_8 : iGet M_Fi_greatest 8 3 2 := ⟨47, (by decide +kernel : decode prog_3_method_13_code 8 = .ok (.getfield 47, 3)), fl_Fi_Fi_points⟩
theorem i_Fi_greatest_11 : iIcmp M_Fi_greatest 11 .ge 38 := ⟨27, (by decide +kernel : decode prog_3_method_13_code 11 = .ok (.if_icmp .ge (27), 3)), by decide⟩
theorem i_Fi_greatest_14 : iIns M_Fi_greatest 14 (.aload_n 1) 1 := (by decide +kernel : decode prog_3_method_13_code 14 = .ok (.aload_n 1, 1))
theorem i_Fi_greatest_15 : iIns M_Fi_greatest 15 (.iload 4) 2 := (by decide +kernel : decode prog_3_method_13_code 15 = .ok (.iload 4, 2))
theorem i_Fi_greatest_17 : iIns M_Fi_greatest 17 .daload 1 := (by decide +kernel : decode prog_3_method_13_code 17 = .ok (.daload, 1))
theorem i_Fi_greatest_18 : iIns M_Fi_greatest 18 (.dload_n 2) 1 := (by decide +kernel : decode prog_3_method_13_code 18 = .ok (.dload_n 2, 1))
theorem i_Fi_greatest_19 : iIns M_Fi_greatest 19 (.dcmp .l) 1 := (by decide +kernel : decode prog_3_method_13_code 19 = .ok (.dcmp .l, 1))
theorem i_Fi_greatest_20 : iIf M_Fi_greatest 20 .le 30 := ⟨10, (by decide +kernel : decode prog_3_method_13_code 20 = .ok (.ifCond .le (10), 3)), by decide⟩
theorem i_Fi_greatest_23 : iIns M_Fi_greatest 23 (.aload_n 1) 1 := (by decide +kernel : decode prog_3_method_13_code 23 = .ok (.aload_n 1, 1))
theorem i_Fi_greatest_24 : iIns M_Fi_greatest 24 (.iload 4) 2 := (by decide +kernel : decode prog_3_method_13_code 24 = .ok (.iload 4, 2))
theorem i_Fi_greatest_26 : iIns M_Fi_greatest 26 .daload 1 := (by decide +kernel : decode prog_3_method_13_code 26 = .ok (.daload, 1))
theorem i_Fi_greatest_27 : iGoto M_Fi_greatest 27 31 := ⟨4, (by decide +kernel : decode prog_3_method_13_code 27 = .ok (.goto (4), 3)), by decide⟩
theorem i_Fi_greatest_30 : iIns M_Fi_greatest 30 (.dload_n 2) 1 := (by decide +kernel : decode prog_3_method_13_code 30 = .ok (.dload_n 2, 1))
theorem i_Fi_greatest_31 : iIns M_Fi_greatest 31 (.dstore_n 2) 1 := (by decide +kernel : decode prog_3_method_13_code 31 = .ok (.dstore_n 2, 1))
theorem i_Fi_greatest_32 : iIns M_Fi_greatest 32 (.iinc 4 (1)) 3 := (by decide +kernel : decode prog_3_method_13_code 32 = .ok (.iinc 4 (1), 3))
theorem i_Fi_greatest_35 : iGoto M_Fi_greatest 35 5 := ⟨-30, (by decide +kernel : decode prog_3_method_13_code 35 = .ok (.goto (-30), 3)), by decide⟩
theorem i_Fi_greatest_38 : iIns M_Fi_greatest 38 (.dload_n 2) 1 := (by decide +kernel : decode prog_3_method_13_code 38 = .ok (.dload_n 2, 1))
theorem i_Fi_greatest_39 : iIns M_Fi_greatest 39 .dreturn 1 := (by decide +kernel : decode prog_3_method_13_code 39 = .ok (.dreturn, 1))

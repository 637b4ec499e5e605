/-! instructions: by program (wip/whole/gen12.py) -/
theorem i_Gr_init_0 : iIns M_Gr_init 0 (.aload_n 0) 1 := (by decide +kernel : decode prog_4_method_1_code 0 = .ok (.aload_n 0, 1))
theorem i_Gr_init_1 : iObjI M_Gr_init 1 := ⟨3, (by decide +kernel : decode prog_4_method_1_code 1 = .ok (.invokespecial 3, 3)), lw_k1 170 rfl rfl⟩
theorem i_Gr_init_4 : iIns M_Gr_init 4 (.aload_n 0) 1 := (by decide +kernel : decode prog_4_method_1_code 4 = .ok (.aload_n 0, 1))
theorem i_Gr_init_5 : iIns M_Gr_init 5 (.bipush 6) 2 := (by decide +kernel : decode prog_4_method_1_code 5 = .ok (.bipush 6, 2))
theorem i_Gr_init_7 : iNewA M_Gr_init 7 .long := ⟨(by decide +kernel : decode prog_4_method_1_code 7 = .ok (.newarray .long, 2)), lw_k1 189 rfl rfl⟩
theorem i_Gr_init_9 : iPutX M_Gr_init 9 4 0 (.array .long) := ⟨9, (by decide +kernel : decode prog_4_method_1_code 9 = .ok (.putfield 9, 3)), px_Gr_Gr_counts⟩
theorem i_Gr_init_12 : iIns M_Gr_init 12 (.aload_n 0) 1 := (by decide +kernel : decode prog_4_method_1_code 12 = .ok (.aload_n 0, 1))
theorem i_Gr_init_13 : iIns M_Gr_init 13 (.bipush 6) 2 := (by decide +kernel : decode prog_4_method_1_code 13 = .ok (.bipush 6, 2))
theorem i_Gr_init_15 : iNewA M_Gr_init 15 .long := ⟨(by decide +kernel : decode prog_4_method_1_code 15 = .ok (.newarray .long, 2)), lw_k1 189 rfl rfl⟩
theorem i_Gr_init_17 : iPutX M_Gr_init 17 4 1 (.array .long) := ⟨15, (by decide +kernel : decode prog_4_method_1_code 17 = .ok (.putfield 15, 3)), px_Gr_Gr_next⟩
theorem i_Gr_init_20 : iIns M_Gr_init 20 (.aload_n 0) 1 := (by decide +kernel : decode prog_4_method_1_code 20 = .ok (.aload_n 0, 1))
theorem i_Gr_init_21 : iIns M_Gr_init 21 (.bipush 6) 2 := (by decide +kernel : decode prog_4_method_1_code 21 = .ok (.bipush 6, 2))
theorem i_Gr_init_23 : iNewA M_Gr_init 23 .int := ⟨(by decide +kernel : decode prog_4_method_1_code 23 = .ok (.newarray .int, 2)), lw_k1 95 rfl rfl⟩
theorem i_Gr_init_25 : iPutF M_Gr_init 25 4 3 (.array .int) := ⟨18, (by decide +kernel : decode prog_4_method_1_code 25 = .ok (.putfield 18, 3)), pf_Gr_Gr_reach, rfl⟩
theorem i_Gr_init_28 : iIns M_Gr_init 28 (.aload_n 0) 1 := (by decide +kernel : decode prog_4_method_1_code 28 = .ok (.aload_n 0, 1))
theorem i_Gr_init_29 : iIns M_Gr_init 29 (.bipush 6) 2 := (by decide +kernel : decode prog_4_method_1_code 29 = .ok (.bipush 6, 2))
theorem i_Gr_init_31 : iNewA M_Gr_init 31 .int := ⟨(by decide +kernel : decode prog_4_method_1_code 31 = .ok (.newarray .int, 2)), lw_k1 95 rfl rfl⟩
theorem i_Gr_init_33 : iPutF M_Gr_init 33 4 4 (.array .int) := ⟨22, (by decide +kernel : decode prog_4_method_1_code 33 = .ok (.putfield 22, 3)), pf_Gr_Gr_chains, rfl⟩
theorem i_Gr_init_36 : iIns M_Gr_init 36 .return_ 1 := (by decide +kernel : decode prog_4_method_1_code 36 = .ok (.return_, 1))
theorem i_Gr_advance_0 : iIns M_Gr_advance 0 (.aload_n 0) 1 := (by decide +kernel : decode prog_4_method_2_code 0 = .ok (.aload_n 0, 1))
theorem i_Gr_advance_1 : iGet M_Gr_advance 1 4 0 := ⟨9, (by decide +kernel : decode prog_4_method_2_code 1 = .ok (.getfield 9, 3)), fl_Gr_Gr_counts⟩
theorem i_Gr_advance_4 : iIns M_Gr_advance 4 (.lconst 0) 1 := (by decide +kernel : decode prog_4_method_2_code 4 = .ok (.lconst 0, 1))
theorem i_Gr_advance_5 : iCallS M_Gr_advance 5 M_Ar_fillJ 2 := ⟨⟨25, (by decide +kernel : decode prog_4_method_2_code 5 = .ok (.invokestatic 25, 3)), lw_k4 53 rfl rfl⟩, sm_Ar_fillJ, me_Ar_fillJ, pn_Ar_fillJ⟩
theorem i_Gr_advance_8 : iIns M_Gr_advance 8 (.iconst 0) 1 := (by decide +kernel : decode prog_4_method_2_code 8 = .ok (.iconst 0, 1))
theorem i_Gr_advance_9 : iIns M_Gr_advance 9 (.istore 4) 2 := (by decide +kernel : decode prog_4_method_2_code 9 = .ok (.istore 4, 2))
theorem i_Gr_advance_11 : iIns M_Gr_advance 11 (.iload 4) 2 := (by decide +kernel : decode prog_4_method_2_code 11 = .ok (.iload 4, 2))
theorem i_Gr_advance_13 : iIns M_Gr_advance 13 (.aload_n 2) 1 := (by decide +kernel : decode prog_4_method_2_code 13 = .ok (.aload_n 2, 1))
theorem i_Gr_advance_14 : iGet M_Gr_advance 14 12 1 := ⟨31, (by decide +kernel : decode prog_4_method_2_code 14 = .ok (.getfield 31, 3)), fl_Gr_Wd_length⟩
theorem i_Gr_advance_17 : iIcmp M_Gr_advance 17 .ge 42 := ⟨25, (by decide +kernel : decode prog_4_method_2_code 17 = .ok (.if_icmp .ge (25), 3)), by decide⟩
theorem i_Gr_advance_20 : iIns M_Gr_advance 20 (.aload_n 0) 1 := (by decide +kernel : decode prog_4_method_2_code 20 = .ok (.aload_n 0, 1))
theorem i_Gr_advance_21 : iGet M_Gr_advance 21 4 0 := ⟨9, (by decide +kernel : decode prog_4_method_2_code 21 = .ok (.getfield 9, 3)), fl_Gr_Gr_counts⟩
theorem i_Gr_advance_24 : iIns M_Gr_advance 24 (.aload_n 2) 1 := (by decide +kernel : decode prog_4_method_2_code 24 = .ok (.aload_n 2, 1))
theorem i_Gr_advance_25 : iGet M_Gr_advance 25 12 0 := ⟨37, (by decide +kernel : decode prog_4_method_2_code 25 = .ok (.getfield 37, 3)), fl_Gr_Wd_letters⟩
theorem i_Gr_advance_28 : iIns M_Gr_advance 28 (.iload 4) 2 := (by decide +kernel : decode prog_4_method_2_code 28 = .ok (.iload 4, 2))
theorem i_Gr_advance_30 : iIns M_Gr_advance 30 .iaload 1 := (by decide +kernel : decode prog_4_method_2_code 30 = .ok (.iaload, 1))
theorem i_Gr_advance_31 : iIns M_Gr_advance 31 .dup2 1 := (by decide +kernel : decode prog_4_method_2_code 31 = .ok (.dup2, 1))
theorem i_Gr_advance_32 : iIns M_Gr_advance 32 .laload 1 := (by decide +kernel : decode prog_4_method_2_code 32 = .ok (.laload, 1))
theorem i_Gr_advance_33 : iIns M_Gr_advance 33 (.lconst 1) 1 := (by decide +kernel : decode prog_4_method_2_code 33 = .ok (.lconst 1, 1))
theorem i_Gr_advance_34 : iIns M_Gr_advance 34 .ladd 1 := (by decide +kernel : decode prog_4_method_2_code 34 = .ok (.ladd, 1))
theorem i_Gr_advance_35 : iIns M_Gr_advance 35 .lastore 1 := (by decide +kernel : decode prog_4_method_2_code 35 = .ok (.lastore, 1))
theorem i_Gr_advance_36 : iIns M_Gr_advance 36 (.iinc 4 (1)) 3 := (by decide +kernel : decode prog_4_method_2_code 36 = .ok (.iinc 4 (1), 3))
theorem i_Gr_advance_39 : iGoto M_Gr_advance 39 11 := ⟨-28, (by decide +kernel : decode prog_4_method_2_code 39 = .ok (.goto (-28), 3)), by decide⟩
theorem i_Gr_advance_42 : iIns M_Gr_advance 42 (.aload_n 0) 1 := (by decide +kernel : decode prog_4_method_2_code 42 = .ok (.aload_n 0, 1))
theorem i_Gr_advance_43 : iIns M_Gr_advance 43 (.aload_n 2) 1 := (by decide +kernel : decode prog_4_method_2_code 43 = .ok (.aload_n 2, 1))
theorem i_Gr_advance_44 : iGet M_Gr_advance 44 12 1 := ⟨31, (by decide +kernel : decode prog_4_method_2_code 44 = .ok (.getfield 31, 3)), fl_Gr_Wd_length⟩
theorem i_Gr_advance_47 : iIns M_Gr_advance 47 .i2l 1 := (by decide +kernel : decode prog_4_method_2_code 47 = .ok (.i2l, 1))
theorem i_Gr_advance_48 : iPutX M_Gr_advance 48 4 2 .long := ⟨40, (by decide +kernel : decode prog_4_method_2_code 48 = .ok (.putfield 40, 3)), px_Gr_Gr_total⟩
theorem i_Gr_advance_51 : iIns M_Gr_advance 51 (.iconst 0) 1 := (by decide +kernel : decode prog_4_method_2_code 51 = .ok (.iconst 0, 1))
theorem i_Gr_advance_52 : iIns M_Gr_advance 52 (.istore 4) 2 := (by decide +kernel : decode prog_4_method_2_code 52 = .ok (.istore 4, 2))
theorem i_Gr_advance_54 : iIns M_Gr_advance 54 (.iload 4) 2 := (by decide +kernel : decode prog_4_method_2_code 54 = .ok (.iload 4, 2))
theorem i_Gr_advance_56 : iIns M_Gr_advance 56 (.iload_n 3) 1 := (by decide +kernel : decode prog_4_method_2_code 56 = .ok (.iload_n 3, 1))
theorem i_Gr_advance_57 : iIcmp M_Gr_advance 57 .ge 76 := ⟨19, (by decide +kernel : decode prog_4_method_2_code 57 = .ok (.if_icmp .ge (19), 3)), by decide⟩
theorem i_Gr_advance_60 : iIns M_Gr_advance 60 (.aload_n 0) 1 := (by decide +kernel : decode prog_4_method_2_code 60 = .ok (.aload_n 0, 1))
theorem i_Gr_advance_61 : iIns M_Gr_advance 61 (.aload_n 1) 1 := (by decide +kernel : decode prog_4_method_2_code 61 = .ok (.aload_n 1, 1))
theorem i_Gr_advance_62 : iCallV M_Gr_advance 62 M_Gr_advanceOnce 1 4 := ⟨⟨44, (by decide +kernel : decode prog_4_method_2_code 62 = .ok (.invokevirtual 44, 3)), lw_k4 56 rfl rfl⟩, vm_Gr_advanceOnce, me_Gr_advanceOnce, pn_Gr_advanceOnce⟩
theorem i_Gr_advance_65 : iIf M_Gr_advance 65 .ne 70 := ⟨5, (by decide +kernel : decode prog_4_method_2_code 65 = .ok (.ifCond .ne (5), 3)), by decide⟩
theorem i_Gr_advance_68 : iIns M_Gr_advance 68 (.iconst 0) 1 := (by decide +kernel : decode prog_4_method_2_code 68 = .ok (.iconst 0, 1))
theorem i_Gr_advance_69 : iIns M_Gr_advance 69 .ireturn 1 := (by decide +kernel : decode prog_4_method_2_code 69 = .ok (.ireturn, 1))
theorem i_Gr_advance_70 : iIns M_Gr_advance 70 (.iinc 4 (1)) 3 := (by decide +kernel : decode prog_4_method_2_code 70 = .ok (.iinc 4 (1), 3))
theorem i_Gr_advance_73 : iGoto M_Gr_advance 73 54 := ⟨-19, (by decide +kernel : decode prog_4_method_2_code 73 = .ok (.goto (-19), 3)), by decide⟩
theorem i_Gr_advance_76 : iIns M_Gr_advance 76 (.iconst 1) 1 := (by decide +kernel : decode prog_4_method_2_code 76 = .ok (.iconst 1, 1))
theorem i_Gr_advance_77 : iIns M_Gr_advance 77 .ireturn 1 := (by decide +kernel : decode prog_4_method_2_code 77 = .ok (.ireturn, 1))
theorem i_Gr_advanceOnce_0 : iIns M_Gr_advanceOnce 0 (.aload_n 0) 1 := (by decide +kernel : decode prog_4_method_3_code 0 = .ok (.aload_n 0, 1))
theorem i_Gr_advanceOnce_1 : iGet M_Gr_advanceOnce 1 4 1 := ⟨15, (by decide +kernel : decode prog_4_method_3_code 1 = .ok (.getfield 15, 3)), fl_Gr_Gr_next⟩
theorem i_Gr_advanceOnce_4 : iIns M_Gr_advanceOnce 4 (.lconst 0) 1 := (by decide +kernel : decode prog_4_method_3_code 4 = .ok (.lconst 0, 1))
theorem i_Gr_advanceOnce_5 : iCallS M_Gr_advanceOnce 5 M_Ar_fillJ 2 := ⟨⟨25, (by decide +kernel : decode prog_4_method_3_code 5 = .ok (.invokestatic 25, 3)), lw_k4 53 rfl rfl⟩, sm_Ar_fillJ, me_Ar_fillJ, pn_Ar_fillJ⟩
theorem i_Gr_advanceOnce_8 : iIns M_Gr_advanceOnce 8 (.aload_n 0) 1 := (by decide +kernel : decode prog_4_method_3_code 8 = .ok (.aload_n 0, 1))
theorem i_Gr_advanceOnce_9 : iIns M_Gr_advanceOnce 9 (.lconst 0) 1 := (by decide +kernel : decode prog_4_method_3_code 9 = .ok (.lconst 0, 1))
theorem i_Gr_advanceOnce_10 : iPutX M_Gr_advanceOnce 10 4 2 .long := ⟨40, (by decide +kernel : decode prog_4_method_3_code 10 = .ok (.putfield 40, 3)), px_Gr_Gr_total⟩
theorem i_Gr_advanceOnce_13 : iIns M_Gr_advanceOnce 13 (.iconst 0) 1 := (by decide +kernel : decode prog_4_method_3_code 13 = .ok (.iconst 0, 1))
theorem i_Gr_advanceOnce_14 : iIns M_Gr_advanceOnce 14 (.istore_n 2) 1 := (by decide +kernel : decode prog_4_method_3_code 14 = .ok (.istore_n 2, 1))
theorem i_Gr_advanceOnce_15 : iIns M_Gr_advanceOnce 15 (.iload_n 2) 1 := (by decide +kernel : decode prog_4_method_3_code 15 = .ok (.iload_n 2, 1))
theorem i_Gr_advanceOnce_16 : iIns M_Gr_advanceOnce 16 (.bipush 6) 2 := (by decide +kernel : decode prog_4_method_3_code 16 = .ok (.bipush 6, 2))
theorem i_Gr_advanceOnce_18 : iIcmp M_Gr_advanceOnce 18 .ge 109 := ⟨91, (by decide +kernel : decode prog_4_method_3_code 18 = .ok (.if_icmp .ge (91), 3)), by decide⟩
theorem i_Gr_advanceOnce_21 : iIns M_Gr_advanceOnce 21 (.iload_n 2) 1 := (by decide +kernel : decode prog_4_method_3_code 21 = .ok (.iload_n 2, 1))
theorem i_Gr_advanceOnce_22 : iIns M_Gr_advanceOnce 22 (.iconst 0) 1 := (by decide +kernel : decode prog_4_method_3_code 22 = .ok (.iconst 0, 1))
theorem i_Gr_advanceOnce_23 : iCallS M_Gr_advanceOnce 23 M_Tb_listSlot 2 := ⟨⟨48, (by decide +kernel : decode prog_4_method_3_code 23 = .ok (.invokestatic 48, 3)), lw_k4 60 rfl rfl⟩, sm_Tb_listSlot, me_Tb_listSlot, pn_Tb_listSlot⟩
theorem i_Gr_advanceOnce_26 : iIns M_Gr_advanceOnce 26 (.istore_n 3) 1 := (by decide +kernel : decode prog_4_method_3_code 26 = .ok (.istore_n 3, 1))
theorem i_Gr_advanceOnce_27 : iIns M_Gr_advanceOnce 27 (.iconst 0) 1 := (by decide +kernel : decode prog_4_method_3_code 27 = .ok (.iconst 0, 1))
theorem i_Gr_advanceOnce_28 : iIns M_Gr_advanceOnce 28 (.istore 4) 2 := (by decide +kernel : decode prog_4_method_3_code 28 = .ok (.istore 4, 2))
theorem i_Gr_advanceOnce_30 : iIns M_Gr_advanceOnce 30 (.iload 4) 2 := (by decide +kernel : decode prog_4_method_3_code 30 = .ok (.iload 4, 2))
theorem i_Gr_advanceOnce_32 : iIns M_Gr_advanceOnce 32 (.aload_n 1) 1 := (by decide +kernel : decode prog_4_method_3_code 32 = .ok (.aload_n 1, 1))
theorem i_Gr_advanceOnce_33 : iGet M_Gr_advanceOnce 33 9 1 := ⟨54, (by decide +kernel : decode prog_4_method_3_code 33 = .ok (.getfield 54, 3)), fl_Gr_Tb_lengths⟩
theorem i_Gr_advanceOnce_36 : iIns M_Gr_advanceOnce 36 (.iload_n 3) 1 := (by decide +kernel : decode prog_4_method_3_code 36 = .ok (.iload_n 3, 1))
theorem i_Gr_advanceOnce_37 : iIns M_Gr_advanceOnce 37 .iaload 1 := (by decide +kernel : decode prog_4_method_3_code 37 = .ok (.iaload, 1))
theorem i_Gr_advanceOnce_38 : iIcmp M_Gr_advanceOnce 38 .ge 103 := ⟨65, (by decide +kernel : decode prog_4_method_3_code 38 = .ok (.if_icmp .ge (65), 3)), by decide⟩
theorem i_Gr_advanceOnce_41 : iIns M_Gr_advanceOnce 41 (.aload_n 0) 1 := (by decide +kernel : decode prog_4_method_3_code 41 = .ok (.aload_n 0, 1))
theorem i_Gr_advanceOnce_42 : iGet M_Gr_advanceOnce 42 4 0 := ⟨9, (by decide +kernel : decode prog_4_method_3_code 42 = .ok (.getfield 9, 3)), fl_Gr_Gr_counts⟩
theorem i_Gr_advanceOnce_45 : iIns M_Gr_advanceOnce 45 (.iload_n 2) 1 := (by decide +kernel : decode prog_4_method_3_code 45 = .ok (.iload_n 2, 1))
theorem i_Gr_advanceOnce_46 : iIns M_Gr_advanceOnce 46 .laload 1 := (by decide +kernel : decode prog_4_method_3_code 46 = .ok (.laload, 1))
theorem i_Gr_advanceOnce_47 : iLdcL M_Gr_advanceOnce 47 (9223372036854775807) := ⟨59, (by decide +kernel : decode prog_4_method_3_code 47 = .ok (.ldc2_w 59, 3)), lw_k4 61 rfl rfl⟩
theorem i_Gr_advanceOnce_50 : iIns M_Gr_advanceOnce 50 (.aload_n 0) 1 := (by decide +kernel : decode prog_4_method_3_code 50 = .ok (.aload_n 0, 1))
theorem i_Gr_advanceOnce_51 : iGet M_Gr_advanceOnce 51 4 2 := ⟨40, (by decide +kernel : decode prog_4_method_3_code 51 = .ok (.getfield 40, 3)), fl_Gr_Gr_total⟩
theorem i_Gr_advanceOnce_54 : iIns M_Gr_advanceOnce 54 .lsub 1 := (by decide +kernel : decode prog_4_method_3_code 54 = .ok (.lsub, 1))
theorem i_Gr_advanceOnce_55 : iIns M_Gr_advanceOnce 55 .lcmp 1 := (by decide +kernel : decode prog_4_method_3_code 55 = .ok (.lcmp, 1))
theorem i_Gr_advanceOnce_56 : iIf M_Gr_advanceOnce 56 .le 61 := ⟨5, (by decide +kernel : decode prog_4_method_3_code 56 = .ok (.ifCond .le (5), 3)), by decide⟩
theorem i_Gr_advanceOnce_59 : iIns M_Gr_advanceOnce 59 (.iconst 0) 1 := (by decide +kernel : decode prog_4_method_3_code 59 = .ok (.iconst 0, 1))
theorem i_Gr_advanceOnce_60 : iIns M_Gr_advanceOnce 60 .ireturn 1 := (by decide +kernel : decode prog_4_method_3_code 60 = .ok (.ireturn, 1))
theorem i_Gr_advanceOnce_61 : iIns M_Gr_advanceOnce 61 (.aload_n 0) 1 := (by decide +kernel : decode prog_4_method_3_code 61 = .ok (.aload_n 0, 1))
theorem i_Gr_advanceOnce_62 : iIns M_Gr_advanceOnce 62 .dup 1 := (by decide +kernel : decode prog_4_method_3_code 62 = .ok (.dup, 1))
theorem i_Gr_advanceOnce_63 : iGet M_Gr_advanceOnce 63 4 2 := ⟨40, (by decide +kernel : decode prog_4_method_3_code 63 = .ok (.getfield 40, 3)), fl_Gr_Gr_total⟩
theorem i_Gr_advanceOnce_66 : iIns M_Gr_advanceOnce 66 (.aload_n 0) 1 := (by decide +kernel : decode prog_4_method_3_code 66 = .ok (.aload_n 0, 1))
theorem i_Gr_advanceOnce_67 : iGet M_Gr_advanceOnce 67 4 0 := ⟨9, (by decide +kernel : decode prog_4_method_3_code 67 = .ok (.getfield 9, 3)), fl_Gr_Gr_counts⟩
theorem i_Gr_advanceOnce_70 : iIns M_Gr_advanceOnce 70 (.iload_n 2) 1 := (by decide +kernel : decode prog_4_method_3_code 70 = .ok (.iload_n 2, 1))
theorem i_Gr_advanceOnce_71 : iIns M_Gr_advanceOnce 71 .laload 1 := (by decide +kernel : decode prog_4_method_3_code 71 = .ok (.laload, 1))
theorem i_Gr_advanceOnce_72 : iIns M_Gr_advanceOnce 72 .ladd 1 := (by decide +kernel : decode prog_4_method_3_code 72 = .ok (.ladd, 1))
theorem i_Gr_advanceOnce_73 : iPutX M_Gr_advanceOnce 73 4 2 .long := ⟨40, (by decide +kernel : decode prog_4_method_3_code 73 = .ok (.putfield 40, 3)), px_Gr_Gr_total⟩
theorem i_Gr_advanceOnce_76 : iIns M_Gr_advanceOnce 76 (.aload_n 0) 1 := (by decide +kernel : decode prog_4_method_3_code 76 = .ok (.aload_n 0, 1))
theorem i_Gr_advanceOnce_77 : iGet M_Gr_advanceOnce 77 4 1 := ⟨15, (by decide +kernel : decode prog_4_method_3_code 77 = .ok (.getfield 15, 3)), fl_Gr_Gr_next⟩
theorem i_Gr_advanceOnce_80 : iIns M_Gr_advanceOnce 80 (.aload_n 1) 1 := (by decide +kernel : decode prog_4_method_3_code 80 = .ok (.aload_n 1, 1))
theorem i_Gr_advanceOnce_81 : iIns M_Gr_advanceOnce 81 (.iload_n 3) 1 := (by decide +kernel : decode prog_4_method_3_code 81 = .ok (.iload_n 3, 1))
theorem i_Gr_advanceOnce_82 : iIns M_Gr_advanceOnce 82 (.iload 4) 2 := (by decide +kernel : decode prog_4_method_3_code 82 = .ok (.iload 4, 2))
theorem i_Gr_advanceOnce_84 : iCallV M_Gr_advanceOnce 84 M_Tb_letterOf 2 9 := ⟨⟨61, (by decide +kernel : decode prog_4_method_3_code 84 = .ok (.invokevirtual 61, 3)), lw_k4 62 rfl rfl⟩, vm_Tb_letterOf, me_Tb_letterOf, pn_Tb_letterOf⟩
theorem i_Gr_advanceOnce_87 : iIns M_Gr_advanceOnce 87 .dup2 1 := (by decide +kernel : decode prog_4_method_3_code 87 = .ok (.dup2, 1))
theorem i_Gr_advanceOnce_88 : iIns M_Gr_advanceOnce 88 .laload 1 := (by decide +kernel : decode prog_4_method_3_code 88 = .ok (.laload, 1))
theorem i_Gr_advanceOnce_89 : iIns M_Gr_advanceOnce 89 (.aload_n 0) 1 := (by decide +kernel : decode prog_4_method_3_code 89 = .ok (.aload_n 0, 1))
theorem i_Gr_advanceOnce_90 : iGet M_Gr_advanceOnce 90 4 0 := ⟨9, (by decide +kernel : decode prog_4_method_3_code 90 = .ok (.getfield 9, 3)), fl_Gr_Gr_counts⟩
theorem i_Gr_advanceOnce_93 : iIns M_Gr_advanceOnce 93 (.iload_n 2) 1 := (by decide +kernel : decode prog_4_method_3_code 93 = .ok (.iload_n 2, 1))
theorem i_Gr_advanceOnce_94 : iIns M_Gr_advanceOnce 94 .laload 1 := (by decide +kernel : decode prog_4_method_3_code 94 = .ok (.laload, 1))
theorem i_Gr_advanceOnce_95 : iIns M_Gr_advanceOnce 95 .ladd 1 := (by decide +kernel : decode prog_4_method_3_code 95 = .ok (.ladd, 1))
theorem i_Gr_advanceOnce_96 : iIns M_Gr_advanceOnce 96 .lastore 1 := (by decide +kernel : decode prog_4_method_3_code 96 = .ok (.lastore, 1))
theorem i_Gr_advanceOnce_97 : iIns M_Gr_advanceOnce 97 (.iinc 4 (1)) 3 := (by decide +kernel : decode prog_4_method_3_code 97 = .ok (.iinc 4 (1), 3))
theorem i_Gr_advanceOnce_100 : iGoto M_Gr_advanceOnce 100 30 := ⟨-70, (by decide +kernel : decode prog_4_method_3_code 100 = .ok (.goto (-70), 3)), by decide⟩
theorem i_Gr_advanceOnce_103 : iIns M_Gr_advanceOnce 103 (.iinc 2 (1)) 3 := (by decide +kernel : decode prog_4_method_3_code 103 = .ok (.iinc 2 (1), 3))
theorem i_Gr_advanceOnce_106 : iGoto M_Gr_advanceOnce 106 15 := ⟨-91, (by decide +kernel : decode prog_4_method_3_code 106 = .ok (.goto (-91), 3)), by decide⟩
theorem i_Gr_advanceOnce_109 : iIns M_Gr_advanceOnce 109 (.aload_n 0) 1 := (by decide +kernel : decode prog_4_method_3_code 109 = .ok (.aload_n 0, 1))
theorem i_Gr_advanceOnce_110 : iGet M_Gr_advanceOnce 110 4 0 := ⟨9, (by decide +kernel : decode prog_4_method_3_code 110 = .ok (.getfield 9, 3)), fl_Gr_Gr_counts⟩
theorem i_Gr_advanceOnce_113 : iIns M_Gr_advanceOnce 113 (.astore_n 2) 1 := (by decide +kernel : decode prog_4_method_3_code 113 = .ok (.astore_n 2, 1))
theorem i_Gr_advanceOnce_114 : iIns M_Gr_advanceOnce 114 (.aload_n 0) 1 := (by decide +kernel : decode prog_4_method_3_code 114 = .ok (.aload_n 0, 1))
theorem i_Gr_advanceOnce_115 : iIns M_Gr_advanceOnce 115 (.aload_n 0) 1 := (by decide +kernel : decode prog_4_method_3_code 115 = .ok (.aload_n 0, 1))
theorem i_Gr_advanceOnce_116 : iGet M_Gr_advanceOnce 116 4 1 := ⟨15, (by decide +kernel : decode prog_4_method_3_code 116 = .ok (.getfield 15, 3)), fl_Gr_Gr_next⟩
theorem i_Gr_advanceOnce_119 : iPutX M_Gr_advanceOnce 119 4 0 (.array .long) := ⟨9, (by decide +kernel : decode prog_4_method_3_code 119 = .ok (.putfield 9, 3)), px_Gr_Gr_counts⟩
theorem i_Gr_advanceOnce_122 : iIns M_Gr_advanceOnce 122 (.aload_n 0) 1 := (by decide +kernel : decode prog_4_method_3_code 122 = .ok (.aload_n 0, 1))
theorem i_Gr_advanceOnce_123 : iIns M_Gr_advanceOnce 123 (.aload_n 2) 1 := (by decide +kernel : decode prog_4_method_3_code 123 = .ok (.aload_n 2, 1))
theorem i_Gr_advanceOnce_124 : iPutX M_Gr_advanceOnce 124 4 1 (.array .long) := ⟨15, (by decide +kernel : decode prog_4_method_3_code 124 = .ok (.putfield 15, 3)), px_Gr_Gr_next⟩
theorem i_Gr_advanceOnce_127 : iIns M_Gr_advanceOnce 127 (.iconst 1) 1 := (by decide +kernel : decode prog_4_method_3_code 127 = .ok (.iconst 1, 1))
theorem i_Gr_advanceOnce_128 : iIns M_Gr_advanceOnce 128 .ireturn 1 := (by decide +kernel : decode prog_4_method_3_code 128 = .ok (.ireturn, 1))
theorem i_Gr_longestChain_0 : iIns M_Gr_longestChain 0 (.aload_n 0) 1 := (by decide +kernel : decode prog_4_method_4_code 0 = .ok (.aload_n 0, 1))
theorem i_Gr_longestChain_1 : iIns M_Gr_longestChain 1 (.aload_n 1) 1 := (by decide +kernel : decode prog_4_method_4_code 1 = .ok (.aload_n 1, 1))
theorem i_Gr_longestChain_2 : iCallV M_Gr_longestChain 2 M_Gr_findReach 1 4 := ⟨⟨64, (by decide +kernel : decode prog_4_method_4_code 2 = .ok (.invokevirtual 64, 3)), lw_k4 84 rfl rfl⟩, vm_Gr_findReach, me_Gr_findReach, pn_Gr_findReach⟩
theorem i_Gr_longestChain_5 : iIns M_Gr_longestChain 5 (.aload_n 0) 1 := (by decide +kernel : decode prog_4_method_4_code 5 = .ok (.aload_n 0, 1))
theorem i_Gr_longestChain_6 : iCallV M_Gr_longestChain 6 M_Gr_findChains 0 4 := ⟨⟨68, (by decide +kernel : decode prog_4_method_4_code 6 = .ok (.invokevirtual 68, 3)), lw_k4 91 rfl rfl⟩, vm_Gr_findChains, me_Gr_findChains, pn_Gr_findChains⟩
theorem i_Gr_longestChain_9 : iIns M_Gr_longestChain 9 (.aload_n 0) 1 := (by decide +kernel : decode prog_4_method_4_code 9 = .ok (.aload_n 0, 1))
theorem i_Gr_longestChain_10 : iIns M_Gr_longestChain 10 (.aload_n 2) 1 := (by decide +kernel : decode prog_4_method_4_code 10 = .ok (.aload_n 2, 1))
theorem i_Gr_longestChain_11 : iCallV M_Gr_longestChain 11 M_Gr_lettersReached 1 4 := ⟨⟨71, (by decide +kernel : decode prog_4_method_4_code 11 = .ok (.invokevirtual 71, 3)), lw_k4 102 rfl rfl⟩, vm_Gr_lettersReached, me_Gr_lettersReached, pn_Gr_lettersReached⟩
theorem i_Gr_longestChain_14 : iIns M_Gr_longestChain 14 (.istore_n 3) 1 := (by decide +kernel : decode prog_4_method_4_code 14 = .ok (.istore_n 3, 1))
theorem i_Gr_longestChain_15 : iIns M_Gr_longestChain 15 (.iconst 0) 1 := (by decide +kernel : decode prog_4_method_4_code 15 = .ok (.iconst 0, 1))
theorem i_Gr_longestChain_16 : iIns M_Gr_longestChain 16 (.istore 4) 2 := (by decide +kernel : decode prog_4_method_4_code 16 = .ok (.istore 4, 2))
theorem i_Gr_longestChain_18 : iIns M_Gr_longestChain 18 (.iconst 0) 1 := (by decide +kernel : decode prog_4_method_4_code 18 = .ok (.iconst 0, 1))
theorem i_Gr_longestChain_19 : iIns M_Gr_longestChain 19 (.istore 5) 2 := (by decide +kernel : decode prog_4_method_4_code 19 = .ok (.istore 5, 2))
theorem i_Gr_longestChain_21 : iIns M_Gr_longestChain 21 (.iload 5) 2 := (by decide +kernel : decode prog_4_method_4_code 21 = .ok (.iload 5, 2))
theorem i_Gr_longestChain_23 : iIns M_Gr_longestChain 23 (.bipush 6) 2 := (by decide +kernel : decode prog_4_method_4_code 23 = .ok (.bipush 6, 2))
theorem i_Gr_longestChain_25 : iIcmp M_Gr_longestChain 25 .ge 70 := ⟨45, (by decide +kernel : decode prog_4_method_4_code 25 = .ok (.if_icmp .ge (45), 3)), by decide⟩
theorem i_Gr_longestChain_28 : iIns M_Gr_longestChain 28 (.iload_n 3) 1 := (by decide +kernel : decode prog_4_method_4_code 28 = .ok (.iload_n 3, 1))
theorem i_Gr_longestChain_29 : iIns M_Gr_longestChain 29 (.iload 5) 2 := (by decide +kernel : decode prog_4_method_4_code 29 = .ok (.iload 5, 2))
theorem i_Gr_longestChain_31 : iCallS M_Gr_longestChain 31 M_Gr_contains 2 := ⟨⟨75, (by decide +kernel : decode prog_4_method_4_code 31 = .ok (.invokestatic 75, 3)), lw_k4 88 rfl rfl⟩, sm_Gr_contains, me_Gr_contains, pn_Gr_contains⟩
theorem i_Gr_longestChain_34 : iIf M_Gr_longestChain 34 .eq 64 := ⟨30, (by decide +kernel : decode prog_4_method_4_code 34 = .ok (.ifCond .eq (30), 3)), by decide⟩
theorem i_Gr_longestChain_37 : iIns M_Gr_longestChain 37 (.aload_n 0) 1 := (by decide +kernel : decode prog_4_method_4_code 37 = .ok (.aload_n 0, 1))
theorem i_Gr_longestChain_38 : iIns M_Gr_longestChain 38 (.iload 5) 2 := (by decide +kernel : decode prog_4_method_4_code 38 = .ok (.iload 5, 2))
theorem i_Gr_longestChain_40 : iIns M_Gr_longestChain 40 (.aload_n 1) 1 := (by decide +kernel : decode prog_4_method_4_code 40 = .ok (.aload_n 1, 1))
theorem i_Gr_longestChain_41 : iCallV M_Gr_longestChain 41 M_Gr_returnsTo 2 4 := ⟨⟨79, (by decide +kernel : decode prog_4_method_4_code 41 = .ok (.invokevirtual 79, 3)), lw_k4 106 rfl rfl⟩, vm_Gr_returnsTo, me_Gr_returnsTo, pn_Gr_returnsTo⟩
theorem i_Gr_longestChain_44 : iIns M_Gr_longestChain 44 (.iconst 1) 1 := (by decide +kernel : decode prog_4_method_4_code 44 = .ok (.iconst 1, 1))
theorem i_Gr_longestChain_45 : iIcmp M_Gr_longestChain 45 .le 50 := ⟨5, (by decide +kernel : decode prog_4_method_4_code 45 = .ok (.if_icmp .le (5), 3)), by decide⟩
theorem i_Gr_longestChain_48 : iIns M_Gr_longestChain 48 (.iconst (-1)) 1 := (by decide +kernel : decode prog_4_method_4_code 48 = .ok (.iconst (-1), 1))
theorem i_Gr_longestChain_49 : iIns M_Gr_longestChain 49 .ireturn 1 := (by decide +kernel : decode prog_4_method_4_code 49 = .ok (.ireturn, 1))
theorem i_Gr_longestChain_50 : iIns M_Gr_longestChain 50 (.iload 4) 2 := (by decide +kernel : decode prog_4_method_4_code 50 = .ok (.iload 4, 2))
theorem i_Gr_longestChain_52 : iIns M_Gr_longestChain 52 (.aload_n 0) 1 := (by decide +kernel : decode prog_4_method_4_code 52 = .ok (.aload_n 0, 1))
theorem i_Gr_longestChain_53 : iGet M_Gr_longestChain 53 4 4 := ⟨22, (by decide +kernel : decode prog_4_method_4_code 53 = .ok (.getfield 22, 3)), fl_Gr_Gr_chains⟩
theorem i_Gr_longestChain_56 : iIns M_Gr_longestChain 56 (.iload 5) 2 := (by decide +kernel : decode prog_4_method_4_code 56 = .ok (.iload 5, 2))
theorem i_Gr_longestChain_58 : iIns M_Gr_longestChain 58 .iaload 1 := (by decide +kernel : decode prog_4_method_4_code 58 = .ok (.iaload, 1))
theorem i_Gr_longestChain_59 : iCallS M_Gr_longestChain 59 M_Ma_maxI 2 := ⟨⟨83, (by decide +kernel : decode prog_4_method_4_code 59 = .ok (.invokestatic 83, 3)), lw_k4 99 rfl rfl⟩, sm_Ma_maxI, me_Ma_maxI, pn_Ma_maxI⟩
theorem i_Gr_longestChain_62 : iIns M_Gr_longestChain 62 (.istore 4) 2 := (by decide +kernel : decode prog_4_method_4_code 62 = .ok (.istore 4, 2))
theorem i_Gr_longestChain_64 : iIns M_Gr_longestChain 64 (.iinc 5 (1)) 3 := (by decide +kernel : decode prog_4_method_4_code 64 = .ok (.iinc 5 (1), 3))
theorem i_Gr_longestChain_67 : iGoto M_Gr_longestChain 67 21 := ⟨-46, (by decide +kernel : decode prog_4_method_4_code 67 = .ok (.goto (-46), 3)), by decide⟩
theorem i_Gr_longestChain_70 : iIns M_Gr_longestChain 70 (.iload 4) 2 := (by decide +kernel : decode prog_4_method_4_code 70 = .ok (.iload 4, 2))
theorem i_Gr_longestChain_72 : iIns M_Gr_longestChain 72 .ireturn 1 := (by decide +kernel : decode prog_4_method_4_code 72 = .ok (.ireturn, 1))
theorem i_Gr_findReach_0 : iIns M_Gr_findReach 0 (.iconst 0) 1 := (by decide +kernel : decode prog_4_method_6_code 0 = .ok (.iconst 0, 1))
theorem i_Gr_findReach_1 : iIns M_Gr_findReach 1 (.istore_n 2) 1 := (by decide +kernel : decode prog_4_method_6_code 1 = .ok (.istore_n 2, 1))
theorem i_Gr_findReach_2 : iIns M_Gr_findReach 2 (.iload_n 2) 1 := (by decide +kernel : decode prog_4_method_6_code 2 = .ok (.iload_n 2, 1))
theorem i_Gr_findReach_3 : iIns M_Gr_findReach 3 (.bipush 6) 2 := (by decide +kernel : decode prog_4_method_6_code 3 = .ok (.bipush 6, 2))
theorem i_Gr_findReach_5 : iIcmp M_Gr_findReach 5 .ge 65 := ⟨60, (by decide +kernel : decode prog_4_method_6_code 5 = .ok (.if_icmp .ge (60), 3)), by decide⟩
theorem i_Gr_findReach_8 : iIns M_Gr_findReach 8 (.iload_n 2) 1 := (by decide +kernel : decode prog_4_method_6_code 8 = .ok (.iload_n 2, 1))
theorem i_Gr_findReach_9 : iIns M_Gr_findReach 9 (.iconst 0) 1 := (by decide +kernel : decode prog_4_method_6_code 9 = .ok (.iconst 0, 1))
theorem i_Gr_findReach_10 : iCallS M_Gr_findReach 10 M_Tb_listSlot 2 := ⟨⟨48, (by decide +kernel : decode prog_4_method_6_code 10 = .ok (.invokestatic 48, 3)), lw_k4 60 rfl rfl⟩, sm_Tb_listSlot, me_Tb_listSlot, pn_Tb_listSlot⟩
theorem i_Gr_findReach_13 : iIns M_Gr_findReach 13 (.istore_n 3) 1 := (by decide +kernel : decode prog_4_method_6_code 13 = .ok (.istore_n 3, 1))
theorem i_Gr_findReach_14 : iIns M_Gr_findReach 14 (.aload_n 0) 1 := (by decide +kernel : decode prog_4_method_6_code 14 = .ok (.aload_n 0, 1))
theorem i_Gr_findReach_15 : iGet M_Gr_findReach 15 4 3 := ⟨18, (by decide +kernel : decode prog_4_method_6_code 15 = .ok (.getfield 18, 3)), fl_Gr_Gr_reach⟩
theorem i_Gr_findReach_18 : iIns M_Gr_findReach 18 (.iload_n 2) 1 := (by decide +kernel : decode prog_4_method_6_code 18 = .ok (.iload_n 2, 1))
theorem i_Gr_findReach_19 : iIns M_Gr_findReach 19 (.iconst 0) 1 := (by decide +kernel : decode prog_4_method_6_code 19 = .ok (.iconst 0, 1))
theorem i_Gr_findReach_20 : iIns M_Gr_findReach 20 .iastore 1 := (by decide +kernel : decode prog_4_method_6_code 20 = .ok (.iastore, 1))
theorem i_Gr_findReach_21 : iIns M_Gr_findReach 21 (.iconst 0) 1 := (by decide +kernel : decode prog_4_method_6_code 21 = .ok (.iconst 0, 1))
theorem i_Gr_findReach_22 : iIns M_Gr_findReach 22 (.istore 4) 2 := (by decide +kernel : decode prog_4_method_6_code 22 = .ok (.istore 4, 2))
theorem i_Gr_findReach_24 : iIns M_Gr_findReach 24 (.iload 4) 2 := (by decide +kernel : decode prog_4_method_6_code 24 = .ok (.iload 4, 2))
theorem i_Gr_findReach_26 : iIns M_Gr_findReach 26 (.aload_n 1) 1 := (by decide +kernel : decode prog_4_method_6_code 26 = .ok (.aload_n 1, 1))
theorem i_Gr_findReach_27 : iGet M_Gr_findReach 27 9 1 := ⟨54, (by decide +kernel : decode prog_4_method_6_code 27 = .ok (.getfield 54, 3)), fl_Gr_Tb_lengths⟩
theorem i_Gr_findReach_30 : iIns M_Gr_findReach 30 (.iload_n 3) 1 := (by decide +kernel : decode prog_4_method_6_code 30 = .ok (.iload_n 3, 1))
theorem i_Gr_findReach_31 : iIns M_Gr_findReach 31 .iaload 1 := (by decide +kernel : decode prog_4_method_6_code 31 = .ok (.iaload, 1))
theorem i_Gr_findReach_32 : iIcmp M_Gr_findReach 32 .ge 59 := ⟨27, (by decide +kernel : decode prog_4_method_6_code 32 = .ok (.if_icmp .ge (27), 3)), by decide⟩
theorem i_Gr_findReach_35 : iIns M_Gr_findReach 35 (.aload_n 0) 1 := (by decide +kernel : decode prog_4_method_6_code 35 = .ok (.aload_n 0, 1))
theorem i_Gr_findReach_36 : iGet M_Gr_findReach 36 4 3 := ⟨18, (by decide +kernel : decode prog_4_method_6_code 36 = .ok (.getfield 18, 3)), fl_Gr_Gr_reach⟩
theorem i_Gr_findReach_39 : iIns M_Gr_findReach 39 (.iload_n 2) 1 := (by decide +kernel : decode prog_4_method_6_code 39 = .ok (.iload_n 2, 1))
theorem i_Gr_findReach_40 : iIns M_Gr_findReach 40 .dup2 1 := (by decide +kernel : decode prog_4_method_6_code 40 = .ok (.dup2, 1))
theorem i_Gr_findReach_41 : iIns M_Gr_findReach 41 .iaload 1 := (by decide +kernel : decode prog_4_method_6_code 41 = .ok (.iaload, 1))
theorem i_Gr_findReach_42 : iIns M_Gr_findReach 42 (.iconst 1) 1 := (by decide +kernel : decode prog_4_method_6_code 42 = .ok (.iconst 1, 1))
theorem i_Gr_findReach_43 : iIns M_Gr_findReach 43 (.aload_n 1) 1 := (by decide +kernel : decode prog_4_method_6_code 43 = .ok (.aload_n 1, 1))
theorem i_Gr_findReach_44 : iIns M_Gr_findReach 44 (.iload_n 3) 1 := (by decide +kernel : decode prog_4_method_6_code 44 = .ok (.iload_n 3, 1))
theorem i_Gr_findReach_45 : iIns M_Gr_findReach 45 (.iload 4) 2 := (by decide +kernel : decode prog_4_method_6_code 45 = .ok (.iload 4, 2))
theorem i_Gr_findReach_47 : iCallV M_Gr_findReach 47 M_Tb_letterOf 2 9 := ⟨⟨61, (by decide +kernel : decode prog_4_method_6_code 47 = .ok (.invokevirtual 61, 3)), lw_k4 62 rfl rfl⟩, vm_Tb_letterOf, me_Tb_letterOf, pn_Tb_letterOf⟩
theorem i_Gr_findReach_50 : iIns M_Gr_findReach 50 .ishl 1 := (by decide +kernel : decode prog_4_method_6_code 50 = .ok (.ishl, 1))
theorem i_Gr_findReach_51 : iIns M_Gr_findReach 51 .ior 1 := (by decide +kernel : decode prog_4_method_6_code 51 = .ok (.ior, 1))
theorem i_Gr_findReach_52 : iIns M_Gr_findReach 52 .iastore 1 := (by decide +kernel : decode prog_4_method_6_code 52 = .ok (.iastore, 1))
theorem i_Gr_findReach_53 : iIns M_Gr_findReach 53 (.iinc 4 (1)) 3 := (by decide +kernel : decode prog_4_method_6_code 53 = .ok (.iinc 4 (1), 3))
theorem i_Gr_findReach_56 : iGoto M_Gr_findReach 56 24 := ⟨-32, (by decide +kernel : decode prog_4_method_6_code 56 = .ok (.goto (-32), 3)), by decide⟩
theorem i_Gr_findReach_59 : iIns M_Gr_findReach 59 (.iinc 2 (1)) 3 := (by decide +kernel : decode prog_4_method_6_code 59 = .ok (.iinc 2 (1), 3))
theorem i_Gr_findReach_62 : iGoto M_Gr_findReach 62 2 := ⟨-60, (by decide +kernel : decode prog_4_method_6_code 62 = .ok (.goto (-60), 3)), by decide⟩
theorem i_Gr_findReach_65 : iIns M_Gr_findReach 65 (.iconst 0) 1 := (by decide +kernel : decode prog_4_method_6_code 65 = .ok (.iconst 0, 1))
theorem i_Gr_findReach_66 : iIns M_Gr_findReach 66 (.istore_n 2) 1 := (by decide +kernel : decode prog_4_method_6_code 66 = .ok (.istore_n 2, 1))
theorem i_Gr_findReach_67 : iIns M_Gr_findReach 67 (.iload_n 2) 1 := (by decide +kernel : decode prog_4_method_6_code 67 = .ok (.iload_n 2, 1))
theorem i_Gr_findReach_68 : iIns M_Gr_findReach 68 (.bipush 6) 2 := (by decide +kernel : decode prog_4_method_6_code 68 = .ok (.bipush 6, 2))
theorem i_Gr_findReach_70 : iIcmp M_Gr_findReach 70 .ge 121 := ⟨51, (by decide +kernel : decode prog_4_method_6_code 70 = .ok (.if_icmp .ge (51), 3)), by decide⟩
theorem i_Gr_findReach_73 : iIns M_Gr_findReach 73 (.iconst 0) 1 := (by decide +kernel : decode prog_4_method_6_code 73 = .ok (.iconst 0, 1))
theorem i_Gr_findReach_74 : iIns M_Gr_findReach 74 (.istore_n 3) 1 := (by decide +kernel : decode prog_4_method_6_code 74 = .ok (.istore_n 3, 1))
theorem i_Gr_findReach_75 : iIns M_Gr_findReach 75 (.iload_n 3) 1 := (by decide +kernel : decode prog_4_method_6_code 75 = .ok (.iload_n 3, 1))
theorem i_Gr_findReach_76 : iIns M_Gr_findReach 76 (.bipush 6) 2 := (by decide +kernel : decode prog_4_method_6_code 76 = .ok (.bipush 6, 2))
theorem i_Gr_findReach_78 : iIcmp M_Gr_findReach 78 .ge 115 := ⟨37, (by decide +kernel : decode prog_4_method_6_code 78 = .ok (.if_icmp .ge (37), 3)), by decide⟩
theorem i_Gr_findReach_81 : iIns M_Gr_findReach 81 (.aload_n 0) 1 := (by decide +kernel : decode prog_4_method_6_code 81 = .ok (.aload_n 0, 1))
theorem i_Gr_findReach_82 : iGet M_Gr_findReach 82 4 3 := ⟨18, (by decide +kernel : decode prog_4_method_6_code 82 = .ok (.getfield 18, 3)), fl_Gr_Gr_reach⟩
theorem i_Gr_findReach_85 : iIns M_Gr_findReach 85 (.iload_n 3) 1 := (by decide +kernel : decode prog_4_method_6_code 85 = .ok (.iload_n 3, 1))
theorem i_Gr_findReach_86 : iIns M_Gr_findReach 86 .iaload 1 := (by decide +kernel : decode prog_4_method_6_code 86 = .ok (.iaload, 1))
theorem i_Gr_findReach_87 : iIns M_Gr_findReach 87 (.iload_n 2) 1 := (by decide +kernel : decode prog_4_method_6_code 87 = .ok (.iload_n 2, 1))
theorem i_Gr_findReach_88 : iCallS M_Gr_findReach 88 M_Gr_contains 2 := ⟨⟨75, (by decide +kernel : decode prog_4_method_6_code 88 = .ok (.invokestatic 75, 3)), lw_k4 88 rfl rfl⟩, sm_Gr_contains, me_Gr_contains, pn_Gr_contains⟩
theorem i_Gr_findReach_91 : iIf M_Gr_findReach 91 .eq 109 := ⟨18, (by decide +kernel : decode prog_4_method_6_code 91 = .ok (.ifCond .eq (18), 3)), by decide⟩
theorem i_Gr_findReach_94 : iIns M_Gr_findReach 94 (.aload_n 0) 1 := (by decide +kernel : decode prog_4_method_6_code 94 = .ok (.aload_n 0, 1))
theorem i_Gr_findReach_95 : iGet M_Gr_findReach 95 4 3 := ⟨18, (by decide +kernel : decode prog_4_method_6_code 95 = .ok (.getfield 18, 3)), fl_Gr_Gr_reach⟩
theorem i_Gr_findReach_98 : iIns M_Gr_findReach 98 (.iload_n 3) 1 := (by decide +kernel : decode prog_4_method_6_code 98 = .ok (.iload_n 3, 1))
theorem i_Gr_findReach_99 : iIns M_Gr_findReach 99 .dup2 1 := (by decide +kernel : decode prog_4_method_6_code 99 = .ok (.dup2, 1))
theorem i_Gr_findReach_100 : iIns M_Gr_findReach 100 .iaload 1 := (by decide +kernel : decode prog_4_method_6_code 100 = .ok (.iaload, 1))
theorem i_Gr_findReach_101 : iIns M_Gr_findReach 101 (.aload_n 0) 1 := (by decide +kernel : decode prog_4_method_6_code 101 = .ok (.aload_n 0, 1))
theorem i_Gr_findReach_102 : iGet M_Gr_findReach 102 4 3 := ⟨18, (by decide +kernel : decode prog_4_method_6_code 102 = .ok (.getfield 18, 3)), fl_Gr_Gr_reach⟩
theorem i_Gr_findReach_105 : iIns M_Gr_findReach 105 (.iload_n 2) 1 := (by decide +kernel : decode prog_4_method_6_code 105 = .ok (.iload_n 2, 1))
theorem i_Gr_findReach_106 : iIns M_Gr_findReach 106 .iaload 1 := (by decide +kernel : decode prog_4_method_6_code 106 = .ok (.iaload, 1))
theorem i_Gr_findReach_107 : iIns M_Gr_findReach 107 .ior 1 := (by decide +kernel : decode prog_4_method_6_code 107 = .ok (.ior, 1))
theorem i_Gr_findReach_108 : iIns M_Gr_findReach 108 .iastore 1 := (by decide +kernel : decode prog_4_method_6_code 108 = .ok (.iastore, 1))
theorem i_Gr_findReach_109 : iIns M_Gr_findReach 109 (.iinc 3 (1)) 3 := (by decide +kernel : decode prog_4_method_6_code 109 = .ok (.iinc 3 (1), 3))
theorem i_Gr_findReach_112 : iGoto M_Gr_findReach 112 75 := ⟨-37, (by decide +kernel : decode prog_4_method_6_code 112 = .ok (.goto (-37), 3)), by decide⟩
theorem i_Gr_findReach_115 : iIns M_Gr_findReach 115 (.iinc 2 (1)) 3 := (by decide +kernel : decode prog_4_method_6_code 115 = .ok (.iinc 2 (1), 3))
theorem i_Gr_findReach_118 : iGoto M_Gr_findReach 118 67 := ⟨-51, (by decide +kernel : decode prog_4_method_6_code 118 = .ok (.goto (-51), 3)), by decide⟩
theorem i_Gr_findReach_121 : iIns M_Gr_findReach 121 .return_ 1 := (by decide +kernel : decode prog_4_method_6_code 121 = .ok (.return_, 1))
theorem i_Gr_contains_0 : iIns M_Gr_contains 0 (.iload_n 0) 1 := (by decide +kernel : decode prog_4_method_5_code 0 = .ok (.iload_n 0, 1))
theorem i_Gr_contains_1 : iIns M_Gr_contains 1 (.iload_n 1) 1 := (by decide +kernel : decode prog_4_method_5_code 1 = .ok (.iload_n 1, 1))
theorem i_Gr_contains_2 : iIns M_Gr_contains 2 .ishr 1 := (by decide +kernel : decode prog_4_method_5_code 2 = .ok (.ishr, 1))
theorem i_Gr_contains_3 : iIns M_Gr_contains 3 (.iconst 1) 1 := (by decide +kernel : decode prog_4_method_5_code 3 = .ok (.iconst 1, 1))
theorem i_Gr_contains_4 : iIns M_Gr_contains 4 .iand 1 := (by decide +kernel : decode prog_4_method_5_code 4 = .ok (.iand, 1))
theorem i_Gr_contains_5 : iIf M_Gr_contains 5 .eq 12 := ⟨7, (by decide +kernel : decode prog_4_method_5_code 5 = .ok (.ifCond .eq (7), 3)), by decide⟩
theorem i_Gr_contains_8 : iIns M_Gr_contains 8 (.iconst 1) 1 := (by decide +kernel : decode prog_4_method_5_code 8 = .ok (.iconst 1, 1))
theorem i_Gr_contains_9 : iGoto M_Gr_contains 9 13 := ⟨4, (by decide +kernel : decode prog_4_method_5_code 9 = .ok (.goto (4), 3)), by decide⟩
theorem i_Gr_contains_12 : iIns M_Gr_contains 12 (.iconst 0) 1 := (by decide +kernel : decode prog_4_method_5_code 12 = .ok (.iconst 0, 1))
theorem i_Gr_contains_13 : iIns M_Gr_contains 13 .ireturn 1 := (by decide +kernel : decode prog_4_method_5_code 13 = .ok (.ireturn, 1))
theorem i_Gr_findChains_0 : iIns M_Gr_findChains 0 (.iconst 0) 1 := (by decide +kernel : decode prog_4_method_7_code 0 = .ok (.iconst 0, 1))
theorem i_Gr_findChains_1 : iIns M_Gr_findChains 1 (.istore_n 1) 1 := (by decide +kernel : decode prog_4_method_7_code 1 = .ok (.istore_n 1, 1))
theorem i_Gr_findChains_2 : iIns M_Gr_findChains 2 (.iload_n 1) 1 := (by decide +kernel : decode prog_4_method_7_code 2 = .ok (.iload_n 1, 1))
theorem i_Gr_findChains_3 : iIns M_Gr_findChains 3 (.bipush 6) 2 := (by decide +kernel : decode prog_4_method_7_code 3 = .ok (.bipush 6, 2))
theorem i_Gr_findChains_5 : iIcmp M_Gr_findChains 5 .ge 38 := ⟨33, (by decide +kernel : decode prog_4_method_7_code 5 = .ok (.if_icmp .ge (33), 3)), by decide⟩
theorem i_Gr_findChains_8 : iIns M_Gr_findChains 8 (.aload_n 0) 1 := (by decide +kernel : decode prog_4_method_7_code 8 = .ok (.aload_n 0, 1))
theorem i_Gr_findChains_9 : iGet M_Gr_findChains 9 4 4 := ⟨22, (by decide +kernel : decode prog_4_method_7_code 9 = .ok (.getfield 22, 3)), fl_Gr_Gr_chains⟩
theorem i_Gr_findChains_12 : iIns M_Gr_findChains 12 (.iload_n 1) 1 := (by decide +kernel : decode prog_4_method_7_code 12 = .ok (.iload_n 1, 1))
theorem i_Gr_findChains_13 : iIns M_Gr_findChains 13 (.aload_n 0) 1 := (by decide +kernel : decode prog_4_method_7_code 13 = .ok (.aload_n 0, 1))
theorem i_Gr_findChains_14 : iGet M_Gr_findChains 14 4 3 := ⟨18, (by decide +kernel : decode prog_4_method_7_code 14 = .ok (.getfield 18, 3)), fl_Gr_Gr_reach⟩
theorem i_Gr_findChains_17 : iIns M_Gr_findChains 17 (.iload_n 1) 1 := (by decide +kernel : decode prog_4_method_7_code 17 = .ok (.iload_n 1, 1))
theorem i_Gr_findChains_18 : iIns M_Gr_findChains 18 .iaload 1 := (by decide +kernel : decode prog_4_method_7_code 18 = .ok (.iaload, 1))
theorem i_Gr_findChains_19 : iIns M_Gr_findChains 19 (.iload_n 1) 1 := (by decide +kernel : decode prog_4_method_7_code 19 = .ok (.iload_n 1, 1))
theorem i_Gr_findChains_20 : iCallS M_Gr_findChains 20 M_Gr_contains 2 := ⟨⟨75, (by decide +kernel : decode prog_4_method_7_code 20 = .ok (.invokestatic 75, 3)), lw_k4 88 rfl rfl⟩, sm_Gr_contains, me_Gr_contains, pn_Gr_contains⟩
theorem i_Gr_findChains_23 : iIf M_Gr_findChains 23 .eq 30 := ⟨7, (by decide +kernel : decode prog_4_method_7_code 23 = .ok (.ifCond .eq (7), 3)), by decide⟩
theorem i_Gr_findChains_26 : iIns M_Gr_findChains 26 (.iconst 1) 1 := (by decide +kernel : decode prog_4_method_7_code 26 = .ok (.iconst 1, 1))
theorem i_Gr_findChains_27 : iGoto M_Gr_findChains 27 31 := ⟨4, (by decide +kernel : decode prog_4_method_7_code 27 = .ok (.goto (4), 3)), by decide⟩
theorem i_Gr_findChains_30 : iIns M_Gr_findChains 30 (.iconst 0) 1 := (by decide +kernel : decode prog_4_method_7_code 30 = .ok (.iconst 0, 1))
theorem i_Gr_findChains_31 : iIns M_Gr_findChains 31 .iastore 1 := (by decide +kernel : decode prog_4_method_7_code 31 = .ok (.iastore, 1))
theorem i_Gr_findChains_32 : iIns M_Gr_findChains 32 (.iinc 1 (1)) 3 := (by decide +kernel : decode prog_4_method_7_code 32 = .ok (.iinc 1 (1), 3))
theorem i_Gr_findChains_35 : iGoto M_Gr_findChains 35 2 := ⟨-33, (by decide +kernel : decode prog_4_method_7_code 35 = .ok (.goto (-33), 3)), by decide⟩
theorem i_Gr_findChains_38 : iIns M_Gr_findChains 38 (.iconst 0) 1 := (by decide +kernel : decode prog_4_method_7_code 38 = .ok (.iconst 0, 1))
theorem i_Gr_findChains_39 : iIns M_Gr_findChains 39 (.istore_n 1) 1 := (by decide +kernel : decode prog_4_method_7_code 39 = .ok (.istore_n 1, 1))
theorem i_Gr_findChains_40 : iIns M_Gr_findChains 40 (.iload_n 1) 1 := (by decide +kernel : decode prog_4_method_7_code 40 = .ok (.iload_n 1, 1))
theorem i_Gr_findChains_41 : iIns M_Gr_findChains 41 (.bipush 6) 2 := (by decide +kernel : decode prog_4_method_7_code 41 = .ok (.bipush 6, 2))
theorem i_Gr_findChains_43 : iIcmp M_Gr_findChains 43 .ge 71 := ⟨28, (by decide +kernel : decode prog_4_method_7_code 43 = .ok (.if_icmp .ge (28), 3)), by decide⟩
theorem i_Gr_findChains_46 : iIns M_Gr_findChains 46 (.iconst 0) 1 := (by decide +kernel : decode prog_4_method_7_code 46 = .ok (.iconst 0, 1))
theorem i_Gr_findChains_47 : iIns M_Gr_findChains 47 (.istore_n 2) 1 := (by decide +kernel : decode prog_4_method_7_code 47 = .ok (.istore_n 2, 1))
theorem i_Gr_findChains_48 : iIns M_Gr_findChains 48 (.iload_n 2) 1 := (by decide +kernel : decode prog_4_method_7_code 48 = .ok (.iload_n 2, 1))
theorem i_Gr_findChains_49 : iIns M_Gr_findChains 49 (.bipush 6) 2 := (by decide +kernel : decode prog_4_method_7_code 49 = .ok (.bipush 6, 2))
theorem i_Gr_findChains_51 : iIcmp M_Gr_findChains 51 .ge 65 := ⟨14, (by decide +kernel : decode prog_4_method_7_code 51 = .ok (.if_icmp .ge (14), 3)), by decide⟩
theorem i_Gr_findChains_54 : iIns M_Gr_findChains 54 (.aload_n 0) 1 := (by decide +kernel : decode prog_4_method_7_code 54 = .ok (.aload_n 0, 1))
theorem i_Gr_findChains_55 : iIns M_Gr_findChains 55 (.iload_n 2) 1 := (by decide +kernel : decode prog_4_method_7_code 55 = .ok (.iload_n 2, 1))
theorem i_Gr_findChains_56 : iCallV M_Gr_findChains 56 M_Gr_lengthenChain 1 4 := ⟨⟨88, (by decide +kernel : decode prog_4_method_7_code 56 = .ok (.invokevirtual 88, 3)), lw_k4 95 rfl rfl⟩, vm_Gr_lengthenChain, me_Gr_lengthenChain, pn_Gr_lengthenChain⟩
theorem i_Gr_findChains_59 : iIns M_Gr_findChains 59 (.iinc 2 (1)) 3 := (by decide +kernel : decode prog_4_method_7_code 59 = .ok (.iinc 2 (1), 3))
theorem i_Gr_findChains_62 : iGoto M_Gr_findChains 62 48 := ⟨-14, (by decide +kernel : decode prog_4_method_7_code 62 = .ok (.goto (-14), 3)), by decide⟩
theorem i_Gr_findChains_65 : iIns M_Gr_findChains 65 (.iinc 1 (1)) 3 := (by decide +kernel : decode prog_4_method_7_code 65 = .ok (.iinc 1 (1), 3))
theorem i_Gr_findChains_68 : iGoto M_Gr_findChains 68 40 := ⟨-28, (by decide +kernel : decode prog_4_method_7_code 68 = .ok (.goto (-28), 3)), by decide⟩
theorem i_Gr_findChains_71 : iIns M_Gr_findChains 71 .return_ 1 := (by decide +kernel : decode prog_4_method_7_code 71 = .ok (.return_, 1))
theorem i_Gr_lengthenChain_0 : iIns M_Gr_lengthenChain 0 (.aload_n 0) 1 := (by decide +kernel : decode prog_4_method_8_code 0 = .ok (.aload_n 0, 1))
theorem i_Gr_lengthenChain_1 : iGet M_Gr_lengthenChain 1 4 4 := ⟨22, (by decide +kernel : decode prog_4_method_8_code 1 = .ok (.getfield 22, 3)), fl_Gr_Gr_chains⟩
theorem i_Gr_lengthenChain_4 : iIns M_Gr_lengthenChain 4 (.iload_n 1) 1 := (by decide +kernel : decode prog_4_method_8_code 4 = .ok (.iload_n 1, 1))
theorem i_Gr_lengthenChain_5 : iIns M_Gr_lengthenChain 5 .iaload 1 := (by decide +kernel : decode prog_4_method_8_code 5 = .ok (.iaload, 1))
theorem i_Gr_lengthenChain_6 : iIf M_Gr_lengthenChain 6 .ne 10 := ⟨4, (by decide +kernel : decode prog_4_method_8_code 6 = .ok (.ifCond .ne (4), 3)), by decide⟩
theorem i_Gr_lengthenChain_9 : iIns M_Gr_lengthenChain 9 .return_ 1 := (by decide +kernel : decode prog_4_method_8_code 9 = .ok (.return_, 1))
theorem i_Gr_lengthenChain_10 : iIns M_Gr_lengthenChain 10 (.iconst 0) 1 := (by decide +kernel : decode prog_4_method_8_code 10 = .ok (.iconst 0, 1))
theorem i_Gr_lengthenChain_11 : iIns M_Gr_lengthenChain 11 (.istore_n 2) 1 := (by decide +kernel : decode prog_4_method_8_code 11 = .ok (.istore_n 2, 1))
theorem i_Gr_lengthenChain_12 : iIns M_Gr_lengthenChain 12 (.iload_n 2) 1 := (by decide +kernel : decode prog_4_method_8_code 12 = .ok (.iload_n 2, 1))
theorem i_Gr_lengthenChain_13 : iIns M_Gr_lengthenChain 13 (.bipush 6) 2 := (by decide +kernel : decode prog_4_method_8_code 13 = .ok (.bipush 6, 2))
theorem i_Gr_lengthenChain_15 : iIcmp M_Gr_lengthenChain 15 .ge 73 := ⟨58, (by decide +kernel : decode prog_4_method_8_code 15 = .ok (.if_icmp .ge (58), 3)), by decide⟩
theorem i_Gr_lengthenChain_18 : iIns M_Gr_lengthenChain 18 (.aload_n 0) 1 := (by decide +kernel : decode prog_4_method_8_code 18 = .ok (.aload_n 0, 1))
theorem i_Gr_lengthenChain_19 : iGet M_Gr_lengthenChain 19 4 3 := ⟨18, (by decide +kernel : decode prog_4_method_8_code 19 = .ok (.getfield 18, 3)), fl_Gr_Gr_reach⟩
theorem i_Gr_lengthenChain_22 : iIns M_Gr_lengthenChain 22 (.iload_n 1) 1 := (by decide +kernel : decode prog_4_method_8_code 22 = .ok (.iload_n 1, 1))
theorem i_Gr_lengthenChain_23 : iIns M_Gr_lengthenChain 23 .iaload 1 := (by decide +kernel : decode prog_4_method_8_code 23 = .ok (.iaload, 1))
theorem i_Gr_lengthenChain_24 : iIns M_Gr_lengthenChain 24 (.iload_n 2) 1 := (by decide +kernel : decode prog_4_method_8_code 24 = .ok (.iload_n 2, 1))
theorem i_Gr_lengthenChain_25 : iCallS M_Gr_lengthenChain 25 M_Gr_contains 2 := ⟨⟨75, (by decide +kernel : decode prog_4_method_8_code 25 = .ok (.invokestatic 75, 3)), lw_k4 88 rfl rfl⟩, sm_Gr_contains, me_Gr_contains, pn_Gr_contains⟩
theorem i_Gr_lengthenChain_28 : iIf M_Gr_lengthenChain 28 .eq 67 := ⟨39, (by decide +kernel : decode prog_4_method_8_code 28 = .ok (.ifCond .eq (39), 3)), by decide⟩
theorem i_Gr_lengthenChain_31 : iIns M_Gr_lengthenChain 31 (.aload_n 0) 1 := (by decide +kernel : decode prog_4_method_8_code 31 = .ok (.aload_n 0, 1))
theorem i_Gr_lengthenChain_32 : iGet M_Gr_lengthenChain 32 4 3 := ⟨18, (by decide +kernel : decode prog_4_method_8_code 32 = .ok (.getfield 18, 3)), fl_Gr_Gr_reach⟩
theorem i_Gr_lengthenChain_35 : iIns M_Gr_lengthenChain 35 (.iload_n 2) 1 := (by decide +kernel : decode prog_4_method_8_code 35 = .ok (.iload_n 2, 1))
theorem i_Gr_lengthenChain_36 : iIns M_Gr_lengthenChain 36 .iaload 1 := (by decide +kernel : decode prog_4_method_8_code 36 = .ok (.iaload, 1))
theorem i_Gr_lengthenChain_37 : iIns M_Gr_lengthenChain 37 (.iload_n 1) 1 := (by decide +kernel : decode prog_4_method_8_code 37 = .ok (.iload_n 1, 1))
theorem i_Gr_lengthenChain_38 : iCallS M_Gr_lengthenChain 38 M_Gr_contains 2 := ⟨⟨75, (by decide +kernel : decode prog_4_method_8_code 38 = .ok (.invokestatic 75, 3)), lw_k4 88 rfl rfl⟩, sm_Gr_contains, me_Gr_contains, pn_Gr_contains⟩
theorem i_Gr_lengthenChain_41 : iIf M_Gr_lengthenChain 41 .ne 67 := ⟨26, (by decide +kernel : decode prog_4_method_8_code 41 = .ok (.ifCond .ne (26), 3)), by decide⟩
theorem i_Gr_lengthenChain_44 : iIns M_Gr_lengthenChain 44 (.aload_n 0) 1 := (by decide +kernel : decode prog_4_method_8_code 44 = .ok (.aload_n 0, 1))
theorem i_Gr_lengthenChain_45 : iGet M_Gr_lengthenChain 45 4 4 := ⟨22, (by decide +kernel : decode prog_4_method_8_code 45 = .ok (.getfield 22, 3)), fl_Gr_Gr_chains⟩
theorem i_Gr_lengthenChain_48 : iIns M_Gr_lengthenChain 48 (.iload_n 1) 1 := (by decide +kernel : decode prog_4_method_8_code 48 = .ok (.iload_n 1, 1))
theorem i_Gr_lengthenChain_49 : iIns M_Gr_lengthenChain 49 (.aload_n 0) 1 := (by decide +kernel : decode prog_4_method_8_code 49 = .ok (.aload_n 0, 1))
theorem i_Gr_lengthenChain_50 : iGet M_Gr_lengthenChain 50 4 4 := ⟨22, (by decide +kernel : decode prog_4_method_8_code 50 = .ok (.getfield 22, 3)), fl_Gr_Gr_chains⟩
theorem i_Gr_lengthenChain_53 : iIns M_Gr_lengthenChain 53 (.iload_n 1) 1 := (by decide +kernel : decode prog_4_method_8_code 53 = .ok (.iload_n 1, 1))
theorem i_Gr_lengthenChain_54 : iIns M_Gr_lengthenChain 54 .iaload 1 := (by decide +kernel : decode prog_4_method_8_code 54 = .ok (.iaload, 1))
theorem i_Gr_lengthenChain_55 : iIns M_Gr_lengthenChain 55 (.aload_n 0) 1 := (by decide +kernel : decode prog_4_method_8_code 55 = .ok (.aload_n 0, 1))
theorem i_Gr_lengthenChain_56 : iGet M_Gr_lengthenChain 56 4 4 := ⟨22, (by decide +kernel : decode prog_4_method_8_code 56 = .ok (.getfield 22, 3)), fl_Gr_Gr_chains⟩
theorem i_Gr_lengthenChain_59 : iIns M_Gr_lengthenChain 59 (.iload_n 2) 1 := (by decide +kernel : decode prog_4_method_8_code 59 = .ok (.iload_n 2, 1))
theorem i_Gr_lengthenChain_60 : iIns M_Gr_lengthenChain 60 .iaload 1 := (by decide +kernel : decode prog_4_method_8_code 60 = .ok (.iaload, 1))
theorem i_Gr_lengthenChain_61 : iIns M_Gr_lengthenChain 61 (.iconst 1) 1 := (by decide +kernel : decode prog_4_method_8_code 61 = .ok (.iconst 1, 1))
theorem i_Gr_lengthenChain_62 : iIns M_Gr_lengthenChain 62 .iadd 1 := (by decide +kernel : decode prog_4_method_8_code 62 = .ok (.iadd, 1))
theorem i_Gr_lengthenChain_63 : iCallS M_Gr_lengthenChain 63 M_Ma_maxI 2 := ⟨⟨83, (by decide +kernel : decode prog_4_method_8_code 63 = .ok (.invokestatic 83, 3)), lw_k4 99 rfl rfl⟩, sm_Ma_maxI, me_Ma_maxI, pn_Ma_maxI⟩
theorem i_Gr_lengthenChain_66 : iIns M_Gr_lengthenChain 66 .iastore 1 := (by decide +kernel : decode prog_4_method_8_code 66 = .ok (.iastore, 1))
theorem i_Gr_lengthenChain_67 : iIns M_Gr_lengthenChain 67 (.iinc 2 (1)) 3 := (by decide +kernel : decode prog_4_method_8_code 67 = .ok (.iinc 2 (1), 3))
theorem i_Gr_lengthenChain_70 : iGoto M_Gr_lengthenChain 70 12 := ⟨-58, (by decide +kernel : decode prog_4_method_8_code 70 = .ok (.goto (-58), 3)), by decide⟩
theorem i_Gr_lengthenChain_73 : iIns M_Gr_lengthenChain 73 .return_ 1 := (by decide +kernel : decode prog_4_method_8_code 73 = .ok (.return_, 1))
theorem i_Gr_lettersReached_0 : iIns M_Gr_lettersReached 0 (.iconst 0) 1 := (by decide +kernel : decode prog_4_method_9_code 0 = .ok (.iconst 0, 1))
theorem i_Gr_lettersReached_1 : iIns M_Gr_lettersReached 1 (.istore_n 2) 1 := (by decide +kernel : decode prog_4_method_9_code 1 = .ok (.istore_n 2, 1))
theorem i_Gr_lettersReached_2 : iIns M_Gr_lettersReached 2 (.iconst 0) 1 := (by decide +kernel : decode prog_4_method_9_code 2 = .ok (.iconst 0, 1))
theorem i_Gr_lettersReached_3 : iIns M_Gr_lettersReached 3 (.istore_n 3) 1 := (by decide +kernel : decode prog_4_method_9_code 3 = .ok (.istore_n 3, 1))
theorem i_Gr_lettersReached_4 : iIns M_Gr_lettersReached 4 (.iload_n 3) 1 := (by decide +kernel : decode prog_4_method_9_code 4 = .ok (.iload_n 3, 1))
theorem i_Gr_lettersReached_5 : iIns M_Gr_lettersReached 5 (.aload_n 1) 1 := (by decide +kernel : decode prog_4_method_9_code 5 = .ok (.aload_n 1, 1))
theorem i_Gr_lettersReached_6 : iGet M_Gr_lettersReached 6 12 1 := ⟨31, (by decide +kernel : decode prog_4_method_9_code 6 = .ok (.getfield 31, 3)), fl_Gr_Wd_length⟩
theorem i_Gr_lettersReached_9 : iIcmp M_Gr_lettersReached 9 .ge 41 := ⟨32, (by decide +kernel : decode prog_4_method_9_code 9 = .ok (.if_icmp .ge (32), 3)), by decide⟩
theorem i_Gr_lettersReached_12 : iIns M_Gr_lettersReached 12 (.iload_n 2) 1 := (by decide +kernel : decode prog_4_method_9_code 12 = .ok (.iload_n 2, 1))
theorem i_Gr_lettersReached_13 : iIns M_Gr_lettersReached 13 (.iconst 1) 1 := (by decide +kernel : decode prog_4_method_9_code 13 = .ok (.iconst 1, 1))
theorem i_Gr_lettersReached_14 : iIns M_Gr_lettersReached 14 (.aload_n 1) 1 := (by decide +kernel : decode prog_4_method_9_code 14 = .ok (.aload_n 1, 1))
theorem i_Gr_lettersReached_15 : iGet M_Gr_lettersReached 15 12 0 := ⟨37, (by decide +kernel : decode prog_4_method_9_code 15 = .ok (.getfield 37, 3)), fl_Gr_Wd_letters⟩
theorem i_Gr_lettersReached_18 : iIns M_Gr_lettersReached 18 (.iload_n 3) 1 := (by decide +kernel : decode prog_4_method_9_code 18 = .ok (.iload_n 3, 1))
theorem i_Gr_lettersReached_19 : iIns M_Gr_lettersReached 19 .iaload 1 := (by decide +kernel : decode prog_4_method_9_code 19 = .ok (.iaload, 1))
theorem i_Gr_lettersReached_20 : iIns M_Gr_lettersReached 20 .ishl 1 := (by decide +kernel : decode prog_4_method_9_code 20 = .ok (.ishl, 1))
theorem i_Gr_lettersReached_21 : iIns M_Gr_lettersReached 21 (.aload_n 0) 1 := (by decide +kernel : decode prog_4_method_9_code 21 = .ok (.aload_n 0, 1))
theorem i_Gr_lettersReached_22 : iGet M_Gr_lettersReached 22 4 3 := ⟨18, (by decide +kernel : decode prog_4_method_9_code 22 = .ok (.getfield 18, 3)), fl_Gr_Gr_reach⟩
theorem i_Gr_lettersReached_25 : iIns M_Gr_lettersReached 25 (.aload_n 1) 1 := (by decide +kernel : decode prog_4_method_9_code 25 = .ok (.aload_n 1, 1))
theorem i_Gr_lettersReached_26 : iGet M_Gr_lettersReached 26 12 0 := ⟨37, (by decide +kernel : decode prog_4_method_9_code 26 = .ok (.getfield 37, 3)), fl_Gr_Wd_letters⟩
theorem i_Gr_lettersReached_29 : iIns M_Gr_lettersReached 29 (.iload_n 3) 1 := (by decide +kernel : decode prog_4_method_9_code 29 = .ok (.iload_n 3, 1))
theorem i_Gr_lettersReached_30 : iIns M_Gr_lettersReached 30 .iaload 1 := (by decide +kernel : decode prog_4_method_9_code 30 = .ok (.iaload, 1))
theorem i_Gr_lettersReached_31 : iIns M_Gr_lettersReached 31 .iaload 1 := (by decide +kernel : decode prog_4_method_9_code 31 = .ok (.iaload, 1))
theorem i_Gr_lettersReached_32 : iIns M_Gr_lettersReached 32 .ior 1 := (by decide +kernel : decode prog_4_method_9_code 32 = .ok (.ior, 1))
theorem i_Gr_lettersReached_33 : iIns M_Gr_lettersReached 33 .ior 1 := (by decide +kernel : decode prog_4_method_9_code 33 = .ok (.ior, 1))
theorem i_Gr_lettersReached_34 : iIns M_Gr_lettersReached 34 (.istore_n 2) 1 := (by decide +kernel : decode prog_4_method_9_code 34 = .ok (.istore_n 2, 1))
theorem i_Gr_lettersReached_35 : iIns M_Gr_lettersReached 35 (.iinc 3 (1)) 3 := (by decide +kernel : decode prog_4_method_9_code 35 = .ok (.iinc 3 (1), 3))
theorem i_Gr_lettersReached_38 : iGoto M_Gr_lettersReached 38 4 := ⟨-34, (by decide +kernel : decode prog_4_method_9_code 38 = .ok (.goto (-34), 3)), by decide⟩
theorem i_Gr_lettersReached_41 : iIns M_Gr_lettersReached 41 (.iload_n 2) 1 := (by decide +kernel : decode prog_4_method_9_code 41 = .ok (.iload_n 2, 1))
theorem i_Gr_lettersReached_42 : iIns M_Gr_lettersReached 42 .ireturn 1 := (by decide +kernel : decode prog_4_method_9_code 42 = .ok (.ireturn, 1))
theorem i_Gr_returnsTo_0 : iIns M_Gr_returnsTo 0 (.iload_n 1) 1 := (by decide +kernel : decode prog_4_method_10_code 0 = .ok (.iload_n 1, 1))
theorem i_Gr_returnsTo_1 : iIns M_Gr_returnsTo 1 (.iconst 0) 1 := (by decide +kernel : decode prog_4_method_10_code 1 = .ok (.iconst 0, 1))
theorem i_Gr_returnsTo_2 : iCallS M_Gr_returnsTo 2 M_Tb_listSlot 2 := ⟨⟨48, (by decide +kernel : decode prog_4_method_10_code 2 = .ok (.invokestatic 48, 3)), lw_k4 60 rfl rfl⟩, sm_Tb_listSlot, me_Tb_listSlot, pn_Tb_listSlot⟩
theorem i_Gr_returnsTo_5 : iIns M_Gr_returnsTo 5 (.istore_n 3) 1 := (by decide +kernel : decode prog_4_method_10_code 5 = .ok (.istore_n 3, 1))
theorem i_Gr_returnsTo_6 : iIns M_Gr_returnsTo 6 (.iconst 0) 1 := (by decide +kernel : decode prog_4_method_10_code 6 = .ok (.iconst 0, 1))
theorem i_Gr_returnsTo_7 : iIns M_Gr_returnsTo 7 (.istore 4) 2 := (by decide +kernel : decode prog_4_method_10_code 7 = .ok (.istore 4, 2))
theorem i_Gr_returnsTo_9 : iIns M_Gr_returnsTo 9 (.iconst 0) 1 := (by decide +kernel : decode prog_4_method_10_code 9 = .ok (.iconst 0, 1))
theorem i_Gr_returnsTo_10 : iIns M_Gr_returnsTo 10 (.istore 5) 2 := (by decide +kernel : decode prog_4_method_10_code 10 = .ok (.istore 5, 2))
theorem i_Gr_returnsTo_12 : iIns M_Gr_returnsTo 12 (.iload 5) 2 := (by decide +kernel : decode prog_4_method_10_code 12 = .ok (.iload 5, 2))
theorem i_Gr_returnsTo_14 : iIns M_Gr_returnsTo 14 (.aload_n 2) 1 := (by decide +kernel : decode prog_4_method_10_code 14 = .ok (.aload_n 2, 1))
theorem i_Gr_returnsTo_15 : iGet M_Gr_returnsTo 15 9 1 := ⟨54, (by decide +kernel : decode prog_4_method_10_code 15 = .ok (.getfield 54, 3)), fl_Gr_Tb_lengths⟩
theorem i_Gr_returnsTo_18 : iIns M_Gr_returnsTo 18 (.iload_n 3) 1 := (by decide +kernel : decode prog_4_method_10_code 18 = .ok (.iload_n 3, 1))
theorem i_Gr_returnsTo_19 : iIns M_Gr_returnsTo 19 .iaload 1 := (by decide +kernel : decode prog_4_method_10_code 19 = .ok (.iaload, 1))
theorem i_Gr_returnsTo_20 : iIcmp M_Gr_returnsTo 20 .ge 51 := ⟨31, (by decide +kernel : decode prog_4_method_10_code 20 = .ok (.if_icmp .ge (31), 3)), by decide⟩
theorem i_Gr_returnsTo_23 : iIns M_Gr_returnsTo 23 (.aload_n 0) 1 := (by decide +kernel : decode prog_4_method_10_code 23 = .ok (.aload_n 0, 1))
theorem i_Gr_returnsTo_24 : iGet M_Gr_returnsTo 24 4 3 := ⟨18, (by decide +kernel : decode prog_4_method_10_code 24 = .ok (.getfield 18, 3)), fl_Gr_Gr_reach⟩
theorem i_Gr_returnsTo_27 : iIns M_Gr_returnsTo 27 (.aload_n 2) 1 := (by decide +kernel : decode prog_4_method_10_code 27 = .ok (.aload_n 2, 1))
theorem i_Gr_returnsTo_28 : iIns M_Gr_returnsTo 28 (.iload_n 3) 1 := (by decide +kernel : decode prog_4_method_10_code 28 = .ok (.iload_n 3, 1))
theorem i_Gr_returnsTo_29 : iIns M_Gr_returnsTo 29 (.iload 5) 2 := (by decide +kernel : decode prog_4_method_10_code 29 = .ok (.iload 5, 2))
theorem i_Gr_returnsTo_31 : iCallV M_Gr_returnsTo 31 M_Tb_letterOf 2 9 := ⟨⟨61, (by decide +kernel : decode prog_4_method_10_code 31 = .ok (.invokevirtual 61, 3)), lw_k4 62 rfl rfl⟩, vm_Tb_letterOf, me_Tb_letterOf, pn_Tb_letterOf⟩
theorem i_Gr_returnsTo_34 : iIns M_Gr_returnsTo 34 .iaload 1 := (by decide +kernel : decode prog_4_method_10_code 34 = .ok (.iaload, 1))
theorem i_Gr_returnsTo_35 : iIns M_Gr_returnsTo 35 (.iload_n 1) 1 := (by decide +kernel : decode prog_4_method_10_code 35 = .ok (.iload_n 1, 1))
theorem i_Gr_returnsTo_36 : iCallS M_Gr_returnsTo 36 M_Gr_contains 2 := ⟨⟨75, (by decide +kernel : decode prog_4_method_10_code 36 = .ok (.invokestatic 75, 3)), lw_k4 88 rfl rfl⟩, sm_Gr_contains, me_Gr_contains, pn_Gr_contains⟩
theorem i_Gr_returnsTo_39 : iIf M_Gr_returnsTo 39 .eq 45 := ⟨6, (by decide +kernel : decode prog_4_method_10_code 39 = .ok (.ifCond .eq (6), 3)), by decide⟩
theorem i_Gr_returnsTo_42 : iIns M_Gr_returnsTo 42 (.iinc 4 (1)) 3 := (by decide +kernel : decode prog_4_method_10_code 42 = .ok (.iinc 4 (1), 3))
theorem i_Gr_returnsTo_45 : iIns M_Gr_returnsTo 45 (.iinc 5 (1)) 3 := (by decide +kernel : decode prog_4_method_10_code 45 = .ok (.iinc 5 (1), 3))
theorem i_Gr_returnsTo_48 : iGoto M_Gr_returnsTo 48 12 := ⟨-36, (by decide +kernel : decode prog_4_method_10_code 48 = .ok (.goto (-36), 3)), by decide⟩
theorem i_Gr_returnsTo_51 : iIns M_Gr_returnsTo 51 (.iload 4) 2 := (by decide +kernel : decode prog_4_method_10_code 51 = .ok (.iload 4, 2))
theorem i_Gr_returnsTo_53 : iIns M_Gr_returnsTo 53 .ireturn 1 := (by decide +kernel : decode prog_4_method_10_code 53 = .ok (.ireturn, 1))
theorem i_Re_init_0 : iIns M_Re_init 0 (.aload_n 0) 1 := (by decide +kernel : decode prog_6_method_1_code 0 = .ok (.aload_n 0, 1))
theorem i_Re_init_1 : iObjI M_Re_init 1 := ⟨3, (by decide +kernel : decode prog_6_method_1_code 1 = .ok (.invokespecial 3, 3)), lw_k1 195 rfl rfl⟩
theorem i_Re_init_4 : iIns M_Re_init 4 (.aload_n 0) 1 := (by decide +kernel : decode prog_6_method_1_code 4 = .ok (.aload_n 0, 1))
theorem i_Re_init_5 : iIns M_Re_init 5 (.bipush 12) 2 := (by decide +kernel : decode prog_6_method_1_code 5 = .ok (.bipush 12, 2))
theorem i_Re_init_7 : iNewA M_Re_init 7 .int := ⟨(by decide +kernel : decode prog_6_method_1_code 7 = .ok (.newarray .int, 2)), lw_k1 95 rfl rfl⟩
theorem i_Re_init_9 : iPutF M_Re_init 9 6 0 (.array .int) := ⟨11, (by decide +kernel : decode prog_6_method_1_code 9 = .ok (.putfield 11, 3)), pf_Re_Re_elements, rfl⟩
theorem i_Re_init_12 : iIns M_Re_init 12 (.aload_n 0) 1 := (by decide +kernel : decode prog_6_method_1_code 12 = .ok (.aload_n 0, 1))
theorem i_Re_init_13 : iIns M_Re_init 13 (.bipush 6) 2 := (by decide +kernel : decode prog_6_method_1_code 13 = .ok (.bipush 6, 2))
theorem i_Re_init_15 : iNewA M_Re_init 15 .int := ⟨(by decide +kernel : decode prog_6_method_1_code 15 = .ok (.newarray .int, 2)), lw_k1 95 rfl rfl⟩
theorem i_Re_init_17 : iPutX M_Re_init 17 6 1 (.array .int) := ⟨15, (by decide +kernel : decode prog_6_method_1_code 17 = .ok (.putfield 15, 3)), px_Re_Re_counts⟩
theorem i_Re_init_20 : iIns M_Re_init 20 (.aload_n 0) 1 := (by decide +kernel : decode prog_6_method_1_code 20 = .ok (.aload_n 0, 1))
theorem i_Re_init_21 : iIns M_Re_init 21 (.bipush 6) 2 := (by decide +kernel : decode prog_6_method_1_code 21 = .ok (.bipush 6, 2))
theorem i_Re_init_23 : iNewA M_Re_init 23 .int := ⟨(by decide +kernel : decode prog_6_method_1_code 23 = .ok (.newarray .int, 2)), lw_k1 95 rfl rfl⟩
theorem i_Re_init_25 : iPutX M_Re_init 25 6 2 (.array .int) := ⟨18, (by decide +kernel : decode prog_6_method_1_code 25 = .ok (.putfield 18, 3)), px_Re_Re_next⟩
theorem i_Re_init_28 : iIns M_Re_init 28 (.aload_n 0) 1 := (by decide +kernel : decode prog_6_method_1_code 28 = .ok (.aload_n 0, 1))
theorem i_Re_init_29 : iIns M_Re_init 29 (.bipush 13) 2 := (by decide +kernel : decode prog_6_method_1_code 29 = .ok (.bipush 13, 2))
theorem i_Re_init_31 : iNewA M_Re_init 31 .int := ⟨(by decide +kernel : decode prog_6_method_1_code 31 = .ok (.newarray .int, 2)), lw_k1 95 rfl rfl⟩
theorem i_Re_init_33 : iPutX M_Re_init 33 6 3 (.array .int) := ⟨21, (by decide +kernel : decode prog_6_method_1_code 33 = .ok (.putfield 21, 3)), px_Re_Re_connection⟩
theorem i_Re_init_36 : iIns M_Re_init 36 (.aload_n 0) 1 := (by decide +kernel : decode prog_6_method_1_code 36 = .ok (.aload_n 0, 1))
theorem i_Re_init_37 : iIns M_Re_init 37 (.bipush 13) 2 := (by decide +kernel : decode prog_6_method_1_code 37 = .ok (.bipush 13, 2))
theorem i_Re_init_39 : iNewA M_Re_init 39 .int := ⟨(by decide +kernel : decode prog_6_method_1_code 39 = .ok (.newarray .int, 2)), lw_k1 95 rfl rfl⟩
theorem i_Re_init_41 : iPutX M_Re_init 41 6 4 (.array .int) := ⟨24, (by decide +kernel : decode prog_6_method_1_code 41 = .ok (.putfield 24, 3)), px_Re_Re_earlier⟩
theorem i_Re_init_44 : iIns M_Re_init 44 (.aload_n 0) 1 := (by decide +kernel : decode prog_6_method_1_code 44 = .ok (.aload_n 0, 1))
theorem i_Re_init_45 : iIns M_Re_init 45 (.bipush 13) 2 := (by decide +kernel : decode prog_6_method_1_code 45 = .ok (.bipush 13, 2))
theorem i_Re_init_47 : iNewA M_Re_init 47 .int := ⟨(by decide +kernel : decode prog_6_method_1_code 47 = .ok (.newarray .int, 2)), lw_k1 95 rfl rfl⟩
theorem i_Re_init_49 : iPutX M_Re_init 49 6 5 (.array .int) := ⟨27, (by decide +kernel : decode prog_6_method_1_code 49 = .ok (.putfield 27, 3)), px_Re_Re_spare⟩
theorem i_Re_init_52 : iIns M_Re_init 52 .return_ 1 := (by decide +kernel : decode prog_6_method_1_code 52 = .ok (.return_, 1))
theorem i_Re_find_0 : iIns M_Re_find 0 (.aload_n 0) 1 := (by decide +kernel : decode prog_6_method_3_code 0 = .ok (.aload_n 0, 1))
theorem i_Re_find_1 : iIns M_Re_find 1 (.aload_n 1) 1 := (by decide +kernel : decode prog_6_method_3_code 1 = .ok (.aload_n 1, 1))
theorem i_Re_find_2 : iIns M_Re_find 2 (.aload_n 2) 1 := (by decide +kernel : decode prog_6_method_3_code 2 = .ok (.aload_n 2, 1))
theorem i_Re_find_3 : iCallV M_Re_find 3 M_Re_fillElements 2 6 := ⟨⟨30, (by decide +kernel : decode prog_6_method_3_code 3 = .ok (.invokevirtual 30, 3)), lw_k4 131 rfl rfl⟩, vm_Re_fillElements, me_Re_fillElements, pn_Re_fillElements⟩
theorem i_Re_find_6 : iIns M_Re_find 6 (.aload_n 0) 1 := (by decide +kernel : decode prog_6_method_3_code 6 = .ok (.aload_n 0, 1))
theorem i_Re_find_7 : iGet M_Re_find 7 6 3 := ⟨21, (by decide +kernel : decode prog_6_method_3_code 7 = .ok (.getfield 21, 3)), fl_Re_Re_connection⟩
theorem i_Re_find_10 : iIns M_Re_find 10 (.iconst 0) 1 := (by decide +kernel : decode prog_6_method_3_code 10 = .ok (.iconst 0, 1))
theorem i_Re_find_11 : iCallS M_Re_find 11 M_Ar_fillI 2 := ⟨⟨34, (by decide +kernel : decode prog_6_method_3_code 11 = .ok (.invokestatic 34, 3)), lw_k4 135 rfl rfl⟩, sm_Ar_fillI, me_Ar_fillI, pn_Ar_fillI⟩
theorem i_Re_find_14 : iIns M_Re_find 14 (.aload_n 0) 1 := (by decide +kernel : decode prog_6_method_3_code 14 = .ok (.aload_n 0, 1))
theorem i_Re_find_15 : iGet M_Re_find 15 6 4 := ⟨24, (by decide +kernel : decode prog_6_method_3_code 15 = .ok (.getfield 24, 3)), fl_Re_Re_earlier⟩
theorem i_Re_find_18 : iIns M_Re_find 18 (.iconst 0) 1 := (by decide +kernel : decode prog_6_method_3_code 18 = .ok (.iconst 0, 1))
theorem i_Re_find_19 : iCallS M_Re_find 19 M_Ar_fillI 2 := ⟨⟨34, (by decide +kernel : decode prog_6_method_3_code 19 = .ok (.invokestatic 34, 3)), lw_k4 135 rfl rfl⟩, sm_Ar_fillI, me_Ar_fillI, pn_Ar_fillI⟩
theorem i_Re_find_22 : iIns M_Re_find 22 (.aload_n 0) 1 := (by decide +kernel : decode prog_6_method_3_code 22 = .ok (.aload_n 0, 1))
theorem i_Re_find_23 : iGet M_Re_find 23 6 3 := ⟨21, (by decide +kernel : decode prog_6_method_3_code 23 = .ok (.getfield 21, 3)), fl_Re_Re_connection⟩
theorem i_Re_find_26 : iIns M_Re_find 26 (.iconst 0) 1 := (by decide +kernel : decode prog_6_method_3_code 26 = .ok (.iconst 0, 1))
theorem i_Re_find_27 : iIns M_Re_find 27 (.iconst 1) 1 := (by decide +kernel : decode prog_6_method_3_code 27 = .ok (.iconst 1, 1))
theorem i_Re_find_28 : iIns M_Re_find 28 .iastore 1 := (by decide +kernel : decode prog_6_method_3_code 28 = .ok (.iastore, 1))
theorem i_Re_find_29 : iIns M_Re_find 29 (.aload_n 0) 1 := (by decide +kernel : decode prog_6_method_3_code 29 = .ok (.aload_n 0, 1))
theorem i_Re_find_30 : iGet M_Re_find 30 6 4 := ⟨24, (by decide +kernel : decode prog_6_method_3_code 30 = .ok (.getfield 24, 3)), fl_Re_Re_earlier⟩
theorem i_Re_find_33 : iIns M_Re_find 33 (.iconst 0) 1 := (by decide +kernel : decode prog_6_method_3_code 33 = .ok (.iconst 0, 1))
theorem i_Re_find_34 : iIns M_Re_find 34 (.iconst 1) 1 := (by decide +kernel : decode prog_6_method_3_code 34 = .ok (.iconst 1, 1))
theorem i_Re_find_35 : iIns M_Re_find 35 .iastore 1 := (by decide +kernel : decode prog_6_method_3_code 35 = .ok (.iastore, 1))
theorem i_Re_find_36 : iIns M_Re_find 36 (.aload_n 0) 1 := (by decide +kernel : decode prog_6_method_3_code 36 = .ok (.aload_n 0, 1))
theorem i_Re_find_37 : iIns M_Re_find 37 (.iconst 0) 1 := (by decide +kernel : decode prog_6_method_3_code 37 = .ok (.iconst 0, 1))
theorem i_Re_find_38 : iPutX M_Re_find 38 6 6 .int := ⟨40, (by decide +kernel : decode prog_6_method_3_code 38 = .ok (.putfield 40, 3)), px_Re_Re_order⟩
theorem i_Re_find_41 : iIns M_Re_find 41 (.aload_n 0) 1 := (by decide +kernel : decode prog_6_method_3_code 41 = .ok (.aload_n 0, 1))
theorem i_Re_find_42 : iIns M_Re_find 42 (.iconst 1) 1 := (by decide +kernel : decode prog_6_method_3_code 42 = .ok (.iconst 1, 1))
theorem i_Re_find_43 : iPutX M_Re_find 43 6 7 .int := ⟨44, (by decide +kernel : decode prog_6_method_3_code 43 = .ok (.putfield 44, 3)), px_Re_Re_shift⟩
theorem i_Re_find_46 : iIns M_Re_find 46 (.aload_n 0) 1 := (by decide +kernel : decode prog_6_method_3_code 46 = .ok (.aload_n 0, 1))
theorem i_Re_find_47 : iIns M_Re_find 47 (.iconst 1) 1 := (by decide +kernel : decode prog_6_method_3_code 47 = .ok (.iconst 1, 1))
theorem i_Re_find_48 : iPutX M_Re_find 48 6 8 .int := ⟨47, (by decide +kernel : decode prog_6_method_3_code 48 = .ok (.putfield 47, 3)), px_Re_Re_earlierMiss⟩
theorem i_Re_find_51 : iIns M_Re_find 51 (.iconst 0) 1 := (by decide +kernel : decode prog_6_method_3_code 51 = .ok (.iconst 0, 1))
theorem i_Re_find_52 : iIns M_Re_find 52 (.istore_n 3) 1 := (by decide +kernel : decode prog_6_method_3_code 52 = .ok (.istore_n 3, 1))
theorem i_Re_find_53 : iIns M_Re_find 53 (.iload_n 3) 1 := (by decide +kernel : decode prog_6_method_3_code 53 = .ok (.iload_n 3, 1))
theorem i_Re_find_54 : iIns M_Re_find 54 (.bipush 12) 2 := (by decide +kernel : decode prog_6_method_3_code 54 = .ok (.bipush 12, 2))
theorem i_Re_find_56 : iIcmp M_Re_find 56 .ge 94 := ⟨38, (by decide +kernel : decode prog_6_method_3_code 56 = .ok (.if_icmp .ge (38), 3)), by decide⟩
theorem i_Re_find_59 : iIns M_Re_find 59 (.aload_n 0) 1 := (by decide +kernel : decode prog_6_method_3_code 59 = .ok (.aload_n 0, 1))
theorem i_Re_find_60 : iIns M_Re_find 60 (.iload_n 3) 1 := (by decide +kernel : decode prog_6_method_3_code 60 = .ok (.iload_n 3, 1))
theorem i_Re_find_61 : iCallV M_Re_find 61 M_Re_missAt 1 6 := ⟨⟨50, (by decide +kernel : decode prog_6_method_3_code 61 = .ok (.invokevirtual 50, 3)), lw_k4 142 rfl rfl⟩, vm_Re_missAt, me_Re_missAt, pn_Re_missAt⟩
theorem i_Re_find_64 : iIns M_Re_find 64 (.istore 4) 2 := (by decide +kernel : decode prog_6_method_3_code 64 = .ok (.istore 4, 2))
theorem i_Re_find_66 : iIns M_Re_find 66 (.iload 4) 2 := (by decide +kernel : decode prog_6_method_3_code 66 = .ok (.iload 4, 2))
theorem i_Re_find_68 : iIf M_Re_find 68 .eq 78 := ⟨10, (by decide +kernel : decode prog_6_method_3_code 68 = .ok (.ifCond .eq (10), 3)), by decide⟩
theorem i_Re_find_71 : iIns M_Re_find 71 (.aload_n 0) 1 := (by decide +kernel : decode prog_6_method_3_code 71 = .ok (.aload_n 0, 1))
theorem i_Re_find_72 : iIns M_Re_find 72 (.iload_n 3) 1 := (by decide +kernel : decode prog_6_method_3_code 72 = .ok (.iload_n 3, 1))
theorem i_Re_find_73 : iIns M_Re_find 73 (.iload 4) 2 := (by decide +kernel : decode prog_6_method_3_code 73 = .ok (.iload 4, 2))
theorem i_Re_find_75 : iCallV M_Re_find 75 M_Re_correct 2 6 := ⟨⟨54, (by decide +kernel : decode prog_6_method_3_code 75 = .ok (.invokevirtual 54, 3)), lw_k4 146 rfl rfl⟩, vm_Re_correct, me_Re_correct, pn_Re_correct⟩
theorem i_Re_find_78 : iIns M_Re_find 78 (.aload_n 0) 1 := (by decide +kernel : decode prog_6_method_3_code 78 = .ok (.aload_n 0, 1))
theorem i_Re_find_79 : iIns M_Re_find 79 .dup 1 := (by decide +kernel : decode prog_6_method_3_code 79 = .ok (.dup, 1))
theorem i_Re_find_80 : iGet M_Re_find 80 6 7 := ⟨44, (by decide +kernel : decode prog_6_method_3_code 80 = .ok (.getfield 44, 3)), fl_Re_Re_shift⟩
theorem i_Re_find_83 : iIns M_Re_find 83 (.iconst 1) 1 := (by decide +kernel : decode prog_6_method_3_code 83 = .ok (.iconst 1, 1))
theorem i_Re_find_84 : iIns M_Re_find 84 .iadd 1 := (by decide +kernel : decode prog_6_method_3_code 84 = .ok (.iadd, 1))
theorem i_Re_find_85 : iPutX M_Re_find 85 6 7 .int := ⟨44, (by decide +kernel : decode prog_6_method_3_code 85 = .ok (.putfield 44, 3)), px_Re_Re_shift⟩
theorem i_Re_find_88 : iIns M_Re_find 88 (.iinc 3 (1)) 3 := (by decide +kernel : decode prog_6_method_3_code 88 = .ok (.iinc 3 (1), 3))
theorem i_Re_find_91 : iGoto M_Re_find 91 53 := ⟨-38, (by decide +kernel : decode prog_6_method_3_code 91 = .ok (.goto (-38), 3)), by decide⟩
theorem i_Re_find_94 : iIns M_Re_find 94 .return_ 1 := (by decide +kernel : decode prog_6_method_3_code 94 = .ok (.return_, 1))
theorem i_Re_fillElements_0 : iIns M_Re_fillElements 0 (.aload_n 0) 1 := (by decide +kernel : decode prog_6_method_4_code 0 = .ok (.aload_n 0, 1))
theorem i_Re_fillElements_1 : iGet M_Re_fillElements 1 6 1 := ⟨15, (by decide +kernel : decode prog_6_method_4_code 1 = .ok (.getfield 15, 3)), fl_Re_Re_counts⟩
theorem i_Re_fillElements_4 : iIns M_Re_fillElements 4 (.iconst 0) 1 := (by decide +kernel : decode prog_6_method_4_code 4 = .ok (.iconst 0, 1))
theorem i_Re_fillElements_5 : iCallS M_Re_fillElements 5 M_Ar_fillI 2 := ⟨⟨34, (by decide +kernel : decode prog_6_method_4_code 5 = .ok (.invokestatic 34, 3)), lw_k4 135 rfl rfl⟩, sm_Ar_fillI, me_Ar_fillI, pn_Ar_fillI⟩
theorem i_Re_fillElements_8 : iIns M_Re_fillElements 8 (.iconst 0) 1 := (by decide +kernel : decode prog_6_method_4_code 8 = .ok (.iconst 0, 1))
theorem i_Re_fillElements_9 : iIns M_Re_fillElements 9 (.istore_n 3) 1 := (by decide +kernel : decode prog_6_method_4_code 9 = .ok (.istore_n 3, 1))
theorem i_Re_fillElements_10 : iIns M_Re_fillElements 10 (.iload_n 3) 1 := (by decide +kernel : decode prog_6_method_4_code 10 = .ok (.iload_n 3, 1))
theorem i_Re_fillElements_11 : iIns M_Re_fillElements 11 (.aload_n 2) 1 := (by decide +kernel : decode prog_6_method_4_code 11 = .ok (.aload_n 2, 1))
theorem i_Re_fillElements_12 : iGet M_Re_fillElements 12 12 1 := ⟨58, (by decide +kernel : decode prog_6_method_4_code 12 = .ok (.getfield 58, 3)), fl_Re_Wd_length⟩
theorem i_Re_fillElements_15 : iIcmp M_Re_fillElements 15 .ge 39 := ⟨24, (by decide +kernel : decode prog_6_method_4_code 15 = .ok (.if_icmp .ge (24), 3)), by decide⟩
theorem i_Re_fillElements_18 : iIns M_Re_fillElements 18 (.aload_n 0) 1 := (by decide +kernel : decode prog_6_method_4_code 18 = .ok (.aload_n 0, 1))
theorem i_Re_fillElements_19 : iGet M_Re_fillElements 19 6 1 := ⟨15, (by decide +kernel : decode prog_6_method_4_code 19 = .ok (.getfield 15, 3)), fl_Re_Re_counts⟩
theorem i_Re_fillElements_22 : iIns M_Re_fillElements 22 (.aload_n 2) 1 := (by decide +kernel : decode prog_6_method_4_code 22 = .ok (.aload_n 2, 1))
theorem i_Re_fillElements_23 : iGet M_Re_fillElements 23 12 0 := ⟨63, (by decide +kernel : decode prog_6_method_4_code 23 = .ok (.getfield 63, 3)), fl_Re_Wd_letters⟩
theorem i_Re_fillElements_26 : iIns M_Re_fillElements 26 (.iload_n 3) 1 := (by decide +kernel : decode prog_6_method_4_code 26 = .ok (.iload_n 3, 1))
theorem i_Re_fillElements_27 : iIns M_Re_fillElements 27 .iaload 1 := (by decide +kernel : decode prog_6_method_4_code 27 = .ok (.iaload, 1))
theorem i_Re_fillElements_28 : iIns M_Re_fillElements 28 .dup2 1 := (by decide +kernel : decode prog_6_method_4_code 28 = .ok (.dup2, 1))
theorem i_Re_fillElements_29 : iIns M_Re_fillElements 29 .iaload 1 := (by decide +kernel : decode prog_6_method_4_code 29 = .ok (.iaload, 1))
theorem i_Re_fillElements_30 : iIns M_Re_fillElements 30 (.iconst 1) 1 := (by decide +kernel : decode prog_6_method_4_code 30 = .ok (.iconst 1, 1))
theorem i_Re_fillElements_31 : iIns M_Re_fillElements 31 .iadd 1 := (by decide +kernel : decode prog_6_method_4_code 31 = .ok (.iadd, 1))
theorem i_Re_fillElements_32 : iIns M_Re_fillElements 32 .iastore 1 := (by decide +kernel : decode prog_6_method_4_code 32 = .ok (.iastore, 1))
theorem i_Re_fillElements_33 : iIns M_Re_fillElements 33 (.iinc 3 (1)) 3 := (by decide +kernel : decode prog_6_method_4_code 33 = .ok (.iinc 3 (1), 3))
theorem i_Re_fillElements_36 : iGoto M_Re_fillElements 36 10 := ⟨-26, (by decide +kernel : decode prog_6_method_4_code 36 = .ok (.goto (-26), 3)), by decide⟩
theorem i_Re_fillElements_39 : iIns M_Re_fillElements 39 (.iconst 0) 1 := (by decide +kernel : decode prog_6_method_4_code 39 = .ok (.iconst 0, 1))
theorem i_Re_fillElements_40 : iIns M_Re_fillElements 40 (.istore_n 3) 1 := (by decide +kernel : decode prog_6_method_4_code 40 = .ok (.istore_n 3, 1))
theorem i_Re_fillElements_41 : iIns M_Re_fillElements 41 (.iload_n 3) 1 := (by decide +kernel : decode prog_6_method_4_code 41 = .ok (.iload_n 3, 1))
theorem i_Re_fillElements_42 : iIns M_Re_fillElements 42 (.bipush 12) 2 := (by decide +kernel : decode prog_6_method_4_code 42 = .ok (.bipush 12, 2))
theorem i_Re_fillElements_44 : iIcmp M_Re_fillElements 44 .ge 101 := ⟨57, (by decide +kernel : decode prog_6_method_4_code 44 = .ok (.if_icmp .ge (57), 3)), by decide⟩
theorem i_Re_fillElements_47 : iIns M_Re_fillElements 47 (.iconst 0) 1 := (by decide +kernel : decode prog_6_method_4_code 47 = .ok (.iconst 0, 1))
theorem i_Re_fillElements_48 : iIns M_Re_fillElements 48 (.istore 4) 2 := (by decide +kernel : decode prog_6_method_4_code 48 = .ok (.istore 4, 2))
theorem i_Re_fillElements_50 : iIns M_Re_fillElements 50 (.iconst 0) 1 := (by decide +kernel : decode prog_6_method_4_code 50 = .ok (.iconst 0, 1))
theorem i_Re_fillElements_51 : iIns M_Re_fillElements 51 (.istore 5) 2 := (by decide +kernel : decode prog_6_method_4_code 51 = .ok (.istore 5, 2))
theorem i_Re_fillElements_53 : iIns M_Re_fillElements 53 (.iload 5) 2 := (by decide +kernel : decode prog_6_method_4_code 53 = .ok (.iload 5, 2))
theorem i_Re_fillElements_55 : iIns M_Re_fillElements 55 (.bipush 6) 2 := (by decide +kernel : decode prog_6_method_4_code 55 = .ok (.bipush 6, 2))
theorem i_Re_fillElements_57 : iIcmp M_Re_fillElements 57 .ge 78 := ⟨21, (by decide +kernel : decode prog_6_method_4_code 57 = .ok (.if_icmp .ge (21), 3)), by decide⟩
theorem i_Re_fillElements_60 : iIns M_Re_fillElements 60 (.iload 4) 2 := (by decide +kernel : decode prog_6_method_4_code 60 = .ok (.iload 4, 2))
theorem i_Re_fillElements_62 : iIns M_Re_fillElements 62 (.aload_n 0) 1 := (by decide +kernel : decode prog_6_method_4_code 62 = .ok (.aload_n 0, 1))
theorem i_Re_fillElements_63 : iGet M_Re_fillElements 63 6 1 := ⟨15, (by decide +kernel : decode prog_6_method_4_code 63 = .ok (.getfield 15, 3)), fl_Re_Re_counts⟩
theorem i_Re_fillElements_66 : iIns M_Re_fillElements 66 (.iload 5) 2 := (by decide +kernel : decode prog_6_method_4_code 66 = .ok (.iload 5, 2))
theorem i_Re_fillElements_68 : iIns M_Re_fillElements 68 .iaload 1 := (by decide +kernel : decode prog_6_method_4_code 68 = .ok (.iaload, 1))
theorem i_Re_fillElements_69 : iIns M_Re_fillElements 69 .iadd 1 := (by decide +kernel : decode prog_6_method_4_code 69 = .ok (.iadd, 1))
theorem i_Re_fillElements_70 : iIns M_Re_fillElements 70 (.istore 4) 2 := (by decide +kernel : decode prog_6_method_4_code 70 = .ok (.istore 4, 2))
theorem i_Re_fillElements_72 : iIns M_Re_fillElements 72 (.iinc 5 (1)) 3 := (by decide +kernel : decode prog_6_method_4_code 72 = .ok (.iinc 5 (1), 3))
theorem i_Re_fillElements_75 : iGoto M_Re_fillElements 75 53 := ⟨-22, (by decide +kernel : decode prog_6_method_4_code 75 = .ok (.goto (-22), 3)), by decide⟩
theorem i_Re_fillElements_78 : iIns M_Re_fillElements 78 (.aload_n 0) 1 := (by decide +kernel : decode prog_6_method_4_code 78 = .ok (.aload_n 0, 1))
theorem i_Re_fillElements_79 : iGet M_Re_fillElements 79 6 0 := ⟨11, (by decide +kernel : decode prog_6_method_4_code 79 = .ok (.getfield 11, 3)), fl_Re_Re_elements⟩
theorem i_Re_fillElements_82 : iIns M_Re_fillElements 82 (.iload_n 3) 1 := (by decide +kernel : decode prog_6_method_4_code 82 = .ok (.iload_n 3, 1))
theorem i_Re_fillElements_83 : iIns M_Re_fillElements 83 (.iload 4) 2 := (by decide +kernel : decode prog_6_method_4_code 83 = .ok (.iload 4, 2))
theorem i_Re_fillElements_85 : iIns M_Re_fillElements 85 (.sipush 10007) 3 := (by decide +kernel : decode prog_6_method_4_code 85 = .ok (.sipush 10007, 3))
theorem i_Re_fillElements_88 : iIns M_Re_fillElements 88 .irem 1 := (by decide +kernel : decode prog_6_method_4_code 88 = .ok (.irem, 1))
theorem i_Re_fillElements_89 : iIns M_Re_fillElements 89 .iastore 1 := (by decide +kernel : decode prog_6_method_4_code 89 = .ok (.iastore, 1))
theorem i_Re_fillElements_90 : iIns M_Re_fillElements 90 (.aload_n 0) 1 := (by decide +kernel : decode prog_6_method_4_code 90 = .ok (.aload_n 0, 1))
theorem i_Re_fillElements_91 : iIns M_Re_fillElements 91 (.aload_n 1) 1 := (by decide +kernel : decode prog_6_method_4_code 91 = .ok (.aload_n 1, 1))
theorem i_Re_fillElements_92 : iCallV M_Re_fillElements 92 M_Re_advanceCounts 1 6 := ⟨⟨66, (by decide +kernel : decode prog_6_method_4_code 92 = .ok (.invokevirtual 66, 3)), lw_k4 136 rfl rfl⟩, vm_Re_advanceCounts, me_Re_advanceCounts, pn_Re_advanceCounts⟩
theorem i_Re_fillElements_95 : iIns M_Re_fillElements 95 (.iinc 3 (1)) 3 := (by decide +kernel : decode prog_6_method_4_code 95 = .ok (.iinc 3 (1), 3))
theorem i_Re_fillElements_98 : iGoto M_Re_fillElements 98 41 := ⟨-57, (by decide +kernel : decode prog_6_method_4_code 98 = .ok (.goto (-57), 3)), by decide⟩
theorem i_Re_fillElements_101 : iIns M_Re_fillElements 101 .return_ 1 := (by decide +kernel : decode prog_6_method_4_code 101 = .ok (.return_, 1))
theorem i_Re_advanceCounts_0 : iIns M_Re_advanceCounts 0 (.aload_n 0) 1 := (by decide +kernel : decode prog_6_method_5_code 0 = .ok (.aload_n 0, 1))
theorem i_Re_advanceCounts_1 : iGet M_Re_advanceCounts 1 6 2 := ⟨18, (by decide +kernel : decode prog_6_method_5_code 1 = .ok (.getfield 18, 3)), fl_Re_Re_next⟩
theorem i_Re_advanceCounts_4 : iIns M_Re_advanceCounts 4 (.iconst 0) 1 := (by decide +kernel : decode prog_6_method_5_code 4 = .ok (.iconst 0, 1))
theorem i_Re_advanceCounts_5 : iCallS M_Re_advanceCounts 5 M_Ar_fillI 2 := ⟨⟨34, (by decide +kernel : decode prog_6_method_5_code 5 = .ok (.invokestatic 34, 3)), lw_k4 135 rfl rfl⟩, sm_Ar_fillI, me_Ar_fillI, pn_Ar_fillI⟩
theorem i_Re_advanceCounts_8 : iIns M_Re_advanceCounts 8 (.iconst 0) 1 := (by decide +kernel : decode prog_6_method_5_code 8 = .ok (.iconst 0, 1))
theorem i_Re_advanceCounts_9 : iIns M_Re_advanceCounts 9 (.istore_n 2) 1 := (by decide +kernel : decode prog_6_method_5_code 9 = .ok (.istore_n 2, 1))
theorem i_Re_advanceCounts_10 : iIns M_Re_advanceCounts 10 (.iload_n 2) 1 := (by decide +kernel : decode prog_6_method_5_code 10 = .ok (.iload_n 2, 1))
theorem i_Re_advanceCounts_11 : iIns M_Re_advanceCounts 11 (.bipush 6) 2 := (by decide +kernel : decode prog_6_method_5_code 11 = .ok (.bipush 6, 2))
theorem i_Re_advanceCounts_13 : iIcmp M_Re_advanceCounts 13 .ge 82 := ⟨69, (by decide +kernel : decode prog_6_method_5_code 13 = .ok (.if_icmp .ge (69), 3)), by decide⟩
theorem i_Re_advanceCounts_16 : iIns M_Re_advanceCounts 16 (.iload_n 2) 1 := (by decide +kernel : decode prog_6_method_5_code 16 = .ok (.iload_n 2, 1))
theorem i_Re_advanceCounts_17 : iIns M_Re_advanceCounts 17 (.iconst 0) 1 := (by decide +kernel : decode prog_6_method_5_code 17 = .ok (.iconst 0, 1))
theorem i_Re_advanceCounts_18 : iCallS M_Re_advanceCounts 18 M_Tb_listSlot 2 := ⟨⟨70, (by decide +kernel : decode prog_6_method_5_code 18 = .ok (.invokestatic 70, 3)), lw_k4 140 rfl rfl⟩, sm_Tb_listSlot, me_Tb_listSlot, pn_Tb_listSlot⟩
theorem i_Re_advanceCounts_21 : iIns M_Re_advanceCounts 21 (.istore_n 3) 1 := (by decide +kernel : decode prog_6_method_5_code 21 = .ok (.istore_n 3, 1))
theorem i_Re_advanceCounts_22 : iIns M_Re_advanceCounts 22 (.iconst 0) 1 := (by decide +kernel : decode prog_6_method_5_code 22 = .ok (.iconst 0, 1))
theorem i_Re_advanceCounts_23 : iIns M_Re_advanceCounts 23 (.istore 4) 2 := (by decide +kernel : decode prog_6_method_5_code 23 = .ok (.istore 4, 2))
theorem i_Re_advanceCounts_25 : iIns M_Re_advanceCounts 25 (.iload 4) 2 := (by decide +kernel : decode prog_6_method_5_code 25 = .ok (.iload 4, 2))
theorem i_Re_advanceCounts_27 : iIns M_Re_advanceCounts 27 (.aload_n 1) 1 := (by decide +kernel : decode prog_6_method_5_code 27 = .ok (.aload_n 1, 1))
theorem i_Re_advanceCounts_28 : iGet M_Re_advanceCounts 28 9 1 := ⟨76, (by decide +kernel : decode prog_6_method_5_code 28 = .ok (.getfield 76, 3)), fl_Re_Tb_lengths⟩
theorem i_Re_advanceCounts_31 : iIns M_Re_advanceCounts 31 (.iload_n 3) 1 := (by decide +kernel : decode prog_6_method_5_code 31 = .ok (.iload_n 3, 1))
theorem i_Re_advanceCounts_32 : iIns M_Re_advanceCounts 32 .iaload 1 := (by decide +kernel : decode prog_6_method_5_code 32 = .ok (.iaload, 1))
theorem i_Re_advanceCounts_33 : iIcmp M_Re_advanceCounts 33 .ge 76 := ⟨43, (by decide +kernel : decode prog_6_method_5_code 33 = .ok (.if_icmp .ge (43), 3)), by decide⟩
theorem i_Re_advanceCounts_36 : iIns M_Re_advanceCounts 36 (.aload_n 1) 1 := (by decide +kernel : decode prog_6_method_5_code 36 = .ok (.aload_n 1, 1))
theorem i_Re_advanceCounts_37 : iIns M_Re_advanceCounts 37 (.iload_n 3) 1 := (by decide +kernel : decode prog_6_method_5_code 37 = .ok (.iload_n 3, 1))
theorem i_Re_advanceCounts_38 : iIns M_Re_advanceCounts 38 (.iload 4) 2 := (by decide +kernel : decode prog_6_method_5_code 38 = .ok (.iload 4, 2))
theorem i_Re_advanceCounts_40 : iCallV M_Re_advanceCounts 40 M_Tb_letterOf 2 9 := ⟨⟨79, (by decide +kernel : decode prog_6_method_5_code 40 = .ok (.invokevirtual 79, 3)), lw_k4 141 rfl rfl⟩, vm_Tb_letterOf, me_Tb_letterOf, pn_Tb_letterOf⟩
theorem i_Re_advanceCounts_43 : iIns M_Re_advanceCounts 43 (.istore 5) 2 := (by decide +kernel : decode prog_6_method_5_code 43 = .ok (.istore 5, 2))
theorem i_Re_advanceCounts_45 : iIns M_Re_advanceCounts 45 (.aload_n 0) 1 := (by decide +kernel : decode prog_6_method_5_code 45 = .ok (.aload_n 0, 1))
theorem i_Re_advanceCounts_46 : iGet M_Re_advanceCounts 46 6 2 := ⟨18, (by decide +kernel : decode prog_6_method_5_code 46 = .ok (.getfield 18, 3)), fl_Re_Re_next⟩
theorem i_Re_advanceCounts_49 : iIns M_Re_advanceCounts 49 (.iload 5) 2 := (by decide +kernel : decode prog_6_method_5_code 49 = .ok (.iload 5, 2))
theorem i_Re_advanceCounts_51 : iIns M_Re_advanceCounts 51 (.aload_n 0) 1 := (by decide +kernel : decode prog_6_method_5_code 51 = .ok (.aload_n 0, 1))
theorem i_Re_advanceCounts_52 : iGet M_Re_advanceCounts 52 6 2 := ⟨18, (by decide +kernel : decode prog_6_method_5_code 52 = .ok (.getfield 18, 3)), fl_Re_Re_next⟩
theorem i_Re_advanceCounts_55 : iIns M_Re_advanceCounts 55 (.iload 5) 2 := (by decide +kernel : decode prog_6_method_5_code 55 = .ok (.iload 5, 2))
theorem i_Re_advanceCounts_57 : iIns M_Re_advanceCounts 57 .iaload 1 := (by decide +kernel : decode prog_6_method_5_code 57 = .ok (.iaload, 1))
theorem i_Re_advanceCounts_58 : iIns M_Re_advanceCounts 58 (.aload_n 0) 1 := (by decide +kernel : decode prog_6_method_5_code 58 = .ok (.aload_n 0, 1))
theorem i_Re_advanceCounts_59 : iGet M_Re_advanceCounts 59 6 1 := ⟨15, (by decide +kernel : decode prog_6_method_5_code 59 = .ok (.getfield 15, 3)), fl_Re_Re_counts⟩
theorem i_Re_advanceCounts_62 : iIns M_Re_advanceCounts 62 (.iload_n 2) 1 := (by decide +kernel : decode prog_6_method_5_code 62 = .ok (.iload_n 2, 1))
theorem i_Re_advanceCounts_63 : iIns M_Re_advanceCounts 63 .iaload 1 := (by decide +kernel : decode prog_6_method_5_code 63 = .ok (.iaload, 1))
theorem i_Re_advanceCounts_64 : iIns M_Re_advanceCounts 64 .iadd 1 := (by decide +kernel : decode prog_6_method_5_code 64 = .ok (.iadd, 1))
theorem i_Re_advanceCounts_65 : iIns M_Re_advanceCounts 65 (.sipush 10007) 3 := (by decide +kernel : decode prog_6_method_5_code 65 = .ok (.sipush 10007, 3))
theorem i_Re_advanceCounts_68 : iIns M_Re_advanceCounts 68 .irem 1 := (by decide +kernel : decode prog_6_method_5_code 68 = .ok (.irem, 1))
theorem i_Re_advanceCounts_69 : iIns M_Re_advanceCounts 69 .iastore 1 := (by decide +kernel : decode prog_6_method_5_code 69 = .ok (.iastore, 1))
theorem i_Re_advanceCounts_70 : iIns M_Re_advanceCounts 70 (.iinc 4 (1)) 3 := (by decide +kernel : decode prog_6_method_5_code 70 = .ok (.iinc 4 (1), 3))
theorem i_Re_advanceCounts_73 : iGoto M_Re_advanceCounts 73 25 := ⟨-48, (by decide +kernel : decode prog_6_method_5_code 73 = .ok (.goto (-48), 3)), by decide⟩
theorem i_Re_advanceCounts_76 : iIns M_Re_advanceCounts 76 (.iinc 2 (1)) 3 := (by decide +kernel : decode prog_6_method_5_code 76 = .ok (.iinc 2 (1), 3))
theorem i_Re_advanceCounts_79 : iGoto M_Re_advanceCounts 79 10 := ⟨-69, (by decide +kernel : decode prog_6_method_5_code 79 = .ok (.goto (-69), 3)), by decide⟩
theorem i_Re_advanceCounts_82 : iIns M_Re_advanceCounts 82 (.aload_n 0) 1 := (by decide +kernel : decode prog_6_method_5_code 82 = .ok (.aload_n 0, 1))
theorem i_Re_advanceCounts_83 : iGet M_Re_advanceCounts 83 6 1 := ⟨15, (by decide +kernel : decode prog_6_method_5_code 83 = .ok (.getfield 15, 3)), fl_Re_Re_counts⟩
theorem i_Re_advanceCounts_86 : iIns M_Re_advanceCounts 86 (.astore_n 2) 1 := (by decide +kernel : decode prog_6_method_5_code 86 = .ok (.astore_n 2, 1))
theorem i_Re_advanceCounts_87 : iIns M_Re_advanceCounts 87 (.aload_n 0) 1 := (by decide +kernel : decode prog_6_method_5_code 87 = .ok (.aload_n 0, 1))
theorem i_Re_advanceCounts_88 : iIns M_Re_advanceCounts 88 (.aload_n 0) 1 := (by decide +kernel : decode prog_6_method_5_code 88 = .ok (.aload_n 0, 1))
theorem i_Re_advanceCounts_89 : iGet M_Re_advanceCounts 89 6 2 := ⟨18, (by decide +kernel : decode prog_6_method_5_code 89 = .ok (.getfield 18, 3)), fl_Re_Re_next⟩
theorem i_Re_advanceCounts_92 : iPutX M_Re_advanceCounts 92 6 1 (.array .int) := ⟨15, (by decide +kernel : decode prog_6_method_5_code 92 = .ok (.putfield 15, 3)), px_Re_Re_counts⟩
theorem i_Re_advanceCounts_95 : iIns M_Re_advanceCounts 95 (.aload_n 0) 1 := (by decide +kernel : decode prog_6_method_5_code 95 = .ok (.aload_n 0, 1))
theorem i_Re_advanceCounts_96 : iIns M_Re_advanceCounts 96 (.aload_n 2) 1 := (by decide +kernel : decode prog_6_method_5_code 96 = .ok (.aload_n 2, 1))
theorem i_Re_advanceCounts_97 : iPutX M_Re_advanceCounts 97 6 2 (.array .int) := ⟨18, (by decide +kernel : decode prog_6_method_5_code 97 = .ok (.putfield 18, 3)), px_Re_Re_next⟩
theorem i_Re_advanceCounts_100 : iIns M_Re_advanceCounts 100 .return_ 1 := (by decide +kernel : decode prog_6_method_5_code 100 = .ok (.return_, 1))
theorem i_Re_missAt_0 : iIns M_Re_missAt 0 (.aload_n 0) 1 := (by decide +kernel : decode prog_6_method_6_code 0 = .ok (.aload_n 0, 1))
theorem i_Re_missAt_1 : iGet M_Re_missAt 1 6 0 := ⟨11, (by decide +kernel : decode prog_6_method_6_code 1 = .ok (.getfield 11, 3)), fl_Re_Re_elements⟩
theorem i_Re_missAt_4 : iIns M_Re_missAt 4 (.iload_n 1) 1 := (by decide +kernel : decode prog_6_method_6_code 4 = .ok (.iload_n 1, 1))
theorem i_Re_missAt_5 : iIns M_Re_missAt 5 .iaload 1 := (by decide +kernel : decode prog_6_method_6_code 5 = .ok (.iaload, 1))
theorem i_Re_missAt_6 : iIns M_Re_missAt 6 (.istore_n 2) 1 := (by decide +kernel : decode prog_6_method_6_code 6 = .ok (.istore_n 2, 1))
theorem i_Re_missAt_7 : iIns M_Re_missAt 7 (.iconst 1) 1 := (by decide +kernel : decode prog_6_method_6_code 7 = .ok (.iconst 1, 1))
theorem i_Re_missAt_8 : iIns M_Re_missAt 8 (.istore_n 3) 1 := (by decide +kernel : decode prog_6_method_6_code 8 = .ok (.istore_n 3, 1))
theorem i_Re_missAt_9 : iIns M_Re_missAt 9 (.iload_n 3) 1 := (by decide +kernel : decode prog_6_method_6_code 9 = .ok (.iload_n 3, 1))
theorem i_Re_missAt_10 : iIns M_Re_missAt 10 (.aload_n 0) 1 := (by decide +kernel : decode prog_6_method_6_code 10 = .ok (.aload_n 0, 1))
theorem i_Re_missAt_11 : iGet M_Re_missAt 11 6 6 := ⟨40, (by decide +kernel : decode prog_6_method_6_code 11 = .ok (.getfield 40, 3)), fl_Re_Re_order⟩
theorem i_Re_missAt_14 : iIcmp M_Re_missAt 14 .gt 50 := ⟨36, (by decide +kernel : decode prog_6_method_6_code 14 = .ok (.if_icmp .gt (36), 3)), by decide⟩
theorem i_Re_missAt_17 : iIns M_Re_missAt 17 (.iload_n 3) 1 := (by decide +kernel : decode prog_6_method_6_code 17 = .ok (.iload_n 3, 1))
theorem i_Re_missAt_18 : iIns M_Re_missAt 18 (.iload_n 1) 1 := (by decide +kernel : decode prog_6_method_6_code 18 = .ok (.iload_n 1, 1))
theorem i_Re_missAt_19 : iIcmp M_Re_missAt 19 .gt 50 := ⟨31, (by decide +kernel : decode prog_6_method_6_code 19 = .ok (.if_icmp .gt (31), 3)), by decide⟩
theorem i_Re_missAt_22 : iIns M_Re_missAt 22 (.iload_n 2) 1 := (by decide +kernel : decode prog_6_method_6_code 22 = .ok (.iload_n 2, 1))
theorem i_Re_missAt_23 : iIns M_Re_missAt 23 (.aload_n 0) 1 := (by decide +kernel : decode prog_6_method_6_code 23 = .ok (.aload_n 0, 1))
theorem i_Re_missAt_24 : iGet M_Re_missAt 24 6 3 := ⟨21, (by decide +kernel : decode prog_6_method_6_code 24 = .ok (.getfield 21, 3)), fl_Re_Re_connection⟩
theorem i_Re_missAt_27 : iIns M_Re_missAt 27 (.iload_n 3) 1 := (by decide +kernel : decode prog_6_method_6_code 27 = .ok (.iload_n 3, 1))
theorem i_Re_missAt_28 : iIns M_Re_missAt 28 .iaload 1 := (by decide +kernel : decode prog_6_method_6_code 28 = .ok (.iaload, 1))
theorem i_Re_missAt_29 : iIns M_Re_missAt 29 (.aload_n 0) 1 := (by decide +kernel : decode prog_6_method_6_code 29 = .ok (.aload_n 0, 1))
theorem i_Re_missAt_30 : iGet M_Re_missAt 30 6 0 := ⟨11, (by decide +kernel : decode prog_6_method_6_code 30 = .ok (.getfield 11, 3)), fl_Re_Re_elements⟩
theorem i_Re_missAt_33 : iIns M_Re_missAt 33 (.iload_n 1) 1 := (by decide +kernel : decode prog_6_method_6_code 33 = .ok (.iload_n 1, 1))
theorem i_Re_missAt_34 : iIns M_Re_missAt 34 (.iload_n 3) 1 := (by decide +kernel : decode prog_6_method_6_code 34 = .ok (.iload_n 3, 1))
theorem i_Re_missAt_35 : iIns M_Re_missAt 35 .isub 1 := (by decide +kernel : decode prog_6_method_6_code 35 = .ok (.isub, 1))
theorem i_Re_missAt_36 : iIns M_Re_missAt 36 .iaload 1 := (by decide +kernel : decode prog_6_method_6_code 36 = .ok (.iaload, 1))
theorem i_Re_missAt_37 : iIns M_Re_missAt 37 .imul 1 := (by decide +kernel : decode prog_6_method_6_code 37 = .ok (.imul, 1))
theorem i_Re_missAt_38 : iIns M_Re_missAt 38 .iadd 1 := (by decide +kernel : decode prog_6_method_6_code 38 = .ok (.iadd, 1))
theorem i_Re_missAt_39 : iIns M_Re_missAt 39 (.sipush 10007) 3 := (by decide +kernel : decode prog_6_method_6_code 39 = .ok (.sipush 10007, 3))
theorem i_Re_missAt_42 : iIns M_Re_missAt 42 .irem 1 := (by decide +kernel : decode prog_6_method_6_code 42 = .ok (.irem, 1))
theorem i_Re_missAt_43 : iIns M_Re_missAt 43 (.istore_n 2) 1 := (by decide +kernel : decode prog_6_method_6_code 43 = .ok (.istore_n 2, 1))
theorem i_Re_missAt_44 : iIns M_Re_missAt 44 (.iinc 3 (1)) 3 := (by decide +kernel : decode prog_6_method_6_code 44 = .ok (.iinc 3 (1), 3))
theorem i_Re_missAt_47 : iGoto M_Re_missAt 47 9 := ⟨-38, (by decide +kernel : decode prog_6_method_6_code 47 = .ok (.goto (-38), 3)), by decide⟩
theorem i_Re_missAt_50 : iIns M_Re_missAt 50 (.iload_n 2) 1 := (by decide +kernel : decode prog_6_method_6_code 50 = .ok (.iload_n 2, 1))
theorem i_Re_missAt_51 : iIns M_Re_missAt 51 .ireturn 1 := (by decide +kernel : decode prog_6_method_6_code 51 = .ok (.ireturn, 1))
theorem i_Re_correct_0 : iIns M_Re_correct 0 (.iload_n 2) 1 := (by decide +kernel : decode prog_6_method_7_code 0 = .ok (.iload_n 2, 1))
theorem i_Re_correct_1 : iIns M_Re_correct 1 (.aload_n 0) 1 := (by decide +kernel : decode prog_6_method_7_code 1 = .ok (.aload_n 0, 1))
theorem i_Re_correct_2 : iGet M_Re_correct 2 6 8 := ⟨47, (by decide +kernel : decode prog_6_method_7_code 2 = .ok (.getfield 47, 3)), fl_Re_Re_earlierMiss⟩
theorem i_Re_correct_5 : iCallS M_Re_correct 5 M_Re_inverse 1 := ⟨⟨82, (by decide +kernel : decode prog_6_method_7_code 5 = .ok (.invokestatic 82, 3)), lw_k4 150 rfl rfl⟩, sm_Re_inverse, me_Re_inverse, pn_Re_inverse⟩
theorem i_Re_correct_8 : iIns M_Re_correct 8 .imul 1 := (by decide +kernel : decode prog_6_method_7_code 8 = .ok (.imul, 1))
theorem i_Re_correct_9 : iIns M_Re_correct 9 (.sipush 10007) 3 := (by decide +kernel : decode prog_6_method_7_code 9 = .ok (.sipush 10007, 3))
theorem i_Re_correct_12 : iIns M_Re_correct 12 .irem 1 := (by decide +kernel : decode prog_6_method_7_code 12 = .ok (.irem, 1))
theorem i_Re_correct_13 : iIns M_Re_correct 13 (.istore_n 3) 1 := (by decide +kernel : decode prog_6_method_7_code 13 = .ok (.istore_n 3, 1))
theorem i_Re_correct_14 : iIns M_Re_correct 14 (.aload_n 0) 1 := (by decide +kernel : decode prog_6_method_7_code 14 = .ok (.aload_n 0, 1))
theorem i_Re_correct_15 : iGet M_Re_correct 15 6 3 := ⟨21, (by decide +kernel : decode prog_6_method_7_code 15 = .ok (.getfield 21, 3)), fl_Re_Re_connection⟩
theorem i_Re_correct_18 : iIns M_Re_correct 18 (.iconst 0) 1 := (by decide +kernel : decode prog_6_method_7_code 18 = .ok (.iconst 0, 1))
theorem i_Re_correct_19 : iIns M_Re_correct 19 (.aload_n 0) 1 := (by decide +kernel : decode prog_6_method_7_code 19 = .ok (.aload_n 0, 1))
theorem i_Re_correct_20 : iGet M_Re_correct 20 6 5 := ⟨27, (by decide +kernel : decode prog_6_method_7_code 20 = .ok (.getfield 27, 3)), fl_Re_Re_spare⟩
theorem i_Re_correct_23 : iIns M_Re_correct 23 (.iconst 0) 1 := (by decide +kernel : decode prog_6_method_7_code 23 = .ok (.iconst 0, 1))
theorem i_Re_correct_24 : iIns M_Re_correct 24 (.aload_n 0) 1 := (by decide +kernel : decode prog_6_method_7_code 24 = .ok (.aload_n 0, 1))
theorem i_Re_correct_25 : iGet M_Re_correct 25 6 3 := ⟨21, (by decide +kernel : decode prog_6_method_7_code 25 = .ok (.getfield 21, 3)), fl_Re_Re_connection⟩
theorem i_Re_correct_28 : iIns M_Re_correct 28 .arraylength 1 := (by decide +kernel : decode prog_6_method_7_code 28 = .ok (.arraylength, 1))
theorem i_Re_correct_29 : iCpy M_Re_correct 29 := ⟨85, (by decide +kernel : decode prog_6_method_7_code 29 = .ok (.invokestatic 85, 3)), lw_k4 153 rfl rfl⟩
theorem i_Re_correct_32 : iIns M_Re_correct 32 (.iconst 0) 1 := (by decide +kernel : decode prog_6_method_7_code 32 = .ok (.iconst 0, 1))
theorem i_Re_correct_33 : iIns M_Re_correct 33 (.istore 4) 2 := (by decide +kernel : decode prog_6_method_7_code 33 = .ok (.istore 4, 2))
theorem i_Re_correct_35 : iIns M_Re_correct 35 (.iload 4) 2 := (by decide +kernel : decode prog_6_method_7_code 35 = .ok (.iload 4, 2))
theorem i_Re_correct_37 : iIns M_Re_correct 37 (.aload_n 0) 1 := (by decide +kernel : decode prog_6_method_7_code 37 = .ok (.aload_n 0, 1))
theorem i_Re_correct_38 : iGet M_Re_correct 38 6 7 := ⟨44, (by decide +kernel : decode prog_6_method_7_code 38 = .ok (.getfield 44, 3)), fl_Re_Re_shift⟩
theorem i_Re_correct_41 : iIns M_Re_correct 41 .iadd 1 := (by decide +kernel : decode prog_6_method_7_code 41 = .ok (.iadd, 1))
theorem i_Re_correct_42 : iIns M_Re_correct 42 (.aload_n 0) 1 := (by decide +kernel : decode prog_6_method_7_code 42 = .ok (.aload_n 0, 1))
theorem i_Re_correct_43 : iGet M_Re_correct 43 6 3 := ⟨21, (by decide +kernel : decode prog_6_method_7_code 43 = .ok (.getfield 21, 3)), fl_Re_Re_connection⟩
theorem i_Re_correct_46 : iIns M_Re_correct 46 .arraylength 1 := (by decide +kernel : decode prog_6_method_7_code 46 = .ok (.arraylength, 1))
theorem i_Re_correct_47 : iIcmp M_Re_correct 47 .ge 106 := ⟨59, (by decide +kernel : decode prog_6_method_7_code 47 = .ok (.if_icmp .ge (59), 3)), by decide⟩
theorem i_Re_correct_50 : iIns M_Re_correct 50 (.iload_n 3) 1 := (by decide +kernel : decode prog_6_method_7_code 50 = .ok (.iload_n 3, 1))
theorem i_Re_correct_51 : iIns M_Re_correct 51 (.aload_n 0) 1 := (by decide +kernel : decode prog_6_method_7_code 51 = .ok (.aload_n 0, 1))
theorem i_Re_correct_52 : iGet M_Re_correct 52 6 4 := ⟨24, (by decide +kernel : decode prog_6_method_7_code 52 = .ok (.getfield 24, 3)), fl_Re_Re_earlier⟩
theorem i_Re_correct_55 : iIns M_Re_correct 55 (.iload 4) 2 := (by decide +kernel : decode prog_6_method_7_code 55 = .ok (.iload 4, 2))
theorem i_Re_correct_57 : iIns M_Re_correct 57 .iaload 1 := (by decide +kernel : decode prog_6_method_7_code 57 = .ok (.iaload, 1))
theorem i_Re_correct_58 : iIns M_Re_correct 58 .imul 1 := (by decide +kernel : decode prog_6_method_7_code 58 = .ok (.imul, 1))
theorem i_Re_correct_59 : iIns M_Re_correct 59 (.sipush 10007) 3 := (by decide +kernel : decode prog_6_method_7_code 59 = .ok (.sipush 10007, 3))
theorem i_Re_correct_62 : iIns M_Re_correct 62 .irem 1 := (by decide +kernel : decode prog_6_method_7_code 62 = .ok (.irem, 1))
theorem i_Re_correct_63 : iIns M_Re_correct 63 (.istore 5) 2 := (by decide +kernel : decode prog_6_method_7_code 63 = .ok (.istore 5, 2))
theorem i_Re_correct_65 : iIns M_Re_correct 65 (.aload_n 0) 1 := (by decide +kernel : decode prog_6_method_7_code 65 = .ok (.aload_n 0, 1))
theorem i_Re_correct_66 : iGet M_Re_correct 66 6 3 := ⟨21, (by decide +kernel : decode prog_6_method_7_code 66 = .ok (.getfield 21, 3)), fl_Re_Re_connection⟩
theorem i_Re_correct_69 : iIns M_Re_correct 69 (.iload 4) 2 := (by decide +kernel : decode prog_6_method_7_code 69 = .ok (.iload 4, 2))
theorem i_Re_correct_71 : iIns M_Re_correct 71 (.aload_n 0) 1 := (by decide +kernel : decode prog_6_method_7_code 71 = .ok (.aload_n 0, 1))
theorem i_Re_correct_72 : iGet M_Re_correct 72 6 7 := ⟨44, (by decide +kernel : decode prog_6_method_7_code 72 = .ok (.getfield 44, 3)), fl_Re_Re_shift⟩
theorem i_Re_correct_75 : iIns M_Re_correct 75 .iadd 1 := (by decide +kernel : decode prog_6_method_7_code 75 = .ok (.iadd, 1))
theorem i_Re_correct_76 : iIns M_Re_correct 76 (.aload_n 0) 1 := (by decide +kernel : decode prog_6_method_7_code 76 = .ok (.aload_n 0, 1))
theorem i_Re_correct_77 : iGet M_Re_correct 77 6 3 := ⟨21, (by decide +kernel : decode prog_6_method_7_code 77 = .ok (.getfield 21, 3)), fl_Re_Re_connection⟩
theorem i_Re_correct_80 : iIns M_Re_correct 80 (.iload 4) 2 := (by decide +kernel : decode prog_6_method_7_code 80 = .ok (.iload 4, 2))
theorem i_Re_correct_82 : iIns M_Re_correct 82 (.aload_n 0) 1 := (by decide +kernel : decode prog_6_method_7_code 82 = .ok (.aload_n 0, 1))
theorem i_Re_correct_83 : iGet M_Re_correct 83 6 7 := ⟨44, (by decide +kernel : decode prog_6_method_7_code 83 = .ok (.getfield 44, 3)), fl_Re_Re_shift⟩
theorem i_Re_correct_86 : iIns M_Re_correct 86 .iadd 1 := (by decide +kernel : decode prog_6_method_7_code 86 = .ok (.iadd, 1))
theorem i_Re_correct_87 : iIns M_Re_correct 87 .iaload 1 := (by decide +kernel : decode prog_6_method_7_code 87 = .ok (.iaload, 1))
theorem i_Re_correct_88 : iIns M_Re_correct 88 (.sipush 10007) 3 := (by decide +kernel : decode prog_6_method_7_code 88 = .ok (.sipush 10007, 3))
theorem i_Re_correct_91 : iIns M_Re_correct 91 .iadd 1 := (by decide +kernel : decode prog_6_method_7_code 91 = .ok (.iadd, 1))
theorem i_Re_correct_92 : iIns M_Re_correct 92 (.iload 5) 2 := (by decide +kernel : decode prog_6_method_7_code 92 = .ok (.iload 5, 2))
theorem i_Re_correct_94 : iIns M_Re_correct 94 .isub 1 := (by decide +kernel : decode prog_6_method_7_code 94 = .ok (.isub, 1))
theorem i_Re_correct_95 : iIns M_Re_correct 95 (.sipush 10007) 3 := (by decide +kernel : decode prog_6_method_7_code 95 = .ok (.sipush 10007, 3))
theorem i_Re_correct_98 : iIns M_Re_correct 98 .irem 1 := (by decide +kernel : decode prog_6_method_7_code 98 = .ok (.irem, 1))
theorem i_Re_correct_99 : iIns M_Re_correct 99 .iastore 1 := (by decide +kernel : decode prog_6_method_7_code 99 = .ok (.iastore, 1))
theorem i_Re_correct_100 : iIns M_Re_correct 100 (.iinc 4 (1)) 3 := (by decide +kernel : decode prog_6_method_7_code 100 = .ok (.iinc 4 (1), 3))
theorem i_Re_correct_103 : iGoto M_Re_correct 103 35 := ⟨-68, (by decide +kernel : decode prog_6_method_7_code 103 = .ok (.goto (-68), 3)), by decide⟩
theorem i_Re_correct_106 : iIns M_Re_correct 106 (.iconst 2) 1 := (by decide +kernel : decode prog_6_method_7_code 106 = .ok (.iconst 2, 1))
theorem i_Re_correct_107 : iIns M_Re_correct 107 (.aload_n 0) 1 := (by decide +kernel : decode prog_6_method_7_code 107 = .ok (.aload_n 0, 1))
theorem i_Re_correct_108 : iGet M_Re_correct 108 6 6 := ⟨40, (by decide +kernel : decode prog_6_method_7_code 108 = .ok (.getfield 40, 3)), fl_Re_Re_order⟩
theorem i_Re_correct_111 : iIns M_Re_correct 111 .imul 1 := (by decide +kernel : decode prog_6_method_7_code 111 = .ok (.imul, 1))
theorem i_Re_correct_112 : iIns M_Re_correct 112 (.iload_n 1) 1 := (by decide +kernel : decode prog_6_method_7_code 112 = .ok (.iload_n 1, 1))
theorem i_Re_correct_113 : iIcmp M_Re_correct 113 .gt 158 := ⟨45, (by decide +kernel : decode prog_6_method_7_code 113 = .ok (.if_icmp .gt (45), 3)), by decide⟩
theorem i_Re_correct_116 : iIns M_Re_correct 116 (.aload_n 0) 1 := (by decide +kernel : decode prog_6_method_7_code 116 = .ok (.aload_n 0, 1))
theorem i_Re_correct_117 : iIns M_Re_correct 117 (.iload_n 1) 1 := (by decide +kernel : decode prog_6_method_7_code 117 = .ok (.iload_n 1, 1))
theorem i_Re_correct_118 : iIns M_Re_correct 118 (.iconst 1) 1 := (by decide +kernel : decode prog_6_method_7_code 118 = .ok (.iconst 1, 1))
theorem i_Re_correct_119 : iIns M_Re_correct 119 .iadd 1 := (by decide +kernel : decode prog_6_method_7_code 119 = .ok (.iadd, 1))
theorem i_Re_correct_120 : iIns M_Re_correct 120 (.aload_n 0) 1 := (by decide +kernel : decode prog_6_method_7_code 120 = .ok (.aload_n 0, 1))
theorem i_Re_correct_121 : iGet M_Re_correct 121 6 6 := ⟨40, (by decide +kernel : decode prog_6_method_7_code 121 = .ok (.getfield 40, 3)), fl_Re_Re_order⟩
theorem i_Re_correct_124 : iIns M_Re_correct 124 .isub 1 := (by decide +kernel : decode prog_6_method_7_code 124 = .ok (.isub, 1))
theorem i_Re_correct_125 : iPutX M_Re_correct 125 6 6 .int := ⟨40, (by decide +kernel : decode prog_6_method_7_code 125 = .ok (.putfield 40, 3)), px_Re_Re_order⟩
theorem i_Re_correct_128 : iIns M_Re_correct 128 (.aload_n 0) 1 := (by decide +kernel : decode prog_6_method_7_code 128 = .ok (.aload_n 0, 1))
theorem i_Re_correct_129 : iGet M_Re_correct 129 6 4 := ⟨24, (by decide +kernel : decode prog_6_method_7_code 129 = .ok (.getfield 24, 3)), fl_Re_Re_earlier⟩
theorem i_Re_correct_132 : iIns M_Re_correct 132 (.astore 4) 2 := (by decide +kernel : decode prog_6_method_7_code 132 = .ok (.astore 4, 2))
theorem i_Re_correct_134 : iIns M_Re_correct 134 (.aload_n 0) 1 := (by decide +kernel : decode prog_6_method_7_code 134 = .ok (.aload_n 0, 1))
theorem i_Re_correct_135 : iIns M_Re_correct 135 (.aload_n 0) 1 := (by decide +kernel : decode prog_6_method_7_code 135 = .ok (.aload_n 0, 1))
theorem i_Re_correct_136 : iGet M_Re_correct 136 6 5 := ⟨27, (by decide +kernel : decode prog_6_method_7_code 136 = .ok (.getfield 27, 3)), fl_Re_Re_spare⟩
theorem i_Re_correct_139 : iPutX M_Re_correct 139 6 4 (.array .int) := ⟨24, (by decide +kernel : decode prog_6_method_7_code 139 = .ok (.putfield 24, 3)), px_Re_Re_earlier⟩
theorem i_Re_correct_142 : iIns M_Re_correct 142 (.aload_n 0) 1 := (by decide +kernel : decode prog_6_method_7_code 142 = .ok (.aload_n 0, 1))
theorem i_Re_correct_143 : iIns M_Re_correct 143 (.aload 4) 2 := (by decide +kernel : decode prog_6_method_7_code 143 = .ok (.aload 4, 2))
theorem i_Re_correct_145 : iPutX M_Re_correct 145 6 5 (.array .int) := ⟨27, (by decide +kernel : decode prog_6_method_7_code 145 = .ok (.putfield 27, 3)), px_Re_Re_spare⟩
theorem i_Re_correct_148 : iIns M_Re_correct 148 (.aload_n 0) 1 := (by decide +kernel : decode prog_6_method_7_code 148 = .ok (.aload_n 0, 1))
theorem i_Re_correct_149 : iIns M_Re_correct 149 (.iload_n 2) 1 := (by decide +kernel : decode prog_6_method_7_code 149 = .ok (.iload_n 2, 1))
theorem i_Re_correct_150 : iPutX M_Re_correct 150 6 8 .int := ⟨47, (by decide +kernel : decode prog_6_method_7_code 150 = .ok (.putfield 47, 3)), px_Re_Re_earlierMiss⟩
theorem i_Re_correct_153 : iIns M_Re_correct 153 (.aload_n 0) 1 := (by decide +kernel : decode prog_6_method_7_code 153 = .ok (.aload_n 0, 1))
theorem i_Re_correct_154 : iIns M_Re_correct 154 (.iconst 0) 1 := (by decide +kernel : decode prog_6_method_7_code 154 = .ok (.iconst 0, 1))
theorem i_Re_correct_155 : iPutX M_Re_correct 155 6 7 .int := ⟨44, (by decide +kernel : decode prog_6_method_7_code 155 = .ok (.putfield 44, 3)), px_Re_Re_shift⟩
theorem i_Re_correct_158 : iIns M_Re_correct 158 .return_ 1 := (by decide +kernel : decode prog_6_method_7_code 158 = .ok (.return_, 1))
theorem i_Re_inverse_0 : iIns M_Re_inverse 0 (.iconst 1) 1 := (by decide +kernel : decode prog_6_method_8_code 0 = .ok (.iconst 1, 1))
theorem i_Re_inverse_1 : iIns M_Re_inverse 1 (.istore_n 1) 1 := (by decide +kernel : decode prog_6_method_8_code 1 = .ok (.istore_n 1, 1))
theorem i_Re_inverse_2 : iIns M_Re_inverse 2 (.iload_n 0) 1 := (by decide +kernel : decode prog_6_method_8_code 2 = .ok (.iload_n 0, 1))
theorem i_Re_inverse_3 : iIns M_Re_inverse 3 (.istore_n 2) 1 := (by decide +kernel : decode prog_6_method_8_code 3 = .ok (.istore_n 2, 1))
theorem i_Re_inverse_4 : iIns M_Re_inverse 4 (.sipush 10005) 3 := (by decide +kernel : decode prog_6_method_8_code 4 = .ok (.sipush 10005, 3))
theorem i_Re_inverse_7 : iIns M_Re_inverse 7 (.istore_n 3) 1 := (by decide +kernel : decode prog_6_method_8_code 7 = .ok (.istore_n 3, 1))
theorem i_Re_inverse_8 : iIns M_Re_inverse 8 (.iload_n 3) 1 := (by decide +kernel : decode prog_6_method_8_code 8 = .ok (.iload_n 3, 1))
theorem i_Re_inverse_9 : iIf M_Re_inverse 9 .le 41 := ⟨32, (by decide +kernel : decode prog_6_method_8_code 9 = .ok (.ifCond .le (32), 3)), by decide⟩
theorem i_Re_inverse_12 : iIns M_Re_inverse 12 (.iload_n 3) 1 := (by decide +kernel : decode prog_6_method_8_code 12 = .ok (.iload_n 3, 1))
theorem i_Re_inverse_13 : iIns M_Re_inverse 13 (.iconst 1) 1 := (by decide +kernel : decode prog_6_method_8_code 13 = .ok (.iconst 1, 1))
theorem i_Re_inverse_14 : iIns M_Re_inverse 14 .iand 1 := (by decide +kernel : decode prog_6_method_8_code 14 = .ok (.iand, 1))
theorem i_Re_inverse_15 : iIf M_Re_inverse 15 .eq 26 := ⟨11, (by decide +kernel : decode prog_6_method_8_code 15 = .ok (.ifCond .eq (11), 3)), by decide⟩
theorem i_Re_inverse_18 : iIns M_Re_inverse 18 (.iload_n 1) 1 := (by decide +kernel : decode prog_6_method_8_code 18 = .ok (.iload_n 1, 1))
theorem i_Re_inverse_19 : iIns M_Re_inverse 19 (.iload_n 2) 1 := (by decide +kernel : decode prog_6_method_8_code 19 = .ok (.iload_n 2, 1))
theorem i_Re_inverse_20 : iIns M_Re_inverse 20 .imul 1 := (by decide +kernel : decode prog_6_method_8_code 20 = .ok (.imul, 1))
theorem i_Re_inverse_21 : iIns M_Re_inverse 21 (.sipush 10007) 3 := (by decide +kernel : decode prog_6_method_8_code 21 = .ok (.sipush 10007, 3))
theorem i_Re_inverse_24 : iIns M_Re_inverse 24 .irem 1 := (by decide +kernel : decode prog_6_method_8_code 24 = .ok (.irem, 1))
theorem i_Re_inverse_25 : iIns M_Re_inverse 25 (.istore_n 1) 1 := (by decide +kernel : decode prog_6_method_8_code 25 = .ok (.istore_n 1, 1))
theorem i_Re_inverse_26 : iIns M_Re_inverse 26 (.iload_n 2) 1 := (by decide +kernel : decode prog_6_method_8_code 26 = .ok (.iload_n 2, 1))
theorem i_Re_inverse_27 : iIns M_Re_inverse 27 (.iload_n 2) 1 := (by decide +kernel : decode prog_6_method_8_code 27 = .ok (.iload_n 2, 1))
theorem i_Re_inverse_28 : iIns M_Re_inverse 28 .imul 1 := (by decide +kernel : decode prog_6_method_8_code 28 = .ok (.imul, 1))
theorem i_Re_inverse_29 : iIns M_Re_inverse 29 (.sipush 10007) 3 := (by decide +kernel : decode prog_6_method_8_code 29 = .ok (.sipush 10007, 3))
theorem i_Re_inverse_32 : iIns M_Re_inverse 32 .irem 1 := (by decide +kernel : decode prog_6_method_8_code 32 = .ok (.irem, 1))
theorem i_Re_inverse_33 : iIns M_Re_inverse 33 (.istore_n 2) 1 := (by decide +kernel : decode prog_6_method_8_code 33 = .ok (.istore_n 2, 1))
theorem i_Re_inverse_34 : iIns M_Re_inverse 34 (.iload_n 3) 1 := (by decide +kernel : decode prog_6_method_8_code 34 = .ok (.iload_n 3, 1))
theorem i_Re_inverse_35 : iIns M_Re_inverse 35 (.iconst 1) 1 := (by decide +kernel : decode prog_6_method_8_code 35 = .ok (.iconst 1, 1))
theorem i_Re_inverse_36 : iIns M_Re_inverse 36 .ishr 1 := (by decide +kernel : decode prog_6_method_8_code 36 = .ok (.ishr, 1))
theorem i_Re_inverse_37 : iIns M_Re_inverse 37 (.istore_n 3) 1 := (by decide +kernel : decode prog_6_method_8_code 37 = .ok (.istore_n 3, 1))
theorem i_Re_inverse_38 : iGoto M_Re_inverse 38 8 := ⟨-30, (by decide +kernel : decode prog_6_method_8_code 38 = .ok (.goto (-30), 3)), by decide⟩
theorem i_Re_inverse_41 : iIns M_Re_inverse 41 (.iload_n 1) 1 := (by decide +kernel : decode prog_6_method_8_code 41 = .ok (.iload_n 1, 1))
theorem i_Re_inverse_42 : iIns M_Re_inverse 42 .ireturn 1 := (by decide +kernel : decode prog_6_method_8_code 42 = .ok (.ireturn, 1))
theorem i_Re_coefficient_0 : iIns M_Re_coefficient 0 (.sipush 10007) 3 := (by decide +kernel : decode prog_6_method_2_code 0 = .ok (.sipush 10007, 3))
theorem i_Re_coefficient_3 : iIns M_Re_coefficient 3 (.aload_n 0) 1 := (by decide +kernel : decode prog_6_method_2_code 3 = .ok (.aload_n 0, 1))
theorem i_Re_coefficient_4 : iGet M_Re_coefficient 4 6 3 := ⟨21, (by decide +kernel : decode prog_6_method_2_code 4 = .ok (.getfield 21, 3)), fl_Re_Re_connection⟩
theorem i_Re_coefficient_7 : iIns M_Re_coefficient 7 (.iload_n 1) 1 := (by decide +kernel : decode prog_6_method_2_code 7 = .ok (.iload_n 1, 1))
theorem i_Re_coefficient_8 : iIns M_Re_coefficient 8 .iaload 1 := (by decide +kernel : decode prog_6_method_2_code 8 = .ok (.iaload, 1))
theorem i_Re_coefficient_9 : iIns M_Re_coefficient 9 .isub 1 := (by decide +kernel : decode prog_6_method_2_code 9 = .ok (.isub, 1))
theorem i_Re_coefficient_10 : iIns M_Re_coefficient 10 (.sipush 10007) 3 := (by decide +kernel : decode prog_6_method_2_code 10 = .ok (.sipush 10007, 3))
theorem i_Re_coefficient_13 : iIns M_Re_coefficient 13 .irem 1 := (by decide +kernel : decode prog_6_method_2_code 13 = .ok (.irem, 1))
theorem i_Re_coefficient_14 : iIns M_Re_coefficient 14 .ireturn 1 := (by decide +kernel : decode prog_6_method_2_code 14 = .ok (.ireturn, 1))
theorem i_Ma_minI_0 : iIns M_Ma_minI 0 (.iload_n 0) 1 := (by decide +kernel : decode prog_25_method_69_code 0 = .ok (.iload_n 0, 1))
theorem i_Ma_minI_1 : iIns M_Ma_minI 1 (.iload_n 1) 1 := (by decide +kernel : decode prog_25_method_69_code 1 = .ok (.iload_n 1, 1))
theorem i_Ma_minI_2 : iIcmp M_Ma_minI 2 .gt 9 := ⟨7, (by decide +kernel : decode prog_25_method_69_code 2 = .ok (.if_icmp .gt (7), 3)), by decide⟩
theorem i_Ma_minI_5 : iIns M_Ma_minI 5 (.iload_n 0) 1 := (by decide +kernel : decode prog_25_method_69_code 5 = .ok (.iload_n 0, 1))
theorem i_Ma_minI_6 : iGoto M_Ma_minI 6 10 := ⟨4, (by decide +kernel : decode prog_25_method_69_code 6 = .ok (.goto (4), 3)), by decide⟩
theorem i_Ma_minI_9 : iIns M_Ma_minI 9 (.iload_n 1) 1 := (by decide +kernel : decode prog_25_method_69_code 9 = .ok (.iload_n 1, 1))
theorem i_Ma_minI_10 : iIns M_Ma_minI 10 .ireturn 1 := (by decide +kernel : decode prog_25_method_69_code 10 = .ok (.ireturn, 1))
theorem i_Ma_maxI_0 : iIns M_Ma_maxI 0 (.iload_n 0) 1 := (by decide +kernel : decode prog_25_method_65_code 0 = .ok (.iload_n 0, 1))
theorem i_Ma_maxI_1 : iIns M_Ma_maxI 1 (.iload_n 1) 1 := (by decide +kernel : decode prog_25_method_65_code 1 = .ok (.iload_n 1, 1))
theorem i_Ma_maxI_2 : iIcmp M_Ma_maxI 2 .lt 9 := ⟨7, (by decide +kernel : decode prog_25_method_65_code 2 = .ok (.if_icmp .lt (7), 3)), by decide⟩
theorem i_Ma_maxI_5 : iIns M_Ma_maxI 5 (.iload_n 0) 1 := (by decide +kernel : decode prog_25_method_65_code 5 = .ok (.iload_n 0, 1))
theorem i_Ma_maxI_6 : iGoto M_Ma_maxI 6 10 := ⟨4, (by decide +kernel : decode prog_25_method_65_code 6 = .ok (.goto (4), 3)), by decide⟩
theorem i_Ma_maxI_9 : iIns M_Ma_maxI 9 (.iload_n 1) 1 := (by decide +kernel : decode prog_25_method_65_code 9 = .ok (.iload_n 1, 1))
theorem i_Ma_maxI_10 : iIns M_Ma_maxI 10 .ireturn 1 := (by decide +kernel : decode prog_25_method_65_code 10 = .ok (.ireturn, 1))
theorem i_Ma_absJ_0 : iIns M_Ma_absJ 0 (.lload_n 0) 1 := (by decide +kernel : decode prog_25_method_61_code 0 = .ok (.lload_n 0, 1))
theorem i_Ma_absJ_1 : iIns M_Ma_absJ 1 (.lconst 0) 1 := (by decide +kernel : decode prog_25_method_61_code 1 = .ok (.lconst 0, 1))
theorem i_Ma_absJ_2 : iIns M_Ma_absJ 2 .lcmp 1 := (by decide +kernel : decode prog_25_method_61_code 2 = .ok (.lcmp, 1))
theorem i_Ma_absJ_3 : iIf M_Ma_absJ 3 .ge 11 := ⟨8, (by decide +kernel : decode prog_25_method_61_code 3 = .ok (.ifCond .ge (8), 3)), by decide⟩
theorem i_Ma_absJ_6 : iIns M_Ma_absJ 6 (.lload_n 0) 1 := (by decide +kernel : decode prog_25_method_61_code 6 = .ok (.lload_n 0, 1))
theorem i_Ma_absJ_7 : iIns M_Ma_absJ 7 .lneg 1 := (by decide +kernel : decode prog_25_method_61_code 7 = .ok (.lneg, 1))
theorem i_Ma_absJ_8 : iGoto M_Ma_absJ 8 12 := ⟨4, (by decide +kernel : decode prog_25_method_61_code 8 = .ok (.goto (4), 3)), by decide⟩
theorem i_Ma_absJ_11 : iIns M_Ma_absJ 11 (.lload_n 0) 1 := (by decide +kernel : decode prog_25_method_61_code 11 = .ok (.lload_n 0, 1))
theorem i_Ma_absJ_12 : iIns M_Ma_absJ 12 .lreturn 1 := (by decide +kernel : decode prog_25_method_61_code 12 = .ok (.lreturn, 1))
theorem i_Ma_floorMod_0 : iIns M_Ma_floorMod 0 (.iload_n 0) 1 := (by decide +kernel : decode prog_25_method_50_code 0 = .ok (.iload_n 0, 1))
theorem i_Ma_floorMod_1 : iIns M_Ma_floorMod 1 (.iload_n 1) 1 := (by decide +kernel : decode prog_25_method_50_code 1 = .ok (.iload_n 1, 1))
theorem i_Ma_floorMod_2 : iIns M_Ma_floorMod 2 .irem 1 := (by decide +kernel : decode prog_25_method_50_code 2 = .ok (.irem, 1))
theorem i_Ma_floorMod_3 : iIns M_Ma_floorMod 3 (.istore_n 2) 1 := (by decide +kernel : decode prog_25_method_50_code 3 = .ok (.istore_n 2, 1))
theorem i_Ma_floorMod_4 : iIns M_Ma_floorMod 4 (.iload_n 0) 1 := (by decide +kernel : decode prog_25_method_50_code 4 = .ok (.iload_n 0, 1))
theorem i_Ma_floorMod_5 : iIns M_Ma_floorMod 5 (.iload_n 1) 1 := (by decide +kernel : decode prog_25_method_50_code 5 = .ok (.iload_n 1, 1))
theorem i_Ma_floorMod_6 : iIns M_Ma_floorMod 6 .ixor 1 := (by decide +kernel : decode prog_25_method_50_code 6 = .ok (.ixor, 1))
theorem i_Ma_floorMod_7 : iIf M_Ma_floorMod 7 .ge 18 := ⟨11, (by decide +kernel : decode prog_25_method_50_code 7 = .ok (.ifCond .ge (11), 3)), by decide⟩
theorem i_Ma_floorMod_10 : iIns M_Ma_floorMod 10 (.iload_n 2) 1 := (by decide +kernel : decode prog_25_method_50_code 10 = .ok (.iload_n 2, 1))
theorem i_Ma_floorMod_11 : iIf M_Ma_floorMod 11 .eq 18 := ⟨7, (by decide +kernel : decode prog_25_method_50_code 11 = .ok (.ifCond .eq (7), 3)), by decide⟩
theorem i_Ma_floorMod_14 : iIns M_Ma_floorMod 14 (.iload_n 2) 1 := (by decide +kernel : decode prog_25_method_50_code 14 = .ok (.iload_n 2, 1))
theorem i_Ma_floorMod_15 : iIns M_Ma_floorMod 15 (.iload_n 1) 1 := (by decide +kernel : decode prog_25_method_50_code 15 = .ok (.iload_n 1, 1))
theorem i_Ma_floorMod_16 : iIns M_Ma_floorMod 16 .iadd 1 := (by decide +kernel : decode prog_25_method_50_code 16 = .ok (.iadd, 1))
theorem i_Ma_floorMod_17 : iIns M_Ma_floorMod 17 .ireturn 1 := (by decide +kernel : decode prog_25_method_50_code 17 = .ok (.ireturn, 1))
theorem i_Ma_floorMod_18 : iIns M_Ma_floorMod 18 (.iload_n 2) 1 := (by decide +kernel : decode prog_25_method_50_code 18 = .ok (.iload_n 2, 1))
theorem i_Ma_floorMod_19 : iIns M_Ma_floorMod 19 .ireturn 1 := (by decide +kernel : decode prog_25_method_50_code 19 = .ok (.ireturn, 1))
theorem i_Ma_absD_0 : iIns M_Ma_absD 0 (.dload_n 0) 1 := (by decide +kernel : decode prog_25_method_64_code 0 = .ok (.dload_n 0, 1))
-- i_Ma_absD_1: call of ('java/lang/Double', 'doubleToRawLongBits', '(D)J')
theorem i_Ma_absD_4 : iLdcL M_Ma_absD 4 (9223372036854775807) := ⟨135, (by decide +kernel : decode prog_25_method_64_code 4 = .ok (.ldc2_w 135, 3)), lw_k7 201 rfl rfl⟩
theorem i_Ma_absD_7 : iIns M_Ma_absD 7 .land 1 := (by decide +kernel : decode prog_25_method_64_code 7 = .ok (.land, 1))
-- i_Ma_absD_8: call of ('java/lang/Double', 'longBitsToDouble', '(J)D')
theorem i_Ma_absD_11 : iIns M_Ma_absD 11 .dreturn 1 := (by decide +kernel : decode prog_25_method_64_code 11 = .ok (.dreturn, 1))
theorem i_Ma_minD_0 : iIns M_Ma_minD 0 (.dload_n 0) 1 := (by decide +kernel : decode prog_25_method_72_code 0 = .ok (.dload_n 0, 1))
theorem i_Ma_minD_1 : iIns M_Ma_minD 1 (.dload_n 0) 1 := (by decide +kernel : decode prog_25_method_72_code 1 = .ok (.dload_n 0, 1))
theorem i_Ma_minD_2 : iIns M_Ma_minD 2 (.dcmp .l) 1 := (by decide +kernel : decode prog_25_method_72_code 2 = .ok (.dcmp .l, 1))
theorem i_Ma_minD_3 : iIf M_Ma_minD 3 .eq 8 := ⟨5, (by decide +kernel : decode prog_25_method_72_code 3 = .ok (.ifCond .eq (5), 3)), by decide⟩
theorem i_Ma_minD_6 : iIns M_Ma_minD 6 (.dload_n 0) 1 := (by decide +kernel : decode prog_25_method_72_code 6 = .ok (.dload_n 0, 1))
theorem i_Ma_minD_7 : iIns M_Ma_minD 7 .dreturn 1 := (by decide +kernel : decode prog_25_method_72_code 7 = .ok (.dreturn, 1))
theorem i_Ma_minD_8 : iIns M_Ma_minD 8 (.dload_n 0) 1 := (by decide +kernel : decode prog_25_method_72_code 8 = .ok (.dload_n 0, 1))
theorem i_Ma_minD_9 : iIns M_Ma_minD 9 (.dconst 0) 1 := (by decide +kernel : decode prog_25_method_72_code 9 = .ok (.dconst 0, 1))
theorem i_Ma_minD_10 : iIns M_Ma_minD 10 (.dcmp .l) 1 := (by decide +kernel : decode prog_25_method_72_code 10 = .ok (.dcmp .l, 1))
theorem i_Ma_minD_11 : iIf M_Ma_minD 11 .ne 33 := ⟨22, (by decide +kernel : decode prog_25_method_72_code 11 = .ok (.ifCond .ne (22), 3)), by decide⟩
theorem i_Ma_minD_14 : iIns M_Ma_minD 14 (.dload_n 2) 1 := (by decide +kernel : decode prog_25_method_72_code 14 = .ok (.dload_n 2, 1))
theorem i_Ma_minD_15 : iIns M_Ma_minD 15 (.dconst 0) 1 := (by decide +kernel : decode prog_25_method_72_code 15 = .ok (.dconst 0, 1))
theorem i_Ma_minD_16 : iIns M_Ma_minD 16 (.dcmp .l) 1 := (by decide +kernel : decode prog_25_method_72_code 16 = .ok (.dcmp .l, 1))
theorem i_Ma_minD_17 : iIf M_Ma_minD 17 .ne 33 := ⟨16, (by decide +kernel : decode prog_25_method_72_code 17 = .ok (.ifCond .ne (16), 3)), by decide⟩
theorem i_Ma_minD_20 : iIns M_Ma_minD 20 (.dload_n 2) 1 := (by decide +kernel : decode prog_25_method_72_code 20 = .ok (.dload_n 2, 1))
-- i_Ma_minD_21: call of ('java/lang/Double', 'doubleToRawLongBits', '(D)J')
-- i_Ma_minD_24: getstatic 174
theorem i_Ma_minD_27 : iIns M_Ma_minD 27 .lcmp 1 := (by decide +kernel : decode prog_25_method_72_code 27 = .ok (.lcmp, 1))
theorem i_Ma_minD_28 : iIf M_Ma_minD 28 .ne 33 := ⟨5, (by decide +kernel : decode prog_25_method_72_code 28 = .ok (.ifCond .ne (5), 3)), by decide⟩
theorem i_Ma_minD_31 : iIns M_Ma_minD 31 (.dload_n 2) 1 := (by decide +kernel : decode prog_25_method_72_code 31 = .ok (.dload_n 2, 1))
theorem i_Ma_minD_32 : iIns M_Ma_minD 32 .dreturn 1 := (by decide +kernel : decode prog_25_method_72_code 32 = .ok (.dreturn, 1))
theorem i_Ma_minD_33 : iIns M_Ma_minD 33 (.dload_n 0) 1 := (by decide +kernel : decode prog_25_method_72_code 33 = .ok (.dload_n 0, 1))
theorem i_Ma_minD_34 : iIns M_Ma_minD 34 (.dload_n 2) 1 := (by decide +kernel : decode prog_25_method_72_code 34 = .ok (.dload_n 2, 1))
theorem i_Ma_minD_35 : iIns M_Ma_minD 35 (.dcmp .g) 1 := (by decide +kernel : decode prog_25_method_72_code 35 = .ok (.dcmp .g, 1))
theorem i_Ma_minD_36 : iIf M_Ma_minD 36 .gt 43 := ⟨7, (by decide +kernel : decode prog_25_method_72_code 36 = .ok (.ifCond .gt (7), 3)), by decide⟩
theorem i_Ma_minD_39 : iIns M_Ma_minD 39 (.dload_n 0) 1 := (by decide +kernel : decode prog_25_method_72_code 39 = .ok (.dload_n 0, 1))
theorem i_Ma_minD_40 : iGoto M_Ma_minD 40 44 := ⟨4, (by decide +kernel : decode prog_25_method_72_code 40 = .ok (.goto (4), 3)), by decide⟩
theorem i_Ma_minD_43 : iIns M_Ma_minD 43 (.dload_n 2) 1 := (by decide +kernel : decode prog_25_method_72_code 43 = .ok (.dload_n 2, 1))
theorem i_Ma_minD_44 : iIns M_Ma_minD 44 .dreturn 1 := (by decide +kernel : decode prog_25_method_72_code 44 = .ok (.dreturn, 1))
theorem i_Ma_maxD_0 : iIns M_Ma_maxD 0 (.dload_n 0) 1 := (by decide +kernel : decode prog_25_method_68_code 0 = .ok (.dload_n 0, 1))
theorem i_Ma_maxD_1 : iIns M_Ma_maxD 1 (.dload_n 0) 1 := (by decide +kernel : decode prog_25_method_68_code 1 = .ok (.dload_n 0, 1))
theorem i_Ma_maxD_2 : iIns M_Ma_maxD 2 (.dcmp .l) 1 := (by decide +kernel : decode prog_25_method_68_code 2 = .ok (.dcmp .l, 1))
theorem i_Ma_maxD_3 : iIf M_Ma_maxD 3 .eq 8 := ⟨5, (by decide +kernel : decode prog_25_method_68_code 3 = .ok (.ifCond .eq (5), 3)), by decide⟩
theorem i_Ma_maxD_6 : iIns M_Ma_maxD 6 (.dload_n 0) 1 := (by decide +kernel : decode prog_25_method_68_code 6 = .ok (.dload_n 0, 1))
theorem i_Ma_maxD_7 : iIns M_Ma_maxD 7 .dreturn 1 := (by decide +kernel : decode prog_25_method_68_code 7 = .ok (.dreturn, 1))
theorem i_Ma_maxD_8 : iIns M_Ma_maxD 8 (.dload_n 0) 1 := (by decide +kernel : decode prog_25_method_68_code 8 = .ok (.dload_n 0, 1))
theorem i_Ma_maxD_9 : iIns M_Ma_maxD 9 (.dconst 0) 1 := (by decide +kernel : decode prog_25_method_68_code 9 = .ok (.dconst 0, 1))
theorem i_Ma_maxD_10 : iIns M_Ma_maxD 10 (.dcmp .l) 1 := (by decide +kernel : decode prog_25_method_68_code 10 = .ok (.dcmp .l, 1))
theorem i_Ma_maxD_11 : iIf M_Ma_maxD 11 .ne 33 := ⟨22, (by decide +kernel : decode prog_25_method_68_code 11 = .ok (.ifCond .ne (22), 3)), by decide⟩
theorem i_Ma_maxD_14 : iIns M_Ma_maxD 14 (.dload_n 2) 1 := (by decide +kernel : decode prog_25_method_68_code 14 = .ok (.dload_n 2, 1))
theorem i_Ma_maxD_15 : iIns M_Ma_maxD 15 (.dconst 0) 1 := (by decide +kernel : decode prog_25_method_68_code 15 = .ok (.dconst 0, 1))
theorem i_Ma_maxD_16 : iIns M_Ma_maxD 16 (.dcmp .l) 1 := (by decide +kernel : decode prog_25_method_68_code 16 = .ok (.dcmp .l, 1))
theorem i_Ma_maxD_17 : iIf M_Ma_maxD 17 .ne 33 := ⟨16, (by decide +kernel : decode prog_25_method_68_code 17 = .ok (.ifCond .ne (16), 3)), by decide⟩
theorem i_Ma_maxD_20 : iIns M_Ma_maxD 20 (.dload_n 0) 1 := (by decide +kernel : decode prog_25_method_68_code 20 = .ok (.dload_n 0, 1))
-- i_Ma_maxD_21: call of ('java/lang/Double', 'doubleToRawLongBits', '(D)J')
-- i_Ma_maxD_24: getstatic 174
theorem i_Ma_maxD_27 : iIns M_Ma_maxD 27 .lcmp 1 := (by decide +kernel : decode prog_25_method_68_code 27 = .ok (.lcmp, 1))
theorem i_Ma_maxD_28 : iIf M_Ma_maxD 28 .ne 33 := ⟨5, (by decide +kernel : decode prog_25_method_68_code 28 = .ok (.ifCond .ne (5), 3)), by decide⟩
theorem i_Ma_maxD_31 : iIns M_Ma_maxD 31 (.dload_n 2) 1 := (by decide +kernel : decode prog_25_method_68_code 31 = .ok (.dload_n 2, 1))
theorem i_Ma_maxD_32 : iIns M_Ma_maxD 32 .dreturn 1 := (by decide +kernel : decode prog_25_method_68_code 32 = .ok (.dreturn, 1))
theorem i_Ma_maxD_33 : iIns M_Ma_maxD 33 (.dload_n 0) 1 := (by decide +kernel : decode prog_25_method_68_code 33 = .ok (.dload_n 0, 1))
theorem i_Ma_maxD_34 : iIns M_Ma_maxD 34 (.dload_n 2) 1 := (by decide +kernel : decode prog_25_method_68_code 34 = .ok (.dload_n 2, 1))
theorem i_Ma_maxD_35 : iIns M_Ma_maxD 35 (.dcmp .l) 1 := (by decide +kernel : decode prog_25_method_68_code 35 = .ok (.dcmp .l, 1))
theorem i_Ma_maxD_36 : iIf M_Ma_maxD 36 .lt 43 := ⟨7, (by decide +kernel : decode prog_25_method_68_code 36 = .ok (.ifCond .lt (7), 3)), by decide⟩
theorem i_Ma_maxD_39 : iIns M_Ma_maxD 39 (.dload_n 0) 1 := (by decide +kernel : decode prog_25_method_68_code 39 = .ok (.dload_n 0, 1))
theorem i_Ma_maxD_40 : iGoto M_Ma_maxD 40 44 := ⟨4, (by decide +kernel : decode prog_25_method_68_code 40 = .ok (.goto (4), 3)), by decide⟩
theorem i_Ma_maxD_43 : iIns M_Ma_maxD 43 (.dload_n 2) 1 := (by decide +kernel : decode prog_25_method_68_code 43 = .ok (.dload_n 2, 1))
theorem i_Ma_maxD_44 : iIns M_Ma_maxD 44 .dreturn 1 := (by decide +kernel : decode prog_25_method_68_code 44 = .ok (.dreturn, 1))
theorem i_Ar_fillI_0 : iIns M_Ar_fillI 0 (.iconst 0) 1 := (by decide +kernel : decode prog_35_method_103_code 0 = .ok (.iconst 0, 1))
theorem i_Ar_fillI_1 : iIns M_Ar_fillI 1 (.istore_n 2) 1 := (by decide +kernel : decode prog_35_method_103_code 1 = .ok (.istore_n 2, 1))
theorem i_Ar_fillI_2 : iIns M_Ar_fillI 2 (.aload_n 0) 1 := (by decide +kernel : decode prog_35_method_103_code 2 = .ok (.aload_n 0, 1))
theorem i_Ar_fillI_3 : iIns M_Ar_fillI 3 .arraylength 1 := (by decide +kernel : decode prog_35_method_103_code 3 = .ok (.arraylength, 1))
theorem i_Ar_fillI_4 : iIns M_Ar_fillI 4 (.istore_n 3) 1 := (by decide +kernel : decode prog_35_method_103_code 4 = .ok (.istore_n 3, 1))
theorem i_Ar_fillI_5 : iIns M_Ar_fillI 5 (.iload_n 2) 1 := (by decide +kernel : decode prog_35_method_103_code 5 = .ok (.iload_n 2, 1))
theorem i_Ar_fillI_6 : iIns M_Ar_fillI 6 (.iload_n 3) 1 := (by decide +kernel : decode prog_35_method_103_code 6 = .ok (.iload_n 3, 1))
theorem i_Ar_fillI_7 : iIcmp M_Ar_fillI 7 .ge 20 := ⟨13, (by decide +kernel : decode prog_35_method_103_code 7 = .ok (.if_icmp .ge (13), 3)), by decide⟩
theorem i_Ar_fillI_10 : iIns M_Ar_fillI 10 (.aload_n 0) 1 := (by decide +kernel : decode prog_35_method_103_code 10 = .ok (.aload_n 0, 1))
theorem i_Ar_fillI_11 : iIns M_Ar_fillI 11 (.iload_n 2) 1 := (by decide +kernel : decode prog_35_method_103_code 11 = .ok (.iload_n 2, 1))
theorem i_Ar_fillI_12 : iIns M_Ar_fillI 12 (.iload_n 1) 1 := (by decide +kernel : decode prog_35_method_103_code 12 = .ok (.iload_n 1, 1))
theorem i_Ar_fillI_13 : iIns M_Ar_fillI 13 .iastore 1 := (by decide +kernel : decode prog_35_method_103_code 13 = .ok (.iastore, 1))
theorem i_Ar_fillI_14 : iIns M_Ar_fillI 14 (.iinc 2 (1)) 3 := (by decide +kernel : decode prog_35_method_103_code 14 = .ok (.iinc 2 (1), 3))
theorem i_Ar_fillI_17 : iGoto M_Ar_fillI 17 5 := ⟨-12, (by decide +kernel : decode prog_35_method_103_code 17 = .ok (.goto (-12), 3)), by decide⟩
theorem i_Ar_fillI_20 : iIns M_Ar_fillI 20 .return_ 1 := (by decide +kernel : decode prog_35_method_103_code 20 = .ok (.return_, 1))
theorem i_Ar_fillJ_0 : iIns M_Ar_fillJ 0 (.iconst 0) 1 := (by decide +kernel : decode prog_35_method_101_code 0 = .ok (.iconst 0, 1))
theorem i_Ar_fillJ_1 : iIns M_Ar_fillJ 1 (.istore_n 3) 1 := (by decide +kernel : decode prog_35_method_101_code 1 = .ok (.istore_n 3, 1))
theorem i_Ar_fillJ_2 : iIns M_Ar_fillJ 2 (.aload_n 0) 1 := (by decide +kernel : decode prog_35_method_101_code 2 = .ok (.aload_n 0, 1))
theorem i_Ar_fillJ_3 : iIns M_Ar_fillJ 3 .arraylength 1 := (by decide +kernel : decode prog_35_method_101_code 3 = .ok (.arraylength, 1))
theorem i_Ar_fillJ_4 : iIns M_Ar_fillJ 4 (.istore 4) 2 := (by decide +kernel : decode prog_35_method_101_code 4 = .ok (.istore 4, 2))
theorem i_Ar_fillJ_6 : iIns M_Ar_fillJ 6 (.iload_n 3) 1 := (by decide +kernel : decode prog_35_method_101_code 6 = .ok (.iload_n 3, 1))
theorem i_Ar_fillJ_7 : iIns M_Ar_fillJ 7 (.iload 4) 2 := (by decide +kernel : decode prog_35_method_101_code 7 = .ok (.iload 4, 2))
theorem i_Ar_fillJ_9 : iIcmp M_Ar_fillJ 9 .ge 22 := ⟨13, (by decide +kernel : decode prog_35_method_101_code 9 = .ok (.if_icmp .ge (13), 3)), by decide⟩
theorem i_Ar_fillJ_12 : iIns M_Ar_fillJ 12 (.aload_n 0) 1 := (by decide +kernel : decode prog_35_method_101_code 12 = .ok (.aload_n 0, 1))
theorem i_Ar_fillJ_13 : iIns M_Ar_fillJ 13 (.iload_n 3) 1 := (by decide +kernel : decode prog_35_method_101_code 13 = .ok (.iload_n 3, 1))
theorem i_Ar_fillJ_14 : iIns M_Ar_fillJ 14 (.lload_n 1) 1 := (by decide +kernel : decode prog_35_method_101_code 14 = .ok (.lload_n 1, 1))
theorem i_Ar_fillJ_15 : iIns M_Ar_fillJ 15 .lastore 1 := (by decide +kernel : decode prog_35_method_101_code 15 = .ok (.lastore, 1))
theorem i_Ar_fillJ_16 : iIns M_Ar_fillJ 16 (.iinc 3 (1)) 3 := (by decide +kernel : decode prog_35_method_101_code 16 = .ok (.iinc 3 (1), 3))
theorem i_Ar_fillJ_19 : iGoto M_Ar_fillJ 19 6 := ⟨-13, (by decide +kernel : decode prog_35_method_101_code 19 = .ok (.goto (-13), 3)), by decide⟩
theorem i_Ar_fillJ_22 : iIns M_Ar_fillJ 22 .return_ 1 := (by decide +kernel : decode prog_35_method_101_code 22 = .ok (.return_, 1))

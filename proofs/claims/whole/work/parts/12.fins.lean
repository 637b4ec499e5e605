/-! instructions: by program (wip/whole/gen12.py) -/
theorem i_Md_total_0 : iIns M_Md_total 0 (.lconst 0) 1 := (by decide +kernel : decode prog_14_method_39_code 0 = .ok (.lconst 0, 1))
theorem i_Md_total_1 : iIns M_Md_total 1 (.lstore_n 1) 1 := (by decide +kernel : decode prog_14_method_39_code 1 = .ok (.lstore_n 1, 1))
theorem i_Md_total_2 : iIns M_Md_total 2 (.iconst 0) 1 := (by decide +kernel : decode prog_14_method_39_code 2 = .ok (.iconst 0, 1))
theorem i_Md_total_3 : iIns M_Md_total 3 (.istore_n 3) 1 := (by decide +kernel : decode prog_14_method_39_code 3 = .ok (.istore_n 3, 1))
theorem i_Md_total_4 : iIns M_Md_total 4 (.iload_n 3) 1 := (by decide +kernel : decode prog_14_method_39_code 4 = .ok (.iload_n 3, 1))
theorem i_Md_total_5 : iIns M_Md_total 5 (.bipush 6) 2 := (by decide +kernel : decode prog_14_method_39_code 5 = .ok (.bipush 6, 2))
theorem i_Md_total_7 : iIcmp M_Md_total 7 .ge 42 := ⟨35, (by decide +kernel : decode prog_14_method_39_code 7 = .ok (.if_icmp .ge (35), 3)), by decide⟩
theorem i_Md_total_10 : iIns M_Md_total 10 (.lload_n 1) 1 := (by decide +kernel : decode prog_14_method_39_code 10 = .ok (.lload_n 1, 1))
theorem i_Md_total_11 : iIns M_Md_total 11 (.lconst 0) 1 := (by decide +kernel : decode prog_14_method_39_code 11 = .ok (.lconst 0, 1))
theorem i_Md_total_12 : iIns M_Md_total 12 .lcmp 1 := (by decide +kernel : decode prog_14_method_39_code 12 = .ok (.lcmp, 1))
theorem i_Md_total_13 : iIf M_Md_total 13 .lt 24 := ⟨11, (by decide +kernel : decode prog_14_method_39_code 13 = .ok (.ifCond .lt (11), 3)), by decide⟩
theorem i_Md_total_16 : iIns M_Md_total 16 (.aload_n 0) 1 := (by decide +kernel : decode prog_14_method_39_code 16 = .ok (.aload_n 0, 1))
theorem i_Md_total_17 : iIns M_Md_total 17 (.iload_n 3) 1 := (by decide +kernel : decode prog_14_method_39_code 17 = .ok (.iload_n 3, 1))
theorem i_Md_total_18 : iIns M_Md_total 18 .laload 1 := (by decide +kernel : decode prog_14_method_39_code 18 = .ok (.laload, 1))
theorem i_Md_total_19 : iIns M_Md_total 19 (.lconst 0) 1 := (by decide +kernel : decode prog_14_method_39_code 19 = .ok (.lconst 0, 1))
theorem i_Md_total_20 : iIns M_Md_total 20 .lcmp 1 := (by decide +kernel : decode prog_14_method_39_code 20 = .ok (.lcmp, 1))
theorem i_Md_total_21 : iIf M_Md_total 21 .ge 30 := ⟨9, (by decide +kernel : decode prog_14_method_39_code 21 = .ok (.ifCond .ge (9), 3)), by decide⟩
theorem i_Md_total_24 : iLdcL M_Md_total 24 (-1) := ⟨177, (by decide +kernel : decode prog_14_method_39_code 24 = .ok (.ldc2_w 177, 3)), lw_k7 45 rfl rfl⟩
theorem i_Md_total_27 : iGoto M_Md_total 27 35 := ⟨8, (by decide +kernel : decode prog_14_method_39_code 27 = .ok (.goto (8), 3)), by decide⟩
theorem i_Md_total_30 : iIns M_Md_total 30 (.lload_n 1) 1 := (by decide +kernel : decode prog_14_method_39_code 30 = .ok (.lload_n 1, 1))
theorem i_Md_total_31 : iIns M_Md_total 31 (.aload_n 0) 1 := (by decide +kernel : decode prog_14_method_39_code 31 = .ok (.aload_n 0, 1))
theorem i_Md_total_32 : iIns M_Md_total 32 (.iload_n 3) 1 := (by decide +kernel : decode prog_14_method_39_code 32 = .ok (.iload_n 3, 1))
theorem i_Md_total_33 : iIns M_Md_total 33 .laload 1 := (by decide +kernel : decode prog_14_method_39_code 33 = .ok (.laload, 1))
theorem i_Md_total_34 : iIns M_Md_total 34 .ladd 1 := (by decide +kernel : decode prog_14_method_39_code 34 = .ok (.ladd, 1))
theorem i_Md_total_35 : iIns M_Md_total 35 (.lstore_n 1) 1 := (by decide +kernel : decode prog_14_method_39_code 35 = .ok (.lstore_n 1, 1))
theorem i_Md_total_36 : iIns M_Md_total 36 (.iinc 3 (1)) 3 := (by decide +kernel : decode prog_14_method_39_code 36 = .ok (.iinc 3 (1), 3))
theorem i_Md_total_39 : iGoto M_Md_total 39 4 := ⟨-35, (by decide +kernel : decode prog_14_method_39_code 39 = .ok (.goto (-35), 3)), by decide⟩
theorem i_Md_total_42 : iIns M_Md_total 42 (.lload_n 1) 1 := (by decide +kernel : decode prog_14_method_39_code 42 = .ok (.lload_n 1, 1))
theorem i_Md_total_43 : iIns M_Md_total 43 .lreturn 1 := (by decide +kernel : decode prog_14_method_39_code 43 = .ok (.lreturn, 1))
theorem i_Md_countAfter_0 : iIns M_Md_countAfter 0 (.aload_n 0) 1 := (by decide +kernel : decode prog_14_method_42_code 0 = .ok (.aload_n 0, 1))
theorem i_Md_countAfter_1 : iIns M_Md_countAfter 1 (.iload_n 1) 1 := (by decide +kernel : decode prog_14_method_42_code 1 = .ok (.iload_n 1, 1))
theorem i_Md_countAfter_2 : iCallS M_Md_countAfter 2 M_Md_isTable 1 := ⟨⟨112, (by decide +kernel : decode prog_14_method_42_code 2 = .ok (.invokestatic 112, 3)), lw_k6 156 rfl rfl⟩, sm_Md_isTable, me_Md_isTable, pn_Md_isTable⟩
theorem i_Md_countAfter_5 : iIf M_Md_countAfter 5 .eq 15 := ⟨10, (by decide +kernel : decode prog_14_method_42_code 5 = .ok (.ifCond .eq (10), 3)), by decide⟩
theorem i_Md_countAfter_8 : iIns M_Md_countAfter 8 (.iload_n 3) 1 := (by decide +kernel : decode prog_14_method_42_code 8 = .ok (.iload_n 3, 1))
theorem i_Md_countAfter_9 : iCallS M_Md_countAfter 9 M_Md_isLetter 1 := ⟨⟨116, (by decide +kernel : decode prog_14_method_42_code 9 = .ok (.invokestatic 116, 3)), lw_k6 159 rfl rfl⟩, sm_Md_isLetter, me_Md_isLetter, pn_Md_isLetter⟩
theorem i_Md_countAfter_12 : iIf M_Md_countAfter 12 .ne 19 := ⟨7, (by decide +kernel : decode prog_14_method_42_code 12 = .ok (.ifCond .ne (7), 3)), by decide⟩
theorem i_Md_countAfter_15 : iIns M_Md_countAfter 15 (.iconst 1) 1 := (by decide +kernel : decode prog_14_method_42_code 15 = .ok (.iconst 1, 1))
theorem i_Md_countAfter_16 : iGoto M_Md_countAfter 16 60 := ⟨44, (by decide +kernel : decode prog_14_method_42_code 16 = .ok (.goto (44), 3)), by decide⟩
theorem i_Md_countAfter_19 : iIns M_Md_countAfter 19 (.iload_n 2) 1 := (by decide +kernel : decode prog_14_method_42_code 19 = .ok (.iload_n 2, 1))
theorem i_Md_countAfter_20 : iIns M_Md_countAfter 20 (.iconst 0) 1 := (by decide +kernel : decode prog_14_method_42_code 20 = .ok (.iconst 0, 1))
theorem i_Md_countAfter_21 : iIns M_Md_countAfter 21 (.sipush 1000) 3 := (by decide +kernel : decode prog_14_method_42_code 21 = .ok (.sipush 1000, 3))
theorem i_Md_countAfter_24 : iCallS M_Md_countAfter 24 M_Md_in 3 := ⟨⟨101, (by decide +kernel : decode prog_14_method_42_code 24 = .ok (.invokestatic 101, 3)), lw_k6 141 rfl rfl⟩, sm_Md_in, me_Md_in, pn_Md_in⟩
theorem i_Md_countAfter_27 : iIf M_Md_countAfter 27 .ne 34 := ⟨7, (by decide +kernel : decode prog_14_method_42_code 27 = .ok (.ifCond .ne (7), 3)), by decide⟩
theorem i_Md_countAfter_30 : iIns M_Md_countAfter 30 (.iconst 2) 1 := (by decide +kernel : decode prog_14_method_42_code 30 = .ok (.iconst 2, 1))
theorem i_Md_countAfter_31 : iGoto M_Md_countAfter 31 60 := ⟨29, (by decide +kernel : decode prog_14_method_42_code 31 = .ok (.goto (29), 3)), by decide⟩
theorem i_Md_countAfter_34 : iIns M_Md_countAfter 34 (.aload_n 0) 1 := (by decide +kernel : decode prog_14_method_42_code 34 = .ok (.aload_n 0, 1))
theorem i_Md_countAfter_35 : iIns M_Md_countAfter 35 (.iload_n 1) 1 := (by decide +kernel : decode prog_14_method_42_code 35 = .ok (.iload_n 1, 1))
theorem i_Md_countAfter_36 : iCallV M_Md_countAfter 36 M_Md_unfit 1 14 := ⟨⟨189, (by decide +kernel : decode prog_14_method_42_code 36 = .ok (.invokevirtual 189, 3)), lw_k7 26 rfl rfl⟩, vm_Md_unfit, me_Md_unfit, pn_Md_unfit⟩
theorem i_Md_countAfter_39 : iIf M_Md_countAfter 39 .le 46 := ⟨7, (by decide +kernel : decode prog_14_method_42_code 39 = .ok (.ifCond .le (7), 3)), by decide⟩
theorem i_Md_countAfter_42 : iIns M_Md_countAfter 42 (.iconst 3) 1 := (by decide +kernel : decode prog_14_method_42_code 42 = .ok (.iconst 3, 1))
theorem i_Md_countAfter_43 : iGoto M_Md_countAfter 43 60 := ⟨17, (by decide +kernel : decode prog_14_method_42_code 43 = .ok (.goto (17), 3)), by decide⟩
theorem i_Md_countAfter_46 : iIns M_Md_countAfter 46 (.aload_n 0) 1 := (by decide +kernel : decode prog_14_method_42_code 46 = .ok (.aload_n 0, 1))
theorem i_Md_countAfter_47 : iIns M_Md_countAfter 47 (.iload_n 1) 1 := (by decide +kernel : decode prog_14_method_42_code 47 = .ok (.iload_n 1, 1))
theorem i_Md_countAfter_48 : iIns M_Md_countAfter 48 (.iload_n 2) 1 := (by decide +kernel : decode prog_14_method_42_code 48 = .ok (.iload_n 2, 1))
theorem i_Md_countAfter_49 : iCallV M_Md_countAfter 49 M_Md_count 2 14 := ⟨⟨192, (by decide +kernel : decode prog_14_method_42_code 49 = .ok (.invokevirtual 192, 3)), lw_k7 30 rfl rfl⟩, vm_Md_count, me_Md_count, pn_Md_count⟩
theorem i_Md_countAfter_52 : iIf M_Md_countAfter 52 .ne 59 := ⟨7, (by decide +kernel : decode prog_14_method_42_code 52 = .ok (.ifCond .ne (7), 3)), by decide⟩
theorem i_Md_countAfter_55 : iIns M_Md_countAfter 55 (.iconst 4) 1 := (by decide +kernel : decode prog_14_method_42_code 55 = .ok (.iconst 4, 1))
theorem i_Md_countAfter_56 : iGoto M_Md_countAfter 56 60 := ⟨4, (by decide +kernel : decode prog_14_method_42_code 56 = .ok (.goto (4), 3)), by decide⟩
theorem i_Md_countAfter_59 : iIns M_Md_countAfter 59 (.iconst 0) 1 := (by decide +kernel : decode prog_14_method_42_code 59 = .ok (.iconst 0, 1))
theorem i_Md_countAfter_60 : iPutX M_Md_countAfter 60 14 0 .int := ⟨97, (by decide +kernel : decode prog_14_method_42_code 60 = .ok (.putfield 97, 3)), px_Md_Md_thrown⟩
theorem i_Md_countAfter_63 : iIns M_Md_countAfter 63 (.aload_n 0) 1 := (by decide +kernel : decode prog_14_method_42_code 63 = .ok (.aload_n 0, 1))
theorem i_Md_countAfter_64 : iGet M_Md_countAfter 64 14 0 := ⟨97, (by decide +kernel : decode prog_14_method_42_code 64 = .ok (.getfield 97, 3)), fl_Md_Md_thrown⟩
theorem i_Md_countAfter_67 : iIf M_Md_countAfter 67 .le 74 := ⟨7, (by decide +kernel : decode prog_14_method_42_code 67 = .ok (.ifCond .le (7), 3)), by decide⟩
theorem i_Md_countAfter_70 : iIns M_Md_countAfter 70 (.lconst 0) 1 := (by decide +kernel : decode prog_14_method_42_code 70 = .ok (.lconst 0, 1))
theorem i_Md_countAfter_71 : iGoto M_Md_countAfter 71 80 := ⟨9, (by decide +kernel : decode prog_14_method_42_code 71 = .ok (.goto (9), 3)), by decide⟩
theorem i_Md_countAfter_74 : iIns M_Md_countAfter 74 (.aload_n 0) 1 := (by decide +kernel : decode prog_14_method_42_code 74 = .ok (.aload_n 0, 1))
theorem i_Md_countAfter_75 : iGet M_Md_countAfter 75 14 16 := ⟨43, (by decide +kernel : decode prog_14_method_42_code 75 = .ok (.getfield 43, 3)), fl_Md_Md_counts⟩
theorem i_Md_countAfter_78 : iIns M_Md_countAfter 78 (.iload_n 3) 1 := (by decide +kernel : decode prog_14_method_42_code 78 = .ok (.iload_n 3, 1))
theorem i_Md_countAfter_79 : iIns M_Md_countAfter 79 .laload 1 := (by decide +kernel : decode prog_14_method_42_code 79 = .ok (.laload, 1))
theorem i_Md_countAfter_80 : iIns M_Md_countAfter 80 .lreturn 1 := (by decide +kernel : decode prog_14_method_42_code 80 = .ok (.lreturn, 1))
theorem i_Md_growthKind_0 : iIns M_Md_growthKind 0 (.aload_n 0) 1 := (by decide +kernel : decode prog_14_method_48_code 0 = .ok (.aload_n 0, 1))
theorem i_Md_growthKind_1 : iIns M_Md_growthKind 1 (.iload_n 1) 1 := (by decide +kernel : decode prog_14_method_48_code 1 = .ok (.iload_n 1, 1))
theorem i_Md_growthKind_2 : iCallS M_Md_growthKind 2 M_Md_isTable 1 := ⟨⟨112, (by decide +kernel : decode prog_14_method_48_code 2 = .ok (.invokestatic 112, 3)), lw_k6 156 rfl rfl⟩, sm_Md_isTable, me_Md_isTable, pn_Md_isTable⟩
theorem i_Md_growthKind_5 : iIf M_Md_growthKind 5 .ne 12 := ⟨7, (by decide +kernel : decode prog_14_method_48_code 5 = .ok (.ifCond .ne (7), 3)), by decide⟩
theorem i_Md_growthKind_8 : iIns M_Md_growthKind 8 (.iconst 1) 1 := (by decide +kernel : decode prog_14_method_48_code 8 = .ok (.iconst 1, 1))
theorem i_Md_growthKind_9 : iGoto M_Md_growthKind 9 25 := ⟨16, (by decide +kernel : decode prog_14_method_48_code 9 = .ok (.goto (16), 3)), by decide⟩
theorem i_Md_growthKind_12 : iIns M_Md_growthKind 12 (.aload_n 0) 1 := (by decide +kernel : decode prog_14_method_48_code 12 = .ok (.aload_n 0, 1))
theorem i_Md_growthKind_13 : iIns M_Md_growthKind 13 (.iload_n 1) 1 := (by decide +kernel : decode prog_14_method_48_code 13 = .ok (.iload_n 1, 1))
theorem i_Md_growthKind_14 : iCallV M_Md_growthKind 14 M_Md_unfit 1 14 := ⟨⟨189, (by decide +kernel : decode prog_14_method_48_code 14 = .ok (.invokevirtual 189, 3)), lw_k7 26 rfl rfl⟩, vm_Md_unfit, me_Md_unfit, pn_Md_unfit⟩
theorem i_Md_growthKind_17 : iIf M_Md_growthKind 17 .le 24 := ⟨7, (by decide +kernel : decode prog_14_method_48_code 17 = .ok (.ifCond .le (7), 3)), by decide⟩
theorem i_Md_growthKind_20 : iIns M_Md_growthKind 20 (.iconst 2) 1 := (by decide +kernel : decode prog_14_method_48_code 20 = .ok (.iconst 2, 1))
theorem i_Md_growthKind_21 : iGoto M_Md_growthKind 21 25 := ⟨4, (by decide +kernel : decode prog_14_method_48_code 21 = .ok (.goto (4), 3)), by decide⟩
theorem i_Md_growthKind_24 : iIns M_Md_growthKind 24 (.iconst 0) 1 := (by decide +kernel : decode prog_14_method_48_code 24 = .ok (.iconst 0, 1))
theorem i_Md_growthKind_25 : iPutX M_Md_growthKind 25 14 0 .int := ⟨97, (by decide +kernel : decode prog_14_method_48_code 25 = .ok (.putfield 97, 3)), px_Md_Md_thrown⟩
theorem i_Md_growthKind_28 : iIns M_Md_growthKind 28 (.aload_n 0) 1 := (by decide +kernel : decode prog_14_method_48_code 28 = .ok (.aload_n 0, 1))
theorem i_Md_growthKind_29 : iGet M_Md_growthKind 29 14 0 := ⟨97, (by decide +kernel : decode prog_14_method_48_code 29 = .ok (.getfield 97, 3)), fl_Md_Md_thrown⟩
theorem i_Md_growthKind_32 : iIf M_Md_growthKind 32 .le 37 := ⟨5, (by decide +kernel : decode prog_14_method_48_code 32 = .ok (.ifCond .le (5), 3)), by decide⟩
theorem i_Md_growthKind_35 : iIns M_Md_growthKind 35 (.iconst 0) 1 := (by decide +kernel : decode prog_14_method_48_code 35 = .ok (.iconst 0, 1))
theorem i_Md_growthKind_36 : iIns M_Md_growthKind 36 .ireturn 1 := (by decide +kernel : decode prog_14_method_48_code 36 = .ok (.ireturn, 1))
theorem i_Md_growthKind_37 : iIns M_Md_growthKind 37 (.aload_n 0) 1 := (by decide +kernel : decode prog_14_method_48_code 37 = .ok (.aload_n 0, 1))
theorem i_Md_growthKind_38 : iIns M_Md_growthKind 38 (.iload_n 1) 1 := (by decide +kernel : decode prog_14_method_48_code 38 = .ok (.iload_n 1, 1))
theorem i_Md_growthKind_39 : iCallV M_Md_growthKind 39 M_Md_grows 1 14 := ⟨⟨213, (by decide +kernel : decode prog_14_method_48_code 39 = .ok (.invokevirtual 213, 3)), lw_k7 54 rfl rfl⟩, vm_Md_grows, me_Md_grows, pn_Md_grows⟩
theorem i_Md_growthKind_42 : iIns M_Md_growthKind 42 (.istore_n 2) 1 := (by decide +kernel : decode prog_14_method_48_code 42 = .ok (.istore_n 2, 1))
theorem i_Md_growthKind_43 : iIns M_Md_growthKind 43 (.iload_n 2) 1 := (by decide +kernel : decode prog_14_method_48_code 43 = .ok (.iload_n 2, 1))
theorem i_Md_growthKind_44 : iIf M_Md_growthKind 44 .ge 51 := ⟨7, (by decide +kernel : decode prog_14_method_48_code 44 = .ok (.ifCond .ge (7), 3)), by decide⟩
theorem i_Md_growthKind_47 : iIns M_Md_growthKind 47 (.iconst 0) 1 := (by decide +kernel : decode prog_14_method_48_code 47 = .ok (.iconst 0, 1))
theorem i_Md_growthKind_48 : iGoto M_Md_growthKind 48 71 := ⟨23, (by decide +kernel : decode prog_14_method_48_code 48 = .ok (.goto (23), 3)), by decide⟩
theorem i_Md_growthKind_51 : iIns M_Md_growthKind 51 (.iload_n 2) 1 := (by decide +kernel : decode prog_14_method_48_code 51 = .ok (.iload_n 2, 1))
theorem i_Md_growthKind_52 : iIf M_Md_growthKind 52 .ne 59 := ⟨7, (by decide +kernel : decode prog_14_method_48_code 52 = .ok (.ifCond .ne (7), 3)), by decide⟩
theorem i_Md_growthKind_55 : iIns M_Md_growthKind 55 (.iconst 1) 1 := (by decide +kernel : decode prog_14_method_48_code 55 = .ok (.iconst 1, 1))
theorem i_Md_growthKind_56 : iGoto M_Md_growthKind 56 71 := ⟨15, (by decide +kernel : decode prog_14_method_48_code 56 = .ok (.goto (15), 3)), by decide⟩
theorem i_Md_growthKind_59 : iIns M_Md_growthKind 59 (.iload_n 2) 1 := (by decide +kernel : decode prog_14_method_48_code 59 = .ok (.iload_n 2, 1))
theorem i_Md_growthKind_60 : iIns M_Md_growthKind 60 (.sipush 1000) 3 := (by decide +kernel : decode prog_14_method_48_code 60 = .ok (.sipush 1000, 3))
theorem i_Md_growthKind_63 : iIcmp M_Md_growthKind 63 .ge 70 := ⟨7, (by decide +kernel : decode prog_14_method_48_code 63 = .ok (.if_icmp .ge (7), 3)), by decide⟩
theorem i_Md_growthKind_66 : iIns M_Md_growthKind 66 (.iconst 2) 1 := (by decide +kernel : decode prog_14_method_48_code 66 = .ok (.iconst 2, 1))
theorem i_Md_growthKind_67 : iGoto M_Md_growthKind 67 71 := ⟨4, (by decide +kernel : decode prog_14_method_48_code 67 = .ok (.goto (4), 3)), by decide⟩
theorem i_Md_growthKind_70 : iIns M_Md_growthKind 70 (.iconst 3) 1 := (by decide +kernel : decode prog_14_method_48_code 70 = .ok (.iconst 3, 1))
theorem i_Md_growthKind_71 : iIns M_Md_growthKind 71 .ireturn 1 := (by decide +kernel : decode prog_14_method_48_code 71 = .ok (.ireturn, 1))
theorem i_Md_grows_0 : iIns M_Md_grows 0 (.aload_n 0) 1 := (by decide +kernel : decode prog_14_method_47_code 0 = .ok (.aload_n 0, 1))
theorem i_Md_grows_1 : iIns M_Md_grows 1 (.iload_n 1) 1 := (by decide +kernel : decode prog_14_method_47_code 1 = .ok (.iload_n 1, 1))
theorem i_Md_grows_2 : iCallV M_Md_grows 2 M_Md_findLiving 1 14 := ⟨⟨206, (by decide +kernel : decode prog_14_method_47_code 2 = .ok (.invokevirtual 206, 3)), lw_k7 58 rfl rfl⟩, vm_Md_findLiving, me_Md_findLiving, pn_Md_findLiving⟩
theorem i_Md_grows_5 : iIns M_Md_grows 5 (.aload_n 0) 1 := (by decide +kernel : decode prog_14_method_47_code 5 = .ok (.aload_n 0, 1))
theorem i_Md_grows_6 : iIns M_Md_grows 6 (.iload_n 1) 1 := (by decide +kernel : decode prog_14_method_47_code 6 = .ok (.iload_n 1, 1))
theorem i_Md_grows_7 : iCallV M_Md_grows 7 M_Md_findWays 1 14 := ⟨⟨210, (by decide +kernel : decode prog_14_method_47_code 7 = .ok (.invokevirtual 210, 3)), lw_k7 62 rfl rfl⟩, vm_Md_findWays, me_Md_findWays, pn_Md_findWays⟩
theorem i_Md_grows_10 : iIns M_Md_grows 10 (.iconst (-1)) 1 := (by decide +kernel : decode prog_14_method_47_code 10 = .ok (.iconst (-1), 1))
theorem i_Md_grows_11 : iIns M_Md_grows 11 (.istore_n 2) 1 := (by decide +kernel : decode prog_14_method_47_code 11 = .ok (.istore_n 2, 1))
theorem i_Md_grows_12 : iIns M_Md_grows 12 (.iconst 1) 1 := (by decide +kernel : decode prog_14_method_47_code 12 = .ok (.iconst 1, 1))
theorem i_Md_grows_13 : iIns M_Md_grows 13 (.istore_n 3) 1 := (by decide +kernel : decode prog_14_method_47_code 13 = .ok (.istore_n 3, 1))
theorem i_Md_grows_14 : iIns M_Md_grows 14 (.iload_n 3) 1 := (by decide +kernel : decode prog_14_method_47_code 14 = .ok (.iload_n 3, 1))
theorem i_Md_grows_15 : iIns M_Md_grows 15 (.aload_n 0) 1 := (by decide +kernel : decode prog_14_method_47_code 15 = .ok (.aload_n 0, 1))
theorem i_Md_grows_16 : iGet M_Md_grows 16 14 2 := ⟨13, (by decide +kernel : decode prog_14_method_47_code 16 = .ok (.getfield 13, 3)), fl_Md_Md_word⟩
theorem i_Md_grows_19 : iIns M_Md_grows 19 (.iconst 0) 1 := (by decide +kernel : decode prog_14_method_47_code 19 = .ok (.iconst 0, 1))
theorem i_Md_grows_20 : iIns M_Md_grows 20 .iaload 1 := (by decide +kernel : decode prog_14_method_47_code 20 = .ok (.iaload, 1))
theorem i_Md_grows_21 : iIcmp M_Md_grows 21 .gt 206 := ⟨185, (by decide +kernel : decode prog_14_method_47_code 21 = .ok (.if_icmp .gt (185), 3)), by decide⟩
theorem i_Md_grows_24 : iIns M_Md_grows 24 (.iconst 0) 1 := (by decide +kernel : decode prog_14_method_47_code 24 = .ok (.iconst 0, 1))
theorem i_Md_grows_25 : iIns M_Md_grows 25 (.istore 4) 2 := (by decide +kernel : decode prog_14_method_47_code 25 = .ok (.istore 4, 2))
theorem i_Md_grows_27 : iIns M_Md_grows 27 (.iload 4) 2 := (by decide +kernel : decode prog_14_method_47_code 27 = .ok (.iload 4, 2))
theorem i_Md_grows_29 : iIns M_Md_grows 29 (.bipush 6) 2 := (by decide +kernel : decode prog_14_method_47_code 29 = .ok (.bipush 6, 2))
theorem i_Md_grows_31 : iIcmp M_Md_grows 31 .ge 200 := ⟨169, (by decide +kernel : decode prog_14_method_47_code 31 = .ok (.if_icmp .ge (169), 3)), by decide⟩
theorem i_Md_grows_34 : iIns M_Md_grows 34 (.aload_n 0) 1 := (by decide +kernel : decode prog_14_method_47_code 34 = .ok (.aload_n 0, 1))
theorem i_Md_grows_35 : iGet M_Md_grows 35 14 18 := ⟨50, (by decide +kernel : decode prog_14_method_47_code 35 = .ok (.getfield 50, 3)), fl_Md_Md_lives⟩
theorem i_Md_grows_38 : iIns M_Md_grows 38 (.iload 4) 2 := (by decide +kernel : decode prog_14_method_47_code 38 = .ok (.iload 4, 2))
theorem i_Md_grows_40 : iIns M_Md_grows 40 .baload 1 := (by decide +kernel : decode prog_14_method_47_code 40 = .ok (.baload, 1))
theorem i_Md_grows_41 : iIf M_Md_grows 41 .eq 74 := ⟨33, (by decide +kernel : decode prog_14_method_47_code 41 = .ok (.ifCond .eq (33), 3)), by decide⟩
theorem i_Md_grows_44 : iIns M_Md_grows 44 (.iload 4) 2 := (by decide +kernel : decode prog_14_method_47_code 44 = .ok (.iload 4, 2))
theorem i_Md_grows_46 : iIns M_Md_grows 46 (.aload_n 0) 1 := (by decide +kernel : decode prog_14_method_47_code 46 = .ok (.aload_n 0, 1))
theorem i_Md_grows_47 : iGet M_Md_grows 47 14 2 := ⟨13, (by decide +kernel : decode prog_14_method_47_code 47 = .ok (.getfield 13, 3)), fl_Md_Md_word⟩
theorem i_Md_grows_50 : iIns M_Md_grows 50 (.iload_n 3) 1 := (by decide +kernel : decode prog_14_method_47_code 50 = .ok (.iload_n 3, 1))
theorem i_Md_grows_51 : iIns M_Md_grows 51 .iaload 1 := (by decide +kernel : decode prog_14_method_47_code 51 = .ok (.iaload, 1))
theorem i_Md_grows_52 : iIcmp M_Md_grows 52 .eq 70 := ⟨18, (by decide +kernel : decode prog_14_method_47_code 52 = .ok (.if_icmp .eq (18), 3)), by decide⟩
theorem i_Md_grows_55 : iIns M_Md_grows 55 (.aload_n 0) 1 := (by decide +kernel : decode prog_14_method_47_code 55 = .ok (.aload_n 0, 1))
theorem i_Md_grows_56 : iIns M_Md_grows 56 (.aload_n 0) 1 := (by decide +kernel : decode prog_14_method_47_code 56 = .ok (.aload_n 0, 1))
theorem i_Md_grows_57 : iGet M_Md_grows 57 14 2 := ⟨13, (by decide +kernel : decode prog_14_method_47_code 57 = .ok (.getfield 13, 3)), fl_Md_Md_word⟩
theorem i_Md_grows_60 : iIns M_Md_grows 60 (.iload_n 3) 1 := (by decide +kernel : decode prog_14_method_47_code 60 = .ok (.iload_n 3, 1))
theorem i_Md_grows_61 : iIns M_Md_grows 61 .iaload 1 := (by decide +kernel : decode prog_14_method_47_code 61 = .ok (.iaload, 1))
theorem i_Md_grows_62 : iIns M_Md_grows 62 (.iload 4) 2 := (by decide +kernel : decode prog_14_method_47_code 62 = .ok (.iload 4, 2))
theorem i_Md_grows_64 : iCallV M_Md_grows 64 M_Md_leads 2 14 := ⟨⟨196, (by decide +kernel : decode prog_14_method_47_code 64 = .ok (.invokevirtual 196, 3)), lw_k7 66 rfl rfl⟩, vm_Md_leads, me_Md_leads, pn_Md_leads⟩
theorem i_Md_grows_67 : iIf M_Md_grows 67 .eq 74 := ⟨7, (by decide +kernel : decode prog_14_method_47_code 67 = .ok (.ifCond .eq (7), 3)), by decide⟩
theorem i_Md_grows_70 : iIns M_Md_grows 70 (.iconst 1) 1 := (by decide +kernel : decode prog_14_method_47_code 70 = .ok (.iconst 1, 1))
theorem i_Md_grows_71 : iGoto M_Md_grows 71 75 := ⟨4, (by decide +kernel : decode prog_14_method_47_code 71 = .ok (.goto (4), 3)), by decide⟩
theorem i_Md_grows_74 : iIns M_Md_grows 74 (.iconst 0) 1 := (by decide +kernel : decode prog_14_method_47_code 74 = .ok (.iconst 0, 1))
theorem i_Md_grows_75 : iIns M_Md_grows 75 (.istore 5) 2 := (by decide +kernel : decode prog_14_method_47_code 75 = .ok (.istore 5, 2))
theorem i_Md_grows_77 : iIns M_Md_grows 77 (.iload 5) 2 := (by decide +kernel : decode prog_14_method_47_code 77 = .ok (.iload 5, 2))
theorem i_Md_grows_79 : iIf M_Md_grows 79 .eq 194 := ⟨115, (by decide +kernel : decode prog_14_method_47_code 79 = .ok (.ifCond .eq (115), 3)), by decide⟩
theorem i_Md_grows_82 : iIns M_Md_grows 82 (.aload_n 0) 1 := (by decide +kernel : decode prog_14_method_47_code 82 = .ok (.aload_n 0, 1))
theorem i_Md_grows_83 : iIns M_Md_grows 83 (.iload 4) 2 := (by decide +kernel : decode prog_14_method_47_code 83 = .ok (.iload 4, 2))
theorem i_Md_grows_85 : iIns M_Md_grows 85 (.iload 4) 2 := (by decide +kernel : decode prog_14_method_47_code 85 = .ok (.iload 4, 2))
theorem i_Md_grows_87 : iCallV M_Md_grows 87 M_Md_leads 2 14 := ⟨⟨196, (by decide +kernel : decode prog_14_method_47_code 87 = .ok (.invokevirtual 196, 3)), lw_k7 66 rfl rfl⟩, vm_Md_leads, me_Md_leads, pn_Md_leads⟩
theorem i_Md_grows_90 : iIf M_Md_grows 90 .eq 194 := ⟨104, (by decide +kernel : decode prog_14_method_47_code 90 = .ok (.ifCond .eq (104), 3)), by decide⟩
theorem i_Md_grows_93 : iIns M_Md_grows 93 (.iconst 0) 1 := (by decide +kernel : decode prog_14_method_47_code 93 = .ok (.iconst 0, 1))
theorem i_Md_grows_94 : iIns M_Md_grows 94 (.istore 6) 2 := (by decide +kernel : decode prog_14_method_47_code 94 = .ok (.istore 6, 2))
theorem i_Md_grows_96 : iIns M_Md_grows 96 (.iconst 0) 1 := (by decide +kernel : decode prog_14_method_47_code 96 = .ok (.iconst 0, 1))
theorem i_Md_grows_97 : iIns M_Md_grows 97 (.istore 7) 2 := (by decide +kernel : decode prog_14_method_47_code 97 = .ok (.istore 7, 2))
theorem i_Md_grows_99 : iIns M_Md_grows 99 (.iload 7) 2 := (by decide +kernel : decode prog_14_method_47_code 99 = .ok (.iload 7, 2))
theorem i_Md_grows_101 : iIns M_Md_grows 101 (.bipush 6) 2 := (by decide +kernel : decode prog_14_method_47_code 101 = .ok (.bipush 6, 2))
theorem i_Md_grows_103 : iIcmp M_Md_grows 103 .ge 169 := ⟨66, (by decide +kernel : decode prog_14_method_47_code 103 = .ok (.if_icmp .ge (66), 3)), by decide⟩
theorem i_Md_grows_106 : iIns M_Md_grows 106 (.iload 6) 2 := (by decide +kernel : decode prog_14_method_47_code 106 = .ok (.iload 6, 2))
theorem i_Md_grows_108 : iIns M_Md_grows 108 (.aload_n 0) 1 := (by decide +kernel : decode prog_14_method_47_code 108 = .ok (.aload_n 0, 1))
theorem i_Md_grows_109 : iGet M_Md_grows 109 14 18 := ⟨50, (by decide +kernel : decode prog_14_method_47_code 109 = .ok (.getfield 50, 3)), fl_Md_Md_lives⟩
theorem i_Md_grows_112 : iIns M_Md_grows 112 (.iload 7) 2 := (by decide +kernel : decode prog_14_method_47_code 112 = .ok (.iload 7, 2))
theorem i_Md_grows_114 : iIns M_Md_grows 114 .baload 1 := (by decide +kernel : decode prog_14_method_47_code 114 = .ok (.baload, 1))
theorem i_Md_grows_115 : iIf M_Md_grows 115 .eq 159 := ⟨44, (by decide +kernel : decode prog_14_method_47_code 115 = .ok (.ifCond .eq (44), 3)), by decide⟩
theorem i_Md_grows_118 : iIns M_Md_grows 118 (.iload 7) 2 := (by decide +kernel : decode prog_14_method_47_code 118 = .ok (.iload 7, 2))
theorem i_Md_grows_120 : iIns M_Md_grows 120 (.iload 4) 2 := (by decide +kernel : decode prog_14_method_47_code 120 = .ok (.iload 4, 2))
theorem i_Md_grows_122 : iIcmp M_Md_grows 122 .eq 136 := ⟨14, (by decide +kernel : decode prog_14_method_47_code 122 = .ok (.if_icmp .eq (14), 3)), by decide⟩
theorem i_Md_grows_125 : iIns M_Md_grows 125 (.aload_n 0) 1 := (by decide +kernel : decode prog_14_method_47_code 125 = .ok (.aload_n 0, 1))
theorem i_Md_grows_126 : iIns M_Md_grows 126 (.iload 7) 2 := (by decide +kernel : decode prog_14_method_47_code 126 = .ok (.iload 7, 2))
theorem i_Md_grows_128 : iIns M_Md_grows 128 (.iload 4) 2 := (by decide +kernel : decode prog_14_method_47_code 128 = .ok (.iload 4, 2))
theorem i_Md_grows_130 : iCallV M_Md_grows 130 M_Md_leads 2 14 := ⟨⟨196, (by decide +kernel : decode prog_14_method_47_code 130 = .ok (.invokevirtual 196, 3)), lw_k7 66 rfl rfl⟩, vm_Md_leads, me_Md_leads, pn_Md_leads⟩
theorem i_Md_grows_133 : iIf M_Md_grows 133 .eq 159 := ⟨26, (by decide +kernel : decode prog_14_method_47_code 133 = .ok (.ifCond .eq (26), 3)), by decide⟩
theorem i_Md_grows_136 : iIns M_Md_grows 136 (.aload_n 0) 1 := (by decide +kernel : decode prog_14_method_47_code 136 = .ok (.aload_n 0, 1))
theorem i_Md_grows_137 : iIns M_Md_grows 137 (.iload 4) 2 := (by decide +kernel : decode prog_14_method_47_code 137 = .ok (.iload 4, 2))
theorem i_Md_grows_139 : iIns M_Md_grows 139 (.iload 7) 2 := (by decide +kernel : decode prog_14_method_47_code 139 = .ok (.iload 7, 2))
theorem i_Md_grows_141 : iCallV M_Md_grows 141 M_Md_leads 2 14 := ⟨⟨196, (by decide +kernel : decode prog_14_method_47_code 141 = .ok (.invokevirtual 196, 3)), lw_k7 66 rfl rfl⟩, vm_Md_leads, me_Md_leads, pn_Md_leads⟩
theorem i_Md_grows_144 : iIf M_Md_grows 144 .eq 159 := ⟨15, (by decide +kernel : decode prog_14_method_47_code 144 = .ok (.ifCond .eq (15), 3)), by decide⟩
theorem i_Md_grows_147 : iIns M_Md_grows 147 (.aload_n 0) 1 := (by decide +kernel : decode prog_14_method_47_code 147 = .ok (.aload_n 0, 1))
theorem i_Md_grows_148 : iIns M_Md_grows 148 (.iload_n 1) 1 := (by decide +kernel : decode prog_14_method_47_code 148 = .ok (.iload_n 1, 1))
theorem i_Md_grows_149 : iIns M_Md_grows 149 (.iload 4) 2 := (by decide +kernel : decode prog_14_method_47_code 149 = .ok (.iload 4, 2))
theorem i_Md_grows_151 : iIns M_Md_grows 151 (.iload 7) 2 := (by decide +kernel : decode prog_14_method_47_code 151 = .ok (.iload 7, 2))
theorem i_Md_grows_153 : iCallV M_Md_grows 153 M_Md_occurs 3 14 := ⟨⟨182, (by decide +kernel : decode prog_14_method_47_code 153 = .ok (.invokevirtual 182, 3)), lw_k7 38 rfl rfl⟩, vm_Md_occurs, me_Md_occurs, pn_Md_occurs⟩
theorem i_Md_grows_156 : iGoto M_Md_grows 156 160 := ⟨4, (by decide +kernel : decode prog_14_method_47_code 156 = .ok (.goto (4), 3)), by decide⟩
theorem i_Md_grows_159 : iIns M_Md_grows 159 (.iconst 0) 1 := (by decide +kernel : decode prog_14_method_47_code 159 = .ok (.iconst 0, 1))
theorem i_Md_grows_160 : iIns M_Md_grows 160 .iadd 1 := (by decide +kernel : decode prog_14_method_47_code 160 = .ok (.iadd, 1))
theorem i_Md_grows_161 : iIns M_Md_grows 161 (.istore 6) 2 := (by decide +kernel : decode prog_14_method_47_code 161 = .ok (.istore 6, 2))
theorem i_Md_grows_163 : iIns M_Md_grows 163 (.iinc 7 (1)) 3 := (by decide +kernel : decode prog_14_method_47_code 163 = .ok (.iinc 7 (1), 3))
theorem i_Md_grows_166 : iGoto M_Md_grows 166 99 := ⟨-67, (by decide +kernel : decode prog_14_method_47_code 166 = .ok (.goto (-67), 3)), by decide⟩
theorem i_Md_grows_169 : iIns M_Md_grows 169 (.iload_n 2) 1 := (by decide +kernel : decode prog_14_method_47_code 169 = .ok (.iload_n 2, 1))
theorem i_Md_grows_170 : iIns M_Md_grows 170 (.iload 6) 2 := (by decide +kernel : decode prog_14_method_47_code 170 = .ok (.iload 6, 2))
theorem i_Md_grows_172 : iIns M_Md_grows 172 (.iconst 1) 1 := (by decide +kernel : decode prog_14_method_47_code 172 = .ok (.iconst 1, 1))
theorem i_Md_grows_173 : iIcmp M_Md_grows 173 .le 182 := ⟨9, (by decide +kernel : decode prog_14_method_47_code 173 = .ok (.if_icmp .le (9), 3)), by decide⟩
theorem i_Md_grows_176 : iIns M_Md_grows 176 (.sipush 1000) 3 := (by decide +kernel : decode prog_14_method_47_code 176 = .ok (.sipush 1000, 3))
theorem i_Md_grows_179 : iGoto M_Md_grows 179 190 := ⟨11, (by decide +kernel : decode prog_14_method_47_code 179 = .ok (.goto (11), 3)), by decide⟩
theorem i_Md_grows_182 : iIns M_Md_grows 182 (.aload_n 0) 1 := (by decide +kernel : decode prog_14_method_47_code 182 = .ok (.aload_n 0, 1))
theorem i_Md_grows_183 : iIns M_Md_grows 183 (.iload 4) 2 := (by decide +kernel : decode prog_14_method_47_code 183 = .ok (.iload 4, 2))
theorem i_Md_grows_185 : iCallV M_Md_grows 185 M_Md_depth 1 14 := ⟨⟨198, (by decide +kernel : decode prog_14_method_47_code 185 = .ok (.invokevirtual 198, 3)), lw_k7 70 rfl rfl⟩, vm_Md_depth, me_Md_depth, pn_Md_depth⟩
theorem i_Md_grows_188 : iIns M_Md_grows 188 (.iconst 1) 1 := (by decide +kernel : decode prog_14_method_47_code 188 = .ok (.iconst 1, 1))
theorem i_Md_grows_189 : iIns M_Md_grows 189 .isub 1 := (by decide +kernel : decode prog_14_method_47_code 189 = .ok (.isub, 1))
theorem i_Md_grows_190 : iCallS M_Md_grows 190 M_Ma_maxI 2 := ⟨⟨201, (by decide +kernel : decode prog_14_method_47_code 190 = .ok (.invokestatic 201, 3)), lw_k7 74 rfl rfl⟩, sm_Ma_maxI, me_Ma_maxI, pn_Ma_maxI⟩
theorem i_Md_grows_193 : iIns M_Md_grows 193 (.istore_n 2) 1 := (by decide +kernel : decode prog_14_method_47_code 193 = .ok (.istore_n 2, 1))
theorem i_Md_grows_194 : iIns M_Md_grows 194 (.iinc 4 (1)) 3 := (by decide +kernel : decode prog_14_method_47_code 194 = .ok (.iinc 4 (1), 3))
theorem i_Md_grows_197 : iGoto M_Md_grows 197 27 := ⟨-170, (by decide +kernel : decode prog_14_method_47_code 197 = .ok (.goto (-170), 3)), by decide⟩
theorem i_Md_grows_200 : iIns M_Md_grows 200 (.iinc 3 (1)) 3 := (by decide +kernel : decode prog_14_method_47_code 200 = .ok (.iinc 3 (1), 3))
theorem i_Md_grows_203 : iGoto M_Md_grows 203 14 := ⟨-189, (by decide +kernel : decode prog_14_method_47_code 203 = .ok (.goto (-189), 3)), by decide⟩
theorem i_Md_grows_206 : iIns M_Md_grows 206 (.iload_n 2) 1 := (by decide +kernel : decode prog_14_method_47_code 206 = .ok (.iload_n 2, 1))
theorem i_Md_grows_207 : iIns M_Md_grows 207 .ireturn 1 := (by decide +kernel : decode prog_14_method_47_code 207 = .ok (.ireturn, 1))
theorem i_Md_findLiving_0 : iIns M_Md_findLiving 0 (.iconst 0) 1 := (by decide +kernel : decode prog_14_method_43_code 0 = .ok (.iconst 0, 1))
theorem i_Md_findLiving_1 : iIns M_Md_findLiving 1 (.istore_n 2) 1 := (by decide +kernel : decode prog_14_method_43_code 1 = .ok (.istore_n 2, 1))
theorem i_Md_findLiving_2 : iIns M_Md_findLiving 2 (.iload_n 2) 1 := (by decide +kernel : decode prog_14_method_43_code 2 = .ok (.iload_n 2, 1))
theorem i_Md_findLiving_3 : iIns M_Md_findLiving 3 (.bipush 6) 2 := (by decide +kernel : decode prog_14_method_43_code 3 = .ok (.bipush 6, 2))
theorem i_Md_findLiving_5 : iIcmp M_Md_findLiving 5 .ge 21 := ⟨16, (by decide +kernel : decode prog_14_method_43_code 5 = .ok (.if_icmp .ge (16), 3)), by decide⟩
theorem i_Md_findLiving_8 : iIns M_Md_findLiving 8 (.aload_n 0) 1 := (by decide +kernel : decode prog_14_method_43_code 8 = .ok (.aload_n 0, 1))
theorem i_Md_findLiving_9 : iGet M_Md_findLiving 9 14 18 := ⟨50, (by decide +kernel : decode prog_14_method_43_code 9 = .ok (.getfield 50, 3)), fl_Md_Md_lives⟩
theorem i_Md_findLiving_12 : iIns M_Md_findLiving 12 (.iload_n 2) 1 := (by decide +kernel : decode prog_14_method_43_code 12 = .ok (.iload_n 2, 1))
theorem i_Md_findLiving_13 : iIns M_Md_findLiving 13 (.iconst 1) 1 := (by decide +kernel : decode prog_14_method_43_code 13 = .ok (.iconst 1, 1))
theorem i_Md_findLiving_14 : iIns M_Md_findLiving 14 .bastore 1 := (by decide +kernel : decode prog_14_method_43_code 14 = .ok (.bastore, 1))
theorem i_Md_findLiving_15 : iIns M_Md_findLiving 15 (.iinc 2 (1)) 3 := (by decide +kernel : decode prog_14_method_43_code 15 = .ok (.iinc 2 (1), 3))
theorem i_Md_findLiving_18 : iGoto M_Md_findLiving 18 2 := ⟨-16, (by decide +kernel : decode prog_14_method_43_code 18 = .ok (.goto (-16), 3)), by decide⟩
theorem i_Md_findLiving_21 : iIns M_Md_findLiving 21 (.iconst 0) 1 := (by decide +kernel : decode prog_14_method_43_code 21 = .ok (.iconst 0, 1))
theorem i_Md_findLiving_22 : iIns M_Md_findLiving 22 (.istore_n 2) 1 := (by decide +kernel : decode prog_14_method_43_code 22 = .ok (.istore_n 2, 1))
theorem i_Md_findLiving_23 : iIns M_Md_findLiving 23 (.iload_n 2) 1 := (by decide +kernel : decode prog_14_method_43_code 23 = .ok (.iload_n 2, 1))
theorem i_Md_findLiving_24 : iIns M_Md_findLiving 24 (.bipush 6) 2 := (by decide +kernel : decode prog_14_method_43_code 24 = .ok (.bipush 6, 2))
theorem i_Md_findLiving_26 : iIcmp M_Md_findLiving 26 .ge 126 := ⟨100, (by decide +kernel : decode prog_14_method_43_code 26 = .ok (.if_icmp .ge (100), 3)), by decide⟩
theorem i_Md_findLiving_29 : iIns M_Md_findLiving 29 (.iconst 0) 1 := (by decide +kernel : decode prog_14_method_43_code 29 = .ok (.iconst 0, 1))
theorem i_Md_findLiving_30 : iIns M_Md_findLiving 30 (.istore_n 3) 1 := (by decide +kernel : decode prog_14_method_43_code 30 = .ok (.istore_n 3, 1))
theorem i_Md_findLiving_31 : iIns M_Md_findLiving 31 (.iload_n 3) 1 := (by decide +kernel : decode prog_14_method_43_code 31 = .ok (.iload_n 3, 1))
theorem i_Md_findLiving_32 : iIns M_Md_findLiving 32 (.bipush 6) 2 := (by decide +kernel : decode prog_14_method_43_code 32 = .ok (.bipush 6, 2))
theorem i_Md_findLiving_34 : iIcmp M_Md_findLiving 34 .ge 120 := ⟨86, (by decide +kernel : decode prog_14_method_43_code 34 = .ok (.if_icmp .ge (86), 3)), by decide⟩
theorem i_Md_findLiving_37 : iIns M_Md_findLiving 37 (.iconst 0) 1 := (by decide +kernel : decode prog_14_method_43_code 37 = .ok (.iconst 0, 1))
theorem i_Md_findLiving_38 : iIns M_Md_findLiving 38 (.istore 4) 2 := (by decide +kernel : decode prog_14_method_43_code 38 = .ok (.istore 4, 2))
theorem i_Md_findLiving_40 : iIns M_Md_findLiving 40 (.iconst 0) 1 := (by decide +kernel : decode prog_14_method_43_code 40 = .ok (.iconst 0, 1))
theorem i_Md_findLiving_41 : iIns M_Md_findLiving 41 (.istore 5) 2 := (by decide +kernel : decode prog_14_method_43_code 41 = .ok (.istore 5, 2))
theorem i_Md_findLiving_43 : iIns M_Md_findLiving 43 (.iload 5) 2 := (by decide +kernel : decode prog_14_method_43_code 43 = .ok (.iload 5, 2))
theorem i_Md_findLiving_45 : iIns M_Md_findLiving 45 (.bipush 6) 2 := (by decide +kernel : decode prog_14_method_43_code 45 = .ok (.bipush 6, 2))
theorem i_Md_findLiving_47 : iIcmp M_Md_findLiving 47 .ge 89 := ⟨42, (by decide +kernel : decode prog_14_method_43_code 47 = .ok (.if_icmp .ge (42), 3)), by decide⟩
theorem i_Md_findLiving_50 : iIns M_Md_findLiving 50 (.iload 4) 2 := (by decide +kernel : decode prog_14_method_43_code 50 = .ok (.iload 4, 2))
theorem i_Md_findLiving_52 : iIf M_Md_findLiving 52 .ne 76 := ⟨24, (by decide +kernel : decode prog_14_method_43_code 52 = .ok (.ifCond .ne (24), 3)), by decide⟩
theorem i_Md_findLiving_55 : iIns M_Md_findLiving 55 (.aload_n 0) 1 := (by decide +kernel : decode prog_14_method_43_code 55 = .ok (.aload_n 0, 1))
theorem i_Md_findLiving_56 : iIns M_Md_findLiving 56 (.iload_n 1) 1 := (by decide +kernel : decode prog_14_method_43_code 56 = .ok (.iload_n 1, 1))
theorem i_Md_findLiving_57 : iIns M_Md_findLiving 57 (.iload_n 3) 1 := (by decide +kernel : decode prog_14_method_43_code 57 = .ok (.iload_n 3, 1))
theorem i_Md_findLiving_58 : iIns M_Md_findLiving 58 (.iload 5) 2 := (by decide +kernel : decode prog_14_method_43_code 58 = .ok (.iload 5, 2))
theorem i_Md_findLiving_60 : iCallV M_Md_findLiving 60 M_Md_occurs 3 14 := ⟨⟨182, (by decide +kernel : decode prog_14_method_43_code 60 = .ok (.invokevirtual 182, 3)), lw_k7 38 rfl rfl⟩, vm_Md_occurs, me_Md_occurs, pn_Md_occurs⟩
theorem i_Md_findLiving_63 : iIf M_Md_findLiving 63 .le 80 := ⟨17, (by decide +kernel : decode prog_14_method_43_code 63 = .ok (.ifCond .le (17), 3)), by decide⟩
theorem i_Md_findLiving_66 : iIns M_Md_findLiving 66 (.aload_n 0) 1 := (by decide +kernel : decode prog_14_method_43_code 66 = .ok (.aload_n 0, 1))
theorem i_Md_findLiving_67 : iGet M_Md_findLiving 67 14 18 := ⟨50, (by decide +kernel : decode prog_14_method_43_code 67 = .ok (.getfield 50, 3)), fl_Md_Md_lives⟩
theorem i_Md_findLiving_70 : iIns M_Md_findLiving 70 (.iload 5) 2 := (by decide +kernel : decode prog_14_method_43_code 70 = .ok (.iload 5, 2))
theorem i_Md_findLiving_72 : iIns M_Md_findLiving 72 .baload 1 := (by decide +kernel : decode prog_14_method_43_code 72 = .ok (.baload, 1))
theorem i_Md_findLiving_73 : iIf M_Md_findLiving 73 .eq 80 := ⟨7, (by decide +kernel : decode prog_14_method_43_code 73 = .ok (.ifCond .eq (7), 3)), by decide⟩
theorem i_Md_findLiving_76 : iIns M_Md_findLiving 76 (.iconst 1) 1 := (by decide +kernel : decode prog_14_method_43_code 76 = .ok (.iconst 1, 1))
theorem i_Md_findLiving_77 : iGoto M_Md_findLiving 77 81 := ⟨4, (by decide +kernel : decode prog_14_method_43_code 77 = .ok (.goto (4), 3)), by decide⟩
theorem i_Md_findLiving_80 : iIns M_Md_findLiving 80 (.iconst 0) 1 := (by decide +kernel : decode prog_14_method_43_code 80 = .ok (.iconst 0, 1))
theorem i_Md_findLiving_81 : iIns M_Md_findLiving 81 (.istore 4) 2 := (by decide +kernel : decode prog_14_method_43_code 81 = .ok (.istore 4, 2))
theorem i_Md_findLiving_83 : iIns M_Md_findLiving 83 (.iinc 5 (1)) 3 := (by decide +kernel : decode prog_14_method_43_code 83 = .ok (.iinc 5 (1), 3))
theorem i_Md_findLiving_86 : iGoto M_Md_findLiving 86 43 := ⟨-43, (by decide +kernel : decode prog_14_method_43_code 86 = .ok (.goto (-43), 3)), by decide⟩
theorem i_Md_findLiving_89 : iIns M_Md_findLiving 89 (.aload_n 0) 1 := (by decide +kernel : decode prog_14_method_43_code 89 = .ok (.aload_n 0, 1))
theorem i_Md_findLiving_90 : iGet M_Md_findLiving 90 14 18 := ⟨50, (by decide +kernel : decode prog_14_method_43_code 90 = .ok (.getfield 50, 3)), fl_Md_Md_lives⟩
theorem i_Md_findLiving_93 : iIns M_Md_findLiving 93 (.iload_n 3) 1 := (by decide +kernel : decode prog_14_method_43_code 93 = .ok (.iload_n 3, 1))
theorem i_Md_findLiving_94 : iIns M_Md_findLiving 94 (.aload_n 0) 1 := (by decide +kernel : decode prog_14_method_43_code 94 = .ok (.aload_n 0, 1))
theorem i_Md_findLiving_95 : iGet M_Md_findLiving 95 14 18 := ⟨50, (by decide +kernel : decode prog_14_method_43_code 95 = .ok (.getfield 50, 3)), fl_Md_Md_lives⟩
theorem i_Md_findLiving_98 : iIns M_Md_findLiving 98 (.iload_n 3) 1 := (by decide +kernel : decode prog_14_method_43_code 98 = .ok (.iload_n 3, 1))
theorem i_Md_findLiving_99 : iIns M_Md_findLiving 99 .baload 1 := (by decide +kernel : decode prog_14_method_43_code 99 = .ok (.baload, 1))
theorem i_Md_findLiving_100 : iIf M_Md_findLiving 100 .eq 112 := ⟨12, (by decide +kernel : decode prog_14_method_43_code 100 = .ok (.ifCond .eq (12), 3)), by decide⟩
theorem i_Md_findLiving_103 : iIns M_Md_findLiving 103 (.iload 4) 2 := (by decide +kernel : decode prog_14_method_43_code 103 = .ok (.iload 4, 2))
theorem i_Md_findLiving_105 : iIf M_Md_findLiving 105 .eq 112 := ⟨7, (by decide +kernel : decode prog_14_method_43_code 105 = .ok (.ifCond .eq (7), 3)), by decide⟩
theorem i_Md_findLiving_108 : iIns M_Md_findLiving 108 (.iconst 1) 1 := (by decide +kernel : decode prog_14_method_43_code 108 = .ok (.iconst 1, 1))
theorem i_Md_findLiving_109 : iGoto M_Md_findLiving 109 113 := ⟨4, (by decide +kernel : decode prog_14_method_43_code 109 = .ok (.goto (4), 3)), by decide⟩
theorem i_Md_findLiving_112 : iIns M_Md_findLiving 112 (.iconst 0) 1 := (by decide +kernel : decode prog_14_method_43_code 112 = .ok (.iconst 0, 1))
theorem i_Md_findLiving_113 : iIns M_Md_findLiving 113 .bastore 1 := (by decide +kernel : decode prog_14_method_43_code 113 = .ok (.bastore, 1))
theorem i_Md_findLiving_114 : iIns M_Md_findLiving 114 (.iinc 3 (1)) 3 := (by decide +kernel : decode prog_14_method_43_code 114 = .ok (.iinc 3 (1), 3))
theorem i_Md_findLiving_117 : iGoto M_Md_findLiving 117 31 := ⟨-86, (by decide +kernel : decode prog_14_method_43_code 117 = .ok (.goto (-86), 3)), by decide⟩
theorem i_Md_findLiving_120 : iIns M_Md_findLiving 120 (.iinc 2 (1)) 3 := (by decide +kernel : decode prog_14_method_43_code 120 = .ok (.iinc 2 (1), 3))
theorem i_Md_findLiving_123 : iGoto M_Md_findLiving 123 23 := ⟨-100, (by decide +kernel : decode prog_14_method_43_code 123 = .ok (.goto (-100), 3)), by decide⟩
theorem i_Md_findLiving_126 : iIns M_Md_findLiving 126 .return_ 1 := (by decide +kernel : decode prog_14_method_43_code 126 = .ok (.return_, 1))
theorem i_Md_findWays_0 : iIns M_Md_findWays 0 (.iconst 0) 1 := (by decide +kernel : decode prog_14_method_44_code 0 = .ok (.iconst 0, 1))
theorem i_Md_findWays_1 : iIns M_Md_findWays 1 (.istore_n 2) 1 := (by decide +kernel : decode prog_14_method_44_code 1 = .ok (.istore_n 2, 1))
theorem i_Md_findWays_2 : iIns M_Md_findWays 2 (.iload_n 2) 1 := (by decide +kernel : decode prog_14_method_44_code 2 = .ok (.iload_n 2, 1))
theorem i_Md_findWays_3 : iIns M_Md_findWays 3 (.bipush 6) 2 := (by decide +kernel : decode prog_14_method_44_code 3 = .ok (.bipush 6, 2))
theorem i_Md_findWays_5 : iIcmp M_Md_findWays 5 .ge 72 := ⟨67, (by decide +kernel : decode prog_14_method_44_code 5 = .ok (.if_icmp .ge (67), 3)), by decide⟩
theorem i_Md_findWays_8 : iIns M_Md_findWays 8 (.iconst 0) 1 := (by decide +kernel : decode prog_14_method_44_code 8 = .ok (.iconst 0, 1))
theorem i_Md_findWays_9 : iIns M_Md_findWays 9 (.istore_n 3) 1 := (by decide +kernel : decode prog_14_method_44_code 9 = .ok (.istore_n 3, 1))
theorem i_Md_findWays_10 : iIns M_Md_findWays 10 (.iload_n 3) 1 := (by decide +kernel : decode prog_14_method_44_code 10 = .ok (.iload_n 3, 1))
theorem i_Md_findWays_11 : iIns M_Md_findWays 11 (.bipush 6) 2 := (by decide +kernel : decode prog_14_method_44_code 11 = .ok (.bipush 6, 2))
theorem i_Md_findWays_13 : iIcmp M_Md_findWays 13 .ge 66 := ⟨53, (by decide +kernel : decode prog_14_method_44_code 13 = .ok (.if_icmp .ge (53), 3)), by decide⟩
theorem i_Md_findWays_16 : iIns M_Md_findWays 16 (.aload_n 0) 1 := (by decide +kernel : decode prog_14_method_44_code 16 = .ok (.aload_n 0, 1))
theorem i_Md_findWays_17 : iGet M_Md_findWays 17 14 19 := ⟨54, (by decide +kernel : decode prog_14_method_44_code 17 = .ok (.getfield 54, 3)), fl_Md_Md_leads⟩
theorem i_Md_findWays_20 : iIns M_Md_findWays 20 (.bipush 6) 2 := (by decide +kernel : decode prog_14_method_44_code 20 = .ok (.bipush 6, 2))
theorem i_Md_findWays_22 : iIns M_Md_findWays 22 (.iload_n 2) 1 := (by decide +kernel : decode prog_14_method_44_code 22 = .ok (.iload_n 2, 1))
theorem i_Md_findWays_23 : iIns M_Md_findWays 23 .imul 1 := (by decide +kernel : decode prog_14_method_44_code 23 = .ok (.imul, 1))
theorem i_Md_findWays_24 : iIns M_Md_findWays 24 (.iload_n 3) 1 := (by decide +kernel : decode prog_14_method_44_code 24 = .ok (.iload_n 3, 1))
theorem i_Md_findWays_25 : iIns M_Md_findWays 25 .iadd 1 := (by decide +kernel : decode prog_14_method_44_code 25 = .ok (.iadd, 1))
theorem i_Md_findWays_26 : iIns M_Md_findWays 26 (.aload_n 0) 1 := (by decide +kernel : decode prog_14_method_44_code 26 = .ok (.aload_n 0, 1))
theorem i_Md_findWays_27 : iGet M_Md_findWays 27 14 18 := ⟨50, (by decide +kernel : decode prog_14_method_44_code 27 = .ok (.getfield 50, 3)), fl_Md_Md_lives⟩
theorem i_Md_findWays_30 : iIns M_Md_findWays 30 (.iload_n 2) 1 := (by decide +kernel : decode prog_14_method_44_code 30 = .ok (.iload_n 2, 1))
theorem i_Md_findWays_31 : iIns M_Md_findWays 31 .baload 1 := (by decide +kernel : decode prog_14_method_44_code 31 = .ok (.baload, 1))
theorem i_Md_findWays_32 : iIf M_Md_findWays 32 .eq 58 := ⟨26, (by decide +kernel : decode prog_14_method_44_code 32 = .ok (.ifCond .eq (26), 3)), by decide⟩
theorem i_Md_findWays_35 : iIns M_Md_findWays 35 (.aload_n 0) 1 := (by decide +kernel : decode prog_14_method_44_code 35 = .ok (.aload_n 0, 1))
theorem i_Md_findWays_36 : iGet M_Md_findWays 36 14 18 := ⟨50, (by decide +kernel : decode prog_14_method_44_code 36 = .ok (.getfield 50, 3)), fl_Md_Md_lives⟩
theorem i_Md_findWays_39 : iIns M_Md_findWays 39 (.iload_n 3) 1 := (by decide +kernel : decode prog_14_method_44_code 39 = .ok (.iload_n 3, 1))
theorem i_Md_findWays_40 : iIns M_Md_findWays 40 .baload 1 := (by decide +kernel : decode prog_14_method_44_code 40 = .ok (.baload, 1))
theorem i_Md_findWays_41 : iIf M_Md_findWays 41 .eq 58 := ⟨17, (by decide +kernel : decode prog_14_method_44_code 41 = .ok (.ifCond .eq (17), 3)), by decide⟩
theorem i_Md_findWays_44 : iIns M_Md_findWays 44 (.aload_n 0) 1 := (by decide +kernel : decode prog_14_method_44_code 44 = .ok (.aload_n 0, 1))
theorem i_Md_findWays_45 : iIns M_Md_findWays 45 (.iload_n 1) 1 := (by decide +kernel : decode prog_14_method_44_code 45 = .ok (.iload_n 1, 1))
theorem i_Md_findWays_46 : iIns M_Md_findWays 46 (.iload_n 2) 1 := (by decide +kernel : decode prog_14_method_44_code 46 = .ok (.iload_n 2, 1))
theorem i_Md_findWays_47 : iIns M_Md_findWays 47 (.iload_n 3) 1 := (by decide +kernel : decode prog_14_method_44_code 47 = .ok (.iload_n 3, 1))
theorem i_Md_findWays_48 : iCallV M_Md_findWays 48 M_Md_occurs 3 14 := ⟨⟨182, (by decide +kernel : decode prog_14_method_44_code 48 = .ok (.invokevirtual 182, 3)), lw_k7 38 rfl rfl⟩, vm_Md_occurs, me_Md_occurs, pn_Md_occurs⟩
theorem i_Md_findWays_51 : iIf M_Md_findWays 51 .le 58 := ⟨7, (by decide +kernel : decode prog_14_method_44_code 51 = .ok (.ifCond .le (7), 3)), by decide⟩
theorem i_Md_findWays_54 : iIns M_Md_findWays 54 (.iconst 1) 1 := (by decide +kernel : decode prog_14_method_44_code 54 = .ok (.iconst 1, 1))
theorem i_Md_findWays_55 : iGoto M_Md_findWays 55 59 := ⟨4, (by decide +kernel : decode prog_14_method_44_code 55 = .ok (.goto (4), 3)), by decide⟩
theorem i_Md_findWays_58 : iIns M_Md_findWays 58 (.iconst 0) 1 := (by decide +kernel : decode prog_14_method_44_code 58 = .ok (.iconst 0, 1))
theorem i_Md_findWays_59 : iIns M_Md_findWays 59 .bastore 1 := (by decide +kernel : decode prog_14_method_44_code 59 = .ok (.bastore, 1))
theorem i_Md_findWays_60 : iIns M_Md_findWays 60 (.iinc 3 (1)) 3 := (by decide +kernel : decode prog_14_method_44_code 60 = .ok (.iinc 3 (1), 3))
theorem i_Md_findWays_63 : iGoto M_Md_findWays 63 10 := ⟨-53, (by decide +kernel : decode prog_14_method_44_code 63 = .ok (.goto (-53), 3)), by decide⟩
theorem i_Md_findWays_66 : iIns M_Md_findWays 66 (.iinc 2 (1)) 3 := (by decide +kernel : decode prog_14_method_44_code 66 = .ok (.iinc 2 (1), 3))
theorem i_Md_findWays_69 : iGoto M_Md_findWays 69 2 := ⟨-67, (by decide +kernel : decode prog_14_method_44_code 69 = .ok (.goto (-67), 3)), by decide⟩
theorem i_Md_findWays_72 : iIns M_Md_findWays 72 (.iconst 0) 1 := (by decide +kernel : decode prog_14_method_44_code 72 = .ok (.iconst 0, 1))
theorem i_Md_findWays_73 : iIns M_Md_findWays 73 (.istore_n 2) 1 := (by decide +kernel : decode prog_14_method_44_code 73 = .ok (.istore_n 2, 1))
theorem i_Md_findWays_74 : iIns M_Md_findWays 74 (.iload_n 2) 1 := (by decide +kernel : decode prog_14_method_44_code 74 = .ok (.iload_n 2, 1))
theorem i_Md_findWays_75 : iIns M_Md_findWays 75 (.bipush 6) 2 := (by decide +kernel : decode prog_14_method_44_code 75 = .ok (.bipush 6, 2))
theorem i_Md_findWays_77 : iIcmp M_Md_findWays 77 .ge 177 := ⟨100, (by decide +kernel : decode prog_14_method_44_code 77 = .ok (.if_icmp .ge (100), 3)), by decide⟩
theorem i_Md_findWays_80 : iIns M_Md_findWays 80 (.iconst 0) 1 := (by decide +kernel : decode prog_14_method_44_code 80 = .ok (.iconst 0, 1))
theorem i_Md_findWays_81 : iIns M_Md_findWays 81 (.istore_n 3) 1 := (by decide +kernel : decode prog_14_method_44_code 81 = .ok (.istore_n 3, 1))
theorem i_Md_findWays_82 : iIns M_Md_findWays 82 (.iload_n 3) 1 := (by decide +kernel : decode prog_14_method_44_code 82 = .ok (.iload_n 3, 1))
theorem i_Md_findWays_83 : iIns M_Md_findWays 83 (.bipush 6) 2 := (by decide +kernel : decode prog_14_method_44_code 83 = .ok (.bipush 6, 2))
theorem i_Md_findWays_85 : iIcmp M_Md_findWays 85 .ge 171 := ⟨86, (by decide +kernel : decode prog_14_method_44_code 85 = .ok (.if_icmp .ge (86), 3)), by decide⟩
theorem i_Md_findWays_88 : iIns M_Md_findWays 88 (.iconst 0) 1 := (by decide +kernel : decode prog_14_method_44_code 88 = .ok (.iconst 0, 1))
theorem i_Md_findWays_89 : iIns M_Md_findWays 89 (.istore 4) 2 := (by decide +kernel : decode prog_14_method_44_code 89 = .ok (.istore 4, 2))
theorem i_Md_findWays_91 : iIns M_Md_findWays 91 (.iload 4) 2 := (by decide +kernel : decode prog_14_method_44_code 91 = .ok (.iload 4, 2))
theorem i_Md_findWays_93 : iIns M_Md_findWays 93 (.bipush 6) 2 := (by decide +kernel : decode prog_14_method_44_code 93 = .ok (.bipush 6, 2))
theorem i_Md_findWays_95 : iIcmp M_Md_findWays 95 .ge 165 := ⟨70, (by decide +kernel : decode prog_14_method_44_code 95 = .ok (.if_icmp .ge (70), 3)), by decide⟩
theorem i_Md_findWays_98 : iIns M_Md_findWays 98 (.aload_n 0) 1 := (by decide +kernel : decode prog_14_method_44_code 98 = .ok (.aload_n 0, 1))
theorem i_Md_findWays_99 : iGet M_Md_findWays 99 14 19 := ⟨54, (by decide +kernel : decode prog_14_method_44_code 99 = .ok (.getfield 54, 3)), fl_Md_Md_leads⟩
theorem i_Md_findWays_102 : iIns M_Md_findWays 102 (.bipush 6) 2 := (by decide +kernel : decode prog_14_method_44_code 102 = .ok (.bipush 6, 2))
theorem i_Md_findWays_104 : iIns M_Md_findWays 104 (.iload_n 3) 1 := (by decide +kernel : decode prog_14_method_44_code 104 = .ok (.iload_n 3, 1))
theorem i_Md_findWays_105 : iIns M_Md_findWays 105 .imul 1 := (by decide +kernel : decode prog_14_method_44_code 105 = .ok (.imul, 1))
theorem i_Md_findWays_106 : iIns M_Md_findWays 106 (.iload 4) 2 := (by decide +kernel : decode prog_14_method_44_code 106 = .ok (.iload 4, 2))
theorem i_Md_findWays_108 : iIns M_Md_findWays 108 .iadd 1 := (by decide +kernel : decode prog_14_method_44_code 108 = .ok (.iadd, 1))
theorem i_Md_findWays_109 : iIns M_Md_findWays 109 (.aload_n 0) 1 := (by decide +kernel : decode prog_14_method_44_code 109 = .ok (.aload_n 0, 1))
theorem i_Md_findWays_110 : iGet M_Md_findWays 110 14 19 := ⟨54, (by decide +kernel : decode prog_14_method_44_code 110 = .ok (.getfield 54, 3)), fl_Md_Md_leads⟩
theorem i_Md_findWays_113 : iIns M_Md_findWays 113 (.bipush 6) 2 := (by decide +kernel : decode prog_14_method_44_code 113 = .ok (.bipush 6, 2))
theorem i_Md_findWays_115 : iIns M_Md_findWays 115 (.iload_n 3) 1 := (by decide +kernel : decode prog_14_method_44_code 115 = .ok (.iload_n 3, 1))
theorem i_Md_findWays_116 : iIns M_Md_findWays 116 .imul 1 := (by decide +kernel : decode prog_14_method_44_code 116 = .ok (.imul, 1))
theorem i_Md_findWays_117 : iIns M_Md_findWays 117 (.iload 4) 2 := (by decide +kernel : decode prog_14_method_44_code 117 = .ok (.iload 4, 2))
theorem i_Md_findWays_119 : iIns M_Md_findWays 119 .iadd 1 := (by decide +kernel : decode prog_14_method_44_code 119 = .ok (.iadd, 1))
theorem i_Md_findWays_120 : iIns M_Md_findWays 120 .baload 1 := (by decide +kernel : decode prog_14_method_44_code 120 = .ok (.baload, 1))
theorem i_Md_findWays_121 : iIf M_Md_findWays 121 .ne 153 := ⟨32, (by decide +kernel : decode prog_14_method_44_code 121 = .ok (.ifCond .ne (32), 3)), by decide⟩
theorem i_Md_findWays_124 : iIns M_Md_findWays 124 (.aload_n 0) 1 := (by decide +kernel : decode prog_14_method_44_code 124 = .ok (.aload_n 0, 1))
theorem i_Md_findWays_125 : iGet M_Md_findWays 125 14 19 := ⟨54, (by decide +kernel : decode prog_14_method_44_code 125 = .ok (.getfield 54, 3)), fl_Md_Md_leads⟩
theorem i_Md_findWays_128 : iIns M_Md_findWays 128 (.bipush 6) 2 := (by decide +kernel : decode prog_14_method_44_code 128 = .ok (.bipush 6, 2))
theorem i_Md_findWays_130 : iIns M_Md_findWays 130 (.iload_n 3) 1 := (by decide +kernel : decode prog_14_method_44_code 130 = .ok (.iload_n 3, 1))
theorem i_Md_findWays_131 : iIns M_Md_findWays 131 .imul 1 := (by decide +kernel : decode prog_14_method_44_code 131 = .ok (.imul, 1))
theorem i_Md_findWays_132 : iIns M_Md_findWays 132 (.iload_n 2) 1 := (by decide +kernel : decode prog_14_method_44_code 132 = .ok (.iload_n 2, 1))
theorem i_Md_findWays_133 : iIns M_Md_findWays 133 .iadd 1 := (by decide +kernel : decode prog_14_method_44_code 133 = .ok (.iadd, 1))
theorem i_Md_findWays_134 : iIns M_Md_findWays 134 .baload 1 := (by decide +kernel : decode prog_14_method_44_code 134 = .ok (.baload, 1))
theorem i_Md_findWays_135 : iIf M_Md_findWays 135 .eq 157 := ⟨22, (by decide +kernel : decode prog_14_method_44_code 135 = .ok (.ifCond .eq (22), 3)), by decide⟩
theorem i_Md_findWays_138 : iIns M_Md_findWays 138 (.aload_n 0) 1 := (by decide +kernel : decode prog_14_method_44_code 138 = .ok (.aload_n 0, 1))
theorem i_Md_findWays_139 : iGet M_Md_findWays 139 14 19 := ⟨54, (by decide +kernel : decode prog_14_method_44_code 139 = .ok (.getfield 54, 3)), fl_Md_Md_leads⟩
theorem i_Md_findWays_142 : iIns M_Md_findWays 142 (.bipush 6) 2 := (by decide +kernel : decode prog_14_method_44_code 142 = .ok (.bipush 6, 2))
theorem i_Md_findWays_144 : iIns M_Md_findWays 144 (.iload_n 2) 1 := (by decide +kernel : decode prog_14_method_44_code 144 = .ok (.iload_n 2, 1))
theorem i_Md_findWays_145 : iIns M_Md_findWays 145 .imul 1 := (by decide +kernel : decode prog_14_method_44_code 145 = .ok (.imul, 1))
theorem i_Md_findWays_146 : iIns M_Md_findWays 146 (.iload 4) 2 := (by decide +kernel : decode prog_14_method_44_code 146 = .ok (.iload 4, 2))
theorem i_Md_findWays_148 : iIns M_Md_findWays 148 .iadd 1 := (by decide +kernel : decode prog_14_method_44_code 148 = .ok (.iadd, 1))
theorem i_Md_findWays_149 : iIns M_Md_findWays 149 .baload 1 := (by decide +kernel : decode prog_14_method_44_code 149 = .ok (.baload, 1))
theorem i_Md_findWays_150 : iIf M_Md_findWays 150 .eq 157 := ⟨7, (by decide +kernel : decode prog_14_method_44_code 150 = .ok (.ifCond .eq (7), 3)), by decide⟩
theorem i_Md_findWays_153 : iIns M_Md_findWays 153 (.iconst 1) 1 := (by decide +kernel : decode prog_14_method_44_code 153 = .ok (.iconst 1, 1))
theorem i_Md_findWays_154 : iGoto M_Md_findWays 154 158 := ⟨4, (by decide +kernel : decode prog_14_method_44_code 154 = .ok (.goto (4), 3)), by decide⟩
theorem i_Md_findWays_157 : iIns M_Md_findWays 157 (.iconst 0) 1 := (by decide +kernel : decode prog_14_method_44_code 157 = .ok (.iconst 0, 1))
theorem i_Md_findWays_158 : iIns M_Md_findWays 158 .bastore 1 := (by decide +kernel : decode prog_14_method_44_code 158 = .ok (.bastore, 1))
theorem i_Md_findWays_159 : iIns M_Md_findWays 159 (.iinc 4 (1)) 3 := (by decide +kernel : decode prog_14_method_44_code 159 = .ok (.iinc 4 (1), 3))
theorem i_Md_findWays_162 : iGoto M_Md_findWays 162 91 := ⟨-71, (by decide +kernel : decode prog_14_method_44_code 162 = .ok (.goto (-71), 3)), by decide⟩
theorem i_Md_findWays_165 : iIns M_Md_findWays 165 (.iinc 3 (1)) 3 := (by decide +kernel : decode prog_14_method_44_code 165 = .ok (.iinc 3 (1), 3))
theorem i_Md_findWays_168 : iGoto M_Md_findWays 168 82 := ⟨-86, (by decide +kernel : decode prog_14_method_44_code 168 = .ok (.goto (-86), 3)), by decide⟩
theorem i_Md_findWays_171 : iIns M_Md_findWays 171 (.iinc 2 (1)) 3 := (by decide +kernel : decode prog_14_method_44_code 171 = .ok (.iinc 2 (1), 3))
theorem i_Md_findWays_174 : iGoto M_Md_findWays 174 74 := ⟨-100, (by decide +kernel : decode prog_14_method_44_code 174 = .ok (.goto (-100), 3)), by decide⟩
theorem i_Md_findWays_177 : iIns M_Md_findWays 177 .return_ 1 := (by decide +kernel : decode prog_14_method_44_code 177 = .ok (.return_, 1))
theorem i_Md_leads_0 : iIns M_Md_leads 0 (.aload_n 0) 1 := (by decide +kernel : decode prog_14_method_45_code 0 = .ok (.aload_n 0, 1))
theorem i_Md_leads_1 : iGet M_Md_leads 1 14 19 := ⟨54, (by decide +kernel : decode prog_14_method_45_code 1 = .ok (.getfield 54, 3)), fl_Md_Md_leads⟩
theorem i_Md_leads_4 : iIns M_Md_leads 4 (.bipush 6) 2 := (by decide +kernel : decode prog_14_method_45_code 4 = .ok (.bipush 6, 2))
theorem i_Md_leads_6 : iIns M_Md_leads 6 (.iload_n 1) 1 := (by decide +kernel : decode prog_14_method_45_code 6 = .ok (.iload_n 1, 1))
theorem i_Md_leads_7 : iIns M_Md_leads 7 .imul 1 := (by decide +kernel : decode prog_14_method_45_code 7 = .ok (.imul, 1))
theorem i_Md_leads_8 : iIns M_Md_leads 8 (.iload_n 2) 1 := (by decide +kernel : decode prog_14_method_45_code 8 = .ok (.iload_n 2, 1))
theorem i_Md_leads_9 : iIns M_Md_leads 9 .iadd 1 := (by decide +kernel : decode prog_14_method_45_code 9 = .ok (.iadd, 1))
theorem i_Md_leads_10 : iIns M_Md_leads 10 .baload 1 := (by decide +kernel : decode prog_14_method_45_code 10 = .ok (.baload, 1))
theorem i_Md_leads_11 : iIns M_Md_leads 11 .ireturn 1 := (by decide +kernel : decode prog_14_method_45_code 11 = .ok (.ireturn, 1))
theorem i_Md_depth_0 : iIns M_Md_depth 0 (.iconst 0) 1 := (by decide +kernel : decode prog_14_method_46_code 0 = .ok (.iconst 0, 1))
theorem i_Md_depth_1 : iIns M_Md_depth 1 (.istore_n 2) 1 := (by decide +kernel : decode prog_14_method_46_code 1 = .ok (.istore_n 2, 1))
theorem i_Md_depth_2 : iIns M_Md_depth 2 (.iconst 0) 1 := (by decide +kernel : decode prog_14_method_46_code 2 = .ok (.iconst 0, 1))
theorem i_Md_depth_3 : iIns M_Md_depth 3 (.istore_n 3) 1 := (by decide +kernel : decode prog_14_method_46_code 3 = .ok (.istore_n 3, 1))
theorem i_Md_depth_4 : iIns M_Md_depth 4 (.iload_n 3) 1 := (by decide +kernel : decode prog_14_method_46_code 4 = .ok (.iload_n 3, 1))
theorem i_Md_depth_5 : iIns M_Md_depth 5 (.bipush 6) 2 := (by decide +kernel : decode prog_14_method_46_code 5 = .ok (.bipush 6, 2))
theorem i_Md_depth_7 : iIcmp M_Md_depth 7 .ge 53 := ⟨46, (by decide +kernel : decode prog_14_method_46_code 7 = .ok (.if_icmp .ge (46), 3)), by decide⟩
theorem i_Md_depth_10 : iIns M_Md_depth 10 (.aload_n 0) 1 := (by decide +kernel : decode prog_14_method_46_code 10 = .ok (.aload_n 0, 1))
theorem i_Md_depth_11 : iIns M_Md_depth 11 (.iload_n 3) 1 := (by decide +kernel : decode prog_14_method_46_code 11 = .ok (.iload_n 3, 1))
theorem i_Md_depth_12 : iIns M_Md_depth 12 (.iload_n 3) 1 := (by decide +kernel : decode prog_14_method_46_code 12 = .ok (.iload_n 3, 1))
theorem i_Md_depth_13 : iCallV M_Md_depth 13 M_Md_leads 2 14 := ⟨⟨196, (by decide +kernel : decode prog_14_method_46_code 13 = .ok (.invokevirtual 196, 3)), lw_k7 66 rfl rfl⟩, vm_Md_leads, me_Md_leads, pn_Md_leads⟩
theorem i_Md_depth_16 : iIf M_Md_depth 16 .eq 47 := ⟨31, (by decide +kernel : decode prog_14_method_46_code 16 = .ok (.ifCond .eq (31), 3)), by decide⟩
theorem i_Md_depth_19 : iIns M_Md_depth 19 (.aload_n 0) 1 := (by decide +kernel : decode prog_14_method_46_code 19 = .ok (.aload_n 0, 1))
theorem i_Md_depth_20 : iIns M_Md_depth 20 (.iload_n 1) 1 := (by decide +kernel : decode prog_14_method_46_code 20 = .ok (.iload_n 1, 1))
theorem i_Md_depth_21 : iIns M_Md_depth 21 (.iload_n 3) 1 := (by decide +kernel : decode prog_14_method_46_code 21 = .ok (.iload_n 3, 1))
theorem i_Md_depth_22 : iCallV M_Md_depth 22 M_Md_leads 2 14 := ⟨⟨196, (by decide +kernel : decode prog_14_method_46_code 22 = .ok (.invokevirtual 196, 3)), lw_k7 66 rfl rfl⟩, vm_Md_leads, me_Md_leads, pn_Md_leads⟩
theorem i_Md_depth_25 : iIf M_Md_depth 25 .eq 47 := ⟨22, (by decide +kernel : decode prog_14_method_46_code 25 = .ok (.ifCond .eq (22), 3)), by decide⟩
theorem i_Md_depth_28 : iIns M_Md_depth 28 (.aload_n 0) 1 := (by decide +kernel : decode prog_14_method_46_code 28 = .ok (.aload_n 0, 1))
theorem i_Md_depth_29 : iIns M_Md_depth 29 (.iload_n 3) 1 := (by decide +kernel : decode prog_14_method_46_code 29 = .ok (.iload_n 3, 1))
theorem i_Md_depth_30 : iIns M_Md_depth 30 (.iload_n 1) 1 := (by decide +kernel : decode prog_14_method_46_code 30 = .ok (.iload_n 1, 1))
theorem i_Md_depth_31 : iCallV M_Md_depth 31 M_Md_leads 2 14 := ⟨⟨196, (by decide +kernel : decode prog_14_method_46_code 31 = .ok (.invokevirtual 196, 3)), lw_k7 66 rfl rfl⟩, vm_Md_leads, me_Md_leads, pn_Md_leads⟩
theorem i_Md_depth_34 : iIf M_Md_depth 34 .ne 47 := ⟨13, (by decide +kernel : decode prog_14_method_46_code 34 = .ok (.ifCond .ne (13), 3)), by decide⟩
theorem i_Md_depth_37 : iIns M_Md_depth 37 (.iload_n 2) 1 := (by decide +kernel : decode prog_14_method_46_code 37 = .ok (.iload_n 2, 1))
theorem i_Md_depth_38 : iIns M_Md_depth 38 (.aload_n 0) 1 := (by decide +kernel : decode prog_14_method_46_code 38 = .ok (.aload_n 0, 1))
theorem i_Md_depth_39 : iIns M_Md_depth 39 (.iload_n 3) 1 := (by decide +kernel : decode prog_14_method_46_code 39 = .ok (.iload_n 3, 1))
theorem i_Md_depth_40 : iCallV M_Md_depth 40 M_Md_depth 1 14 := ⟨⟨198, (by decide +kernel : decode prog_14_method_46_code 40 = .ok (.invokevirtual 198, 3)), lw_k7 70 rfl rfl⟩, vm_Md_depth, me_Md_depth, pn_Md_depth⟩
theorem i_Md_depth_43 : iCallS M_Md_depth 43 M_Ma_maxI 2 := ⟨⟨201, (by decide +kernel : decode prog_14_method_46_code 43 = .ok (.invokestatic 201, 3)), lw_k7 74 rfl rfl⟩, sm_Ma_maxI, me_Ma_maxI, pn_Ma_maxI⟩
theorem i_Md_depth_46 : iIns M_Md_depth 46 (.istore_n 2) 1 := (by decide +kernel : decode prog_14_method_46_code 46 = .ok (.istore_n 2, 1))
theorem i_Md_depth_47 : iIns M_Md_depth 47 (.iinc 3 (1)) 3 := (by decide +kernel : decode prog_14_method_46_code 47 = .ok (.iinc 3 (1), 3))
theorem i_Md_depth_50 : iGoto M_Md_depth 50 4 := ⟨-46, (by decide +kernel : decode prog_14_method_46_code 50 = .ok (.goto (-46), 3)), by decide⟩
theorem i_Md_depth_53 : iIns M_Md_depth 53 (.iconst 1) 1 := (by decide +kernel : decode prog_14_method_46_code 53 = .ok (.iconst 1, 1))
theorem i_Md_depth_54 : iIns M_Md_depth 54 (.iload_n 2) 1 := (by decide +kernel : decode prog_14_method_46_code 54 = .ok (.iload_n 2, 1))
theorem i_Md_depth_55 : iIns M_Md_depth 55 .iadd 1 := (by decide +kernel : decode prog_14_method_46_code 55 = .ok (.iadd, 1))
theorem i_Md_depth_56 : iIns M_Md_depth 56 .ireturn 1 := (by decide +kernel : decode prog_14_method_46_code 56 = .ok (.ireturn, 1))
theorem i_Md_growthDegree_0 : iIns M_Md_growthDegree 0 (.aload_n 0) 1 := (by decide +kernel : decode prog_14_method_49_code 0 = .ok (.aload_n 0, 1))
theorem i_Md_growthDegree_1 : iIns M_Md_growthDegree 1 (.iload_n 1) 1 := (by decide +kernel : decode prog_14_method_49_code 1 = .ok (.iload_n 1, 1))
theorem i_Md_growthDegree_2 : iCallS M_Md_growthDegree 2 M_Md_isTable 1 := ⟨⟨112, (by decide +kernel : decode prog_14_method_49_code 2 = .ok (.invokestatic 112, 3)), lw_k6 156 rfl rfl⟩, sm_Md_isTable, me_Md_isTable, pn_Md_isTable⟩
theorem i_Md_growthDegree_5 : iIf M_Md_growthDegree 5 .ne 12 := ⟨7, (by decide +kernel : decode prog_14_method_49_code 5 = .ok (.ifCond .ne (7), 3)), by decide⟩
theorem i_Md_growthDegree_8 : iIns M_Md_growthDegree 8 (.iconst 1) 1 := (by decide +kernel : decode prog_14_method_49_code 8 = .ok (.iconst 1, 1))
theorem i_Md_growthDegree_9 : iGoto M_Md_growthDegree 9 25 := ⟨16, (by decide +kernel : decode prog_14_method_49_code 9 = .ok (.goto (16), 3)), by decide⟩
theorem i_Md_growthDegree_12 : iIns M_Md_growthDegree 12 (.aload_n 0) 1 := (by decide +kernel : decode prog_14_method_49_code 12 = .ok (.aload_n 0, 1))
theorem i_Md_growthDegree_13 : iIns M_Md_growthDegree 13 (.iload_n 1) 1 := (by decide +kernel : decode prog_14_method_49_code 13 = .ok (.iload_n 1, 1))
theorem i_Md_growthDegree_14 : iCallV M_Md_growthDegree 14 M_Md_unfit 1 14 := ⟨⟨189, (by decide +kernel : decode prog_14_method_49_code 14 = .ok (.invokevirtual 189, 3)), lw_k7 26 rfl rfl⟩, vm_Md_unfit, me_Md_unfit, pn_Md_unfit⟩
theorem i_Md_growthDegree_17 : iIf M_Md_growthDegree 17 .le 24 := ⟨7, (by decide +kernel : decode prog_14_method_49_code 17 = .ok (.ifCond .le (7), 3)), by decide⟩
theorem i_Md_growthDegree_20 : iIns M_Md_growthDegree 20 (.iconst 2) 1 := (by decide +kernel : decode prog_14_method_49_code 20 = .ok (.iconst 2, 1))
theorem i_Md_growthDegree_21 : iGoto M_Md_growthDegree 21 25 := ⟨4, (by decide +kernel : decode prog_14_method_49_code 21 = .ok (.goto (4), 3)), by decide⟩
theorem i_Md_growthDegree_24 : iIns M_Md_growthDegree 24 (.iconst 0) 1 := (by decide +kernel : decode prog_14_method_49_code 24 = .ok (.iconst 0, 1))
theorem i_Md_growthDegree_25 : iPutX M_Md_growthDegree 25 14 0 .int := ⟨97, (by decide +kernel : decode prog_14_method_49_code 25 = .ok (.putfield 97, 3)), px_Md_Md_thrown⟩
theorem i_Md_growthDegree_28 : iIns M_Md_growthDegree 28 (.aload_n 0) 1 := (by decide +kernel : decode prog_14_method_49_code 28 = .ok (.aload_n 0, 1))
theorem i_Md_growthDegree_29 : iGet M_Md_growthDegree 29 14 0 := ⟨97, (by decide +kernel : decode prog_14_method_49_code 29 = .ok (.getfield 97, 3)), fl_Md_Md_thrown⟩
theorem i_Md_growthDegree_32 : iIf M_Md_growthDegree 32 .le 37 := ⟨5, (by decide +kernel : decode prog_14_method_49_code 32 = .ok (.ifCond .le (5), 3)), by decide⟩
theorem i_Md_growthDegree_35 : iIns M_Md_growthDegree 35 (.iconst 0) 1 := (by decide +kernel : decode prog_14_method_49_code 35 = .ok (.iconst 0, 1))
theorem i_Md_growthDegree_36 : iIns M_Md_growthDegree 36 .ireturn 1 := (by decide +kernel : decode prog_14_method_49_code 36 = .ok (.ireturn, 1))
theorem i_Md_growthDegree_37 : iIns M_Md_growthDegree 37 (.aload_n 0) 1 := (by decide +kernel : decode prog_14_method_49_code 37 = .ok (.aload_n 0, 1))
theorem i_Md_growthDegree_38 : iIns M_Md_growthDegree 38 (.iload_n 1) 1 := (by decide +kernel : decode prog_14_method_49_code 38 = .ok (.iload_n 1, 1))
theorem i_Md_growthDegree_39 : iCallV M_Md_growthDegree 39 M_Md_grows 1 14 := ⟨⟨213, (by decide +kernel : decode prog_14_method_49_code 39 = .ok (.invokevirtual 213, 3)), lw_k7 54 rfl rfl⟩, vm_Md_grows, me_Md_grows, pn_Md_grows⟩
theorem i_Md_growthDegree_42 : iIns M_Md_growthDegree 42 (.istore_n 2) 1 := (by decide +kernel : decode prog_14_method_49_code 42 = .ok (.istore_n 2, 1))
theorem i_Md_growthDegree_43 : iIns M_Md_growthDegree 43 (.iload_n 2) 1 := (by decide +kernel : decode prog_14_method_49_code 43 = .ok (.iload_n 2, 1))
theorem i_Md_growthDegree_44 : iIns M_Md_growthDegree 44 (.sipush 1000) 3 := (by decide +kernel : decode prog_14_method_49_code 44 = .ok (.sipush 1000, 3))
theorem i_Md_growthDegree_47 : iIcmp M_Md_growthDegree 47 .ne 58 := ⟨11, (by decide +kernel : decode prog_14_method_49_code 47 = .ok (.if_icmp .ne (11), 3)), by decide⟩
theorem i_Md_growthDegree_50 : iIns M_Md_growthDegree 50 (.aload_n 0) 1 := (by decide +kernel : decode prog_14_method_49_code 50 = .ok (.aload_n 0, 1))
theorem i_Md_growthDegree_51 : iIns M_Md_growthDegree 51 (.iconst 3) 1 := (by decide +kernel : decode prog_14_method_49_code 51 = .ok (.iconst 3, 1))
theorem i_Md_growthDegree_52 : iCallV M_Md_growthDegree 52 M_Md_fails 1 14 := ⟨⟨105, (by decide +kernel : decode prog_14_method_49_code 52 = .ok (.invokevirtual 105, 3)), lw_k6 144 rfl rfl⟩, vm_Md_fails, me_Md_fails, pn_Md_fails⟩
theorem i_Md_growthDegree_55 : iGoto M_Md_growthDegree 55 63 := ⟨8, (by decide +kernel : decode prog_14_method_49_code 55 = .ok (.goto (8), 3)), by decide⟩
theorem i_Md_growthDegree_58 : iIns M_Md_growthDegree 58 (.iload_n 2) 1 := (by decide +kernel : decode prog_14_method_49_code 58 = .ok (.iload_n 2, 1))
theorem i_Md_growthDegree_59 : iIns M_Md_growthDegree 59 (.iconst 0) 1 := (by decide +kernel : decode prog_14_method_49_code 59 = .ok (.iconst 0, 1))
theorem i_Md_growthDegree_60 : iCallS M_Md_growthDegree 60 M_Ma_maxI 2 := ⟨⟨201, (by decide +kernel : decode prog_14_method_49_code 60 = .ok (.invokestatic 201, 3)), lw_k7 74 rfl rfl⟩, sm_Ma_maxI, me_Ma_maxI, pn_Ma_maxI⟩
theorem i_Md_growthDegree_63 : iIns M_Md_growthDegree 63 .ireturn 1 := (by decide +kernel : decode prog_14_method_49_code 63 = .ok (.ireturn, 1))
theorem i_Md_recurrenceOrder_0 : iIns M_Md_recurrenceOrder 0 (.aload_n 0) 1 := (by decide +kernel : decode prog_14_method_54_code 0 = .ok (.aload_n 0, 1))
theorem i_Md_recurrenceOrder_1 : iIns M_Md_recurrenceOrder 1 (.iload_n 1) 1 := (by decide +kernel : decode prog_14_method_54_code 1 = .ok (.iload_n 1, 1))
theorem i_Md_recurrenceOrder_2 : iCallS M_Md_recurrenceOrder 2 M_Md_isTable 1 := ⟨⟨112, (by decide +kernel : decode prog_14_method_54_code 2 = .ok (.invokestatic 112, 3)), lw_k6 156 rfl rfl⟩, sm_Md_isTable, me_Md_isTable, pn_Md_isTable⟩
theorem i_Md_recurrenceOrder_5 : iIf M_Md_recurrenceOrder 5 .ne 12 := ⟨7, (by decide +kernel : decode prog_14_method_54_code 5 = .ok (.ifCond .ne (7), 3)), by decide⟩
theorem i_Md_recurrenceOrder_8 : iIns M_Md_recurrenceOrder 8 (.iconst 1) 1 := (by decide +kernel : decode prog_14_method_54_code 8 = .ok (.iconst 1, 1))
theorem i_Md_recurrenceOrder_9 : iGoto M_Md_recurrenceOrder 9 25 := ⟨16, (by decide +kernel : decode prog_14_method_54_code 9 = .ok (.goto (16), 3)), by decide⟩
theorem i_Md_recurrenceOrder_12 : iIns M_Md_recurrenceOrder 12 (.aload_n 0) 1 := (by decide +kernel : decode prog_14_method_54_code 12 = .ok (.aload_n 0, 1))
theorem i_Md_recurrenceOrder_13 : iIns M_Md_recurrenceOrder 13 (.iload_n 1) 1 := (by decide +kernel : decode prog_14_method_54_code 13 = .ok (.iload_n 1, 1))
theorem i_Md_recurrenceOrder_14 : iCallV M_Md_recurrenceOrder 14 M_Md_unfit 1 14 := ⟨⟨189, (by decide +kernel : decode prog_14_method_54_code 14 = .ok (.invokevirtual 189, 3)), lw_k7 26 rfl rfl⟩, vm_Md_unfit, me_Md_unfit, pn_Md_unfit⟩
theorem i_Md_recurrenceOrder_17 : iIf M_Md_recurrenceOrder 17 .le 24 := ⟨7, (by decide +kernel : decode prog_14_method_54_code 17 = .ok (.ifCond .le (7), 3)), by decide⟩
theorem i_Md_recurrenceOrder_20 : iIns M_Md_recurrenceOrder 20 (.iconst 2) 1 := (by decide +kernel : decode prog_14_method_54_code 20 = .ok (.iconst 2, 1))
theorem i_Md_recurrenceOrder_21 : iGoto M_Md_recurrenceOrder 21 25 := ⟨4, (by decide +kernel : decode prog_14_method_54_code 21 = .ok (.goto (4), 3)), by decide⟩
theorem i_Md_recurrenceOrder_24 : iIns M_Md_recurrenceOrder 24 (.iconst 0) 1 := (by decide +kernel : decode prog_14_method_54_code 24 = .ok (.iconst 0, 1))
theorem i_Md_recurrenceOrder_25 : iPutX M_Md_recurrenceOrder 25 14 0 .int := ⟨97, (by decide +kernel : decode prog_14_method_54_code 25 = .ok (.putfield 97, 3)), px_Md_Md_thrown⟩
theorem i_Md_recurrenceOrder_28 : iIns M_Md_recurrenceOrder 28 (.aload_n 0) 1 := (by decide +kernel : decode prog_14_method_54_code 28 = .ok (.aload_n 0, 1))
theorem i_Md_recurrenceOrder_29 : iGet M_Md_recurrenceOrder 29 14 0 := ⟨97, (by decide +kernel : decode prog_14_method_54_code 29 = .ok (.getfield 97, 3)), fl_Md_Md_thrown⟩
theorem i_Md_recurrenceOrder_32 : iIf M_Md_recurrenceOrder 32 .le 39 := ⟨7, (by decide +kernel : decode prog_14_method_54_code 32 = .ok (.ifCond .le (7), 3)), by decide⟩
theorem i_Md_recurrenceOrder_35 : iIns M_Md_recurrenceOrder 35 (.iconst 0) 1 := (by decide +kernel : decode prog_14_method_54_code 35 = .ok (.iconst 0, 1))
theorem i_Md_recurrenceOrder_36 : iGoto M_Md_recurrenceOrder 36 44 := ⟨8, (by decide +kernel : decode prog_14_method_54_code 36 = .ok (.goto (8), 3)), by decide⟩
theorem i_Md_recurrenceOrder_39 : iIns M_Md_recurrenceOrder 39 (.aload_n 0) 1 := (by decide +kernel : decode prog_14_method_54_code 39 = .ok (.aload_n 0, 1))
theorem i_Md_recurrenceOrder_40 : iIns M_Md_recurrenceOrder 40 (.iload_n 1) 1 := (by decide +kernel : decode prog_14_method_54_code 40 = .ok (.iload_n 1, 1))
theorem i_Md_recurrenceOrder_41 : iCallV M_Md_recurrenceOrder 41 M_Md_orderOf 1 14 := ⟨⟨230, (by decide +kernel : decode prog_14_method_54_code 41 = .ok (.invokevirtual 230, 3)), lw_k7 83 rfl rfl⟩, vm_Md_orderOf, me_Md_orderOf, pn_Md_orderOf⟩
theorem i_Md_recurrenceOrder_44 : iIns M_Md_recurrenceOrder 44 .ireturn 1 := (by decide +kernel : decode prog_14_method_54_code 44 = .ok (.ireturn, 1))
theorem i_Md_orderOf_0 : iIns M_Md_orderOf 0 (.aload_n 0) 1 := (by decide +kernel : decode prog_14_method_53_code 0 = .ok (.aload_n 0, 1))
theorem i_Md_orderOf_1 : iIns M_Md_orderOf 1 (.iload_n 1) 1 := (by decide +kernel : decode prog_14_method_53_code 1 = .ok (.iload_n 1, 1))
theorem i_Md_orderOf_2 : iCallV M_Md_orderOf 2 M_Md_findTerms 1 14 := ⟨⟨224, (by decide +kernel : decode prog_14_method_53_code 2 = .ok (.invokevirtual 224, 3)), lw_k7 87 rfl rfl⟩, vm_Md_findTerms, me_Md_findTerms, pn_Md_findTerms⟩
theorem i_Md_orderOf_5 : iIns M_Md_orderOf 5 (.iconst 0) 1 := (by decide +kernel : decode prog_14_method_53_code 5 = .ok (.iconst 0, 1))
theorem i_Md_orderOf_6 : iIns M_Md_orderOf 6 (.istore_n 2) 1 := (by decide +kernel : decode prog_14_method_53_code 6 = .ok (.istore_n 2, 1))
theorem i_Md_orderOf_7 : iIns M_Md_orderOf 7 (.iload_n 2) 1 := (by decide +kernel : decode prog_14_method_53_code 7 = .ok (.iload_n 2, 1))
theorem i_Md_orderOf_8 : iIns M_Md_orderOf 8 (.bipush 6) 2 := (by decide +kernel : decode prog_14_method_53_code 8 = .ok (.bipush 6, 2))
theorem i_Md_orderOf_10 : iIcmp M_Md_orderOf 10 .ge 27 := ⟨17, (by decide +kernel : decode prog_14_method_53_code 10 = .ok (.if_icmp .ge (17), 3)), by decide⟩
theorem i_Md_orderOf_13 : iIns M_Md_orderOf 13 (.aload_n 0) 1 := (by decide +kernel : decode prog_14_method_53_code 13 = .ok (.aload_n 0, 1))
theorem i_Md_orderOf_14 : iIns M_Md_orderOf 14 (.iload_n 2) 1 := (by decide +kernel : decode prog_14_method_53_code 14 = .ok (.iload_n 2, 1))
theorem i_Md_orderOf_15 : iCallV M_Md_orderOf 15 M_Md_solve 1 14 := ⟨⟨227, (by decide +kernel : decode prog_14_method_53_code 15 = .ok (.invokevirtual 227, 3)), lw_k7 92 rfl rfl⟩, vm_Md_solve, me_Md_solve, pn_Md_solve⟩
theorem i_Md_orderOf_18 : iIf M_Md_orderOf 18 .ne 27 := ⟨9, (by decide +kernel : decode prog_14_method_53_code 18 = .ok (.ifCond .ne (9), 3)), by decide⟩
theorem i_Md_orderOf_21 : iIns M_Md_orderOf 21 (.iinc 2 (1)) 3 := (by decide +kernel : decode prog_14_method_53_code 21 = .ok (.iinc 2 (1), 3))
theorem i_Md_orderOf_24 : iGoto M_Md_orderOf 24 7 := ⟨-17, (by decide +kernel : decode prog_14_method_53_code 24 = .ok (.goto (-17), 3)), by decide⟩
theorem i_Md_orderOf_27 : iIns M_Md_orderOf 27 (.aload_n 0) 1 := (by decide +kernel : decode prog_14_method_53_code 27 = .ok (.aload_n 0, 1))
theorem i_Md_orderOf_28 : iIns M_Md_orderOf 28 (.iload_n 2) 1 := (by decide +kernel : decode prog_14_method_53_code 28 = .ok (.iload_n 2, 1))
theorem i_Md_orderOf_29 : iCallV M_Md_orderOf 29 M_Md_solve 1 14 := ⟨⟨227, (by decide +kernel : decode prog_14_method_53_code 29 = .ok (.invokevirtual 227, 3)), lw_k7 92 rfl rfl⟩, vm_Md_solve, me_Md_solve, pn_Md_solve⟩
theorem i_Md_orderOf_32 : iIns M_Md_orderOf 32 (.istore_n 3) 1 := (by decide +kernel : decode prog_14_method_53_code 32 = .ok (.istore_n 3, 1))
theorem i_Md_orderOf_33 : iIns M_Md_orderOf 33 (.iload_n 2) 1 := (by decide +kernel : decode prog_14_method_53_code 33 = .ok (.iload_n 2, 1))
theorem i_Md_orderOf_34 : iIns M_Md_orderOf 34 .ireturn 1 := (by decide +kernel : decode prog_14_method_53_code 34 = .ok (.ireturn, 1))
theorem i_Md_findTerms_0 : iIns M_Md_findTerms 0 (.aload_n 0) 1 := (by decide +kernel : decode prog_14_method_50_code 0 = .ok (.aload_n 0, 1))
theorem i_Md_findTerms_1 : iCallV M_Md_findTerms 1 M_Md_countWord 0 14 := ⟨⟨179, (by decide +kernel : decode prog_14_method_50_code 1 = .ok (.invokevirtual 179, 3)), lw_k7 34 rfl rfl⟩, vm_Md_countWord, me_Md_countWord, pn_Md_countWord⟩
theorem i_Md_findTerms_4 : iIns M_Md_findTerms 4 (.iconst 0) 1 := (by decide +kernel : decode prog_14_method_50_code 4 = .ok (.iconst 0, 1))
theorem i_Md_findTerms_5 : iIns M_Md_findTerms 5 (.istore_n 2) 1 := (by decide +kernel : decode prog_14_method_50_code 5 = .ok (.istore_n 2, 1))
theorem i_Md_findTerms_6 : iIns M_Md_findTerms 6 (.iload_n 2) 1 := (by decide +kernel : decode prog_14_method_50_code 6 = .ok (.iload_n 2, 1))
theorem i_Md_findTerms_7 : iIns M_Md_findTerms 7 (.bipush 18) 2 := (by decide +kernel : decode prog_14_method_50_code 7 = .ok (.bipush 18, 2))
theorem i_Md_findTerms_9 : iIcmp M_Md_findTerms 9 .ge 134 := ⟨125, (by decide +kernel : decode prog_14_method_50_code 9 = .ok (.if_icmp .ge (125), 3)), by decide⟩
theorem i_Md_findTerms_12 : iIns M_Md_findTerms 12 (.lconst 0) 1 := (by decide +kernel : decode prog_14_method_50_code 12 = .ok (.lconst 0, 1))
theorem i_Md_findTerms_13 : iIns M_Md_findTerms 13 (.lstore_n 3) 1 := (by decide +kernel : decode prog_14_method_50_code 13 = .ok (.lstore_n 3, 1))
theorem i_Md_findTerms_14 : iIns M_Md_findTerms 14 (.iconst 0) 1 := (by decide +kernel : decode prog_14_method_50_code 14 = .ok (.iconst 0, 1))
theorem i_Md_findTerms_15 : iIns M_Md_findTerms 15 (.istore 5) 2 := (by decide +kernel : decode prog_14_method_50_code 15 = .ok (.istore 5, 2))
theorem i_Md_findTerms_17 : iIns M_Md_findTerms 17 (.iload 5) 2 := (by decide +kernel : decode prog_14_method_50_code 17 = .ok (.iload 5, 2))
theorem i_Md_findTerms_19 : iIns M_Md_findTerms 19 (.bipush 6) 2 := (by decide +kernel : decode prog_14_method_50_code 19 = .ok (.bipush 6, 2))
theorem i_Md_findTerms_21 : iIcmp M_Md_findTerms 21 .ge 101 := ⟨80, (by decide +kernel : decode prog_14_method_50_code 21 = .ok (.if_icmp .ge (80), 3)), by decide⟩
theorem i_Md_findTerms_24 : iIns M_Md_findTerms 24 (.lload_n 3) 1 := (by decide +kernel : decode prog_14_method_50_code 24 = .ok (.lload_n 3, 1))
theorem i_Md_findTerms_25 : iIns M_Md_findTerms 25 (.aload_n 0) 1 := (by decide +kernel : decode prog_14_method_50_code 25 = .ok (.aload_n 0, 1))
theorem i_Md_findTerms_26 : iGet M_Md_findTerms 26 14 16 := ⟨43, (by decide +kernel : decode prog_14_method_50_code 26 = .ok (.getfield 43, 3)), fl_Md_Md_counts⟩
theorem i_Md_findTerms_29 : iIns M_Md_findTerms 29 (.iload 5) 2 := (by decide +kernel : decode prog_14_method_50_code 29 = .ok (.iload 5, 2))
theorem i_Md_findTerms_31 : iIns M_Md_findTerms 31 .laload 1 := (by decide +kernel : decode prog_14_method_50_code 31 = .ok (.laload, 1))
theorem i_Md_findTerms_32 : iIns M_Md_findTerms 32 .ladd 1 := (by decide +kernel : decode prog_14_method_50_code 32 = .ok (.ladd, 1))
theorem i_Md_findTerms_33 : iIns M_Md_findTerms 33 (.lstore_n 3) 1 := (by decide +kernel : decode prog_14_method_50_code 33 = .ok (.lstore_n 3, 1))
theorem i_Md_findTerms_34 : iIns M_Md_findTerms 34 (.aload_n 0) 1 := (by decide +kernel : decode prog_14_method_50_code 34 = .ok (.aload_n 0, 1))
theorem i_Md_findTerms_35 : iGet M_Md_findTerms 35 14 17 := ⟨47, (by decide +kernel : decode prog_14_method_50_code 35 = .ok (.getfield 47, 3)), fl_Md_Md_nextCounts⟩
theorem i_Md_findTerms_38 : iIns M_Md_findTerms 38 (.iload 5) 2 := (by decide +kernel : decode prog_14_method_50_code 38 = .ok (.iload 5, 2))
theorem i_Md_findTerms_40 : iIns M_Md_findTerms 40 (.lconst 0) 1 := (by decide +kernel : decode prog_14_method_50_code 40 = .ok (.lconst 0, 1))
theorem i_Md_findTerms_41 : iIns M_Md_findTerms 41 .lastore 1 := (by decide +kernel : decode prog_14_method_50_code 41 = .ok (.lastore, 1))
theorem i_Md_findTerms_42 : iIns M_Md_findTerms 42 (.iconst 0) 1 := (by decide +kernel : decode prog_14_method_50_code 42 = .ok (.iconst 0, 1))
theorem i_Md_findTerms_43 : iIns M_Md_findTerms 43 (.istore 6) 2 := (by decide +kernel : decode prog_14_method_50_code 43 = .ok (.istore 6, 2))
theorem i_Md_findTerms_45 : iIns M_Md_findTerms 45 (.iload 6) 2 := (by decide +kernel : decode prog_14_method_50_code 45 = .ok (.iload 6, 2))
theorem i_Md_findTerms_47 : iIns M_Md_findTerms 47 (.bipush 6) 2 := (by decide +kernel : decode prog_14_method_50_code 47 = .ok (.bipush 6, 2))
theorem i_Md_findTerms_49 : iIcmp M_Md_findTerms 49 .ge 95 := ⟨46, (by decide +kernel : decode prog_14_method_50_code 49 = .ok (.if_icmp .ge (46), 3)), by decide⟩
theorem i_Md_findTerms_52 : iIns M_Md_findTerms 52 (.aload_n 0) 1 := (by decide +kernel : decode prog_14_method_50_code 52 = .ok (.aload_n 0, 1))
theorem i_Md_findTerms_53 : iGet M_Md_findTerms 53 14 17 := ⟨47, (by decide +kernel : decode prog_14_method_50_code 53 = .ok (.getfield 47, 3)), fl_Md_Md_nextCounts⟩
theorem i_Md_findTerms_56 : iIns M_Md_findTerms 56 (.iload 5) 2 := (by decide +kernel : decode prog_14_method_50_code 56 = .ok (.iload 5, 2))
theorem i_Md_findTerms_58 : iIns M_Md_findTerms 58 (.aload_n 0) 1 := (by decide +kernel : decode prog_14_method_50_code 58 = .ok (.aload_n 0, 1))
theorem i_Md_findTerms_59 : iGet M_Md_findTerms 59 14 17 := ⟨47, (by decide +kernel : decode prog_14_method_50_code 59 = .ok (.getfield 47, 3)), fl_Md_Md_nextCounts⟩
theorem i_Md_findTerms_62 : iIns M_Md_findTerms 62 (.iload 5) 2 := (by decide +kernel : decode prog_14_method_50_code 62 = .ok (.iload 5, 2))
theorem i_Md_findTerms_64 : iIns M_Md_findTerms 64 .laload 1 := (by decide +kernel : decode prog_14_method_50_code 64 = .ok (.laload, 1))
theorem i_Md_findTerms_65 : iIns M_Md_findTerms 65 (.aload_n 0) 1 := (by decide +kernel : decode prog_14_method_50_code 65 = .ok (.aload_n 0, 1))
theorem i_Md_findTerms_66 : iIns M_Md_findTerms 66 (.iload_n 1) 1 := (by decide +kernel : decode prog_14_method_50_code 66 = .ok (.iload_n 1, 1))
theorem i_Md_findTerms_67 : iIns M_Md_findTerms 67 (.iload 6) 2 := (by decide +kernel : decode prog_14_method_50_code 67 = .ok (.iload 6, 2))
theorem i_Md_findTerms_69 : iIns M_Md_findTerms 69 (.iload 5) 2 := (by decide +kernel : decode prog_14_method_50_code 69 = .ok (.iload 5, 2))
theorem i_Md_findTerms_71 : iCallV M_Md_findTerms 71 M_Md_occurs 3 14 := ⟨⟨182, (by decide +kernel : decode prog_14_method_50_code 71 = .ok (.invokevirtual 182, 3)), lw_k7 38 rfl rfl⟩, vm_Md_occurs, me_Md_occurs, pn_Md_occurs⟩
theorem i_Md_findTerms_74 : iIns M_Md_findTerms 74 .i2l 1 := (by decide +kernel : decode prog_14_method_50_code 74 = .ok (.i2l, 1))
theorem i_Md_findTerms_75 : iIns M_Md_findTerms 75 (.aload_n 0) 1 := (by decide +kernel : decode prog_14_method_50_code 75 = .ok (.aload_n 0, 1))
theorem i_Md_findTerms_76 : iGet M_Md_findTerms 76 14 16 := ⟨43, (by decide +kernel : decode prog_14_method_50_code 76 = .ok (.getfield 43, 3)), fl_Md_Md_counts⟩
theorem i_Md_findTerms_79 : iIns M_Md_findTerms 79 (.iload 6) 2 := (by decide +kernel : decode prog_14_method_50_code 79 = .ok (.iload 6, 2))
theorem i_Md_findTerms_81 : iIns M_Md_findTerms 81 .laload 1 := (by decide +kernel : decode prog_14_method_50_code 81 = .ok (.laload, 1))
theorem i_Md_findTerms_82 : iIns M_Md_findTerms 82 .lmul 1 := (by decide +kernel : decode prog_14_method_50_code 82 = .ok (.lmul, 1))
theorem i_Md_findTerms_83 : iIns M_Md_findTerms 83 .ladd 1 := (by decide +kernel : decode prog_14_method_50_code 83 = .ok (.ladd, 1))
theorem i_Md_findTerms_84 : iLdcL M_Md_findTerms 84 (10007) := ⟨216, (by decide +kernel : decode prog_14_method_50_code 84 = .ok (.ldc2_w 216, 3)), lw_k7 91 rfl rfl⟩
theorem i_Md_findTerms_87 : iIns M_Md_findTerms 87 .lrem 1 := (by decide +kernel : decode prog_14_method_50_code 87 = .ok (.lrem, 1))
theorem i_Md_findTerms_88 : iIns M_Md_findTerms 88 .lastore 1 := (by decide +kernel : decode prog_14_method_50_code 88 = .ok (.lastore, 1))
theorem i_Md_findTerms_89 : iIns M_Md_findTerms 89 (.iinc 6 (1)) 3 := (by decide +kernel : decode prog_14_method_50_code 89 = .ok (.iinc 6 (1), 3))
theorem i_Md_findTerms_92 : iGoto M_Md_findTerms 92 45 := ⟨-47, (by decide +kernel : decode prog_14_method_50_code 92 = .ok (.goto (-47), 3)), by decide⟩
theorem i_Md_findTerms_95 : iIns M_Md_findTerms 95 (.iinc 5 (1)) 3 := (by decide +kernel : decode prog_14_method_50_code 95 = .ok (.iinc 5 (1), 3))
theorem i_Md_findTerms_98 : iGoto M_Md_findTerms 98 17 := ⟨-81, (by decide +kernel : decode prog_14_method_50_code 98 = .ok (.goto (-81), 3)), by decide⟩
theorem i_Md_findTerms_101 : iIns M_Md_findTerms 101 (.aload_n 0) 1 := (by decide +kernel : decode prog_14_method_50_code 101 = .ok (.aload_n 0, 1))
theorem i_Md_findTerms_102 : iGet M_Md_findTerms 102 14 21 := ⟨60, (by decide +kernel : decode prog_14_method_50_code 102 = .ok (.getfield 60, 3)), fl_Md_Md_terms⟩
theorem i_Md_findTerms_105 : iIns M_Md_findTerms 105 (.iload_n 2) 1 := (by decide +kernel : decode prog_14_method_50_code 105 = .ok (.iload_n 2, 1))
theorem i_Md_findTerms_106 : iIns M_Md_findTerms 106 (.lload_n 3) 1 := (by decide +kernel : decode prog_14_method_50_code 106 = .ok (.lload_n 3, 1))
theorem i_Md_findTerms_107 : iLdcL M_Md_findTerms 107 (10007) := ⟨216, (by decide +kernel : decode prog_14_method_50_code 107 = .ok (.ldc2_w 216, 3)), lw_k7 91 rfl rfl⟩
theorem i_Md_findTerms_110 : iIns M_Md_findTerms 110 .lrem 1 := (by decide +kernel : decode prog_14_method_50_code 110 = .ok (.lrem, 1))
theorem i_Md_findTerms_111 : iIns M_Md_findTerms 111 .l2i 1 := (by decide +kernel : decode prog_14_method_50_code 111 = .ok (.l2i, 1))
theorem i_Md_findTerms_112 : iIns M_Md_findTerms 112 .iastore 1 := (by decide +kernel : decode prog_14_method_50_code 112 = .ok (.iastore, 1))
theorem i_Md_findTerms_113 : iIns M_Md_findTerms 113 (.aload_n 0) 1 := (by decide +kernel : decode prog_14_method_50_code 113 = .ok (.aload_n 0, 1))
theorem i_Md_findTerms_114 : iGet M_Md_findTerms 114 14 17 := ⟨47, (by decide +kernel : decode prog_14_method_50_code 114 = .ok (.getfield 47, 3)), fl_Md_Md_nextCounts⟩
theorem i_Md_findTerms_117 : iIns M_Md_findTerms 117 (.iconst 0) 1 := (by decide +kernel : decode prog_14_method_50_code 117 = .ok (.iconst 0, 1))
theorem i_Md_findTerms_118 : iIns M_Md_findTerms 118 (.aload_n 0) 1 := (by decide +kernel : decode prog_14_method_50_code 118 = .ok (.aload_n 0, 1))
theorem i_Md_findTerms_119 : iGet M_Md_findTerms 119 14 16 := ⟨43, (by decide +kernel : decode prog_14_method_50_code 119 = .ok (.getfield 43, 3)), fl_Md_Md_counts⟩
theorem i_Md_findTerms_122 : iIns M_Md_findTerms 122 (.iconst 0) 1 := (by decide +kernel : decode prog_14_method_50_code 122 = .ok (.iconst 0, 1))
theorem i_Md_findTerms_123 : iIns M_Md_findTerms 123 (.bipush 6) 2 := (by decide +kernel : decode prog_14_method_50_code 123 = .ok (.bipush 6, 2))
theorem i_Md_findTerms_125 : iCpy M_Md_findTerms 125 := ⟨146, (by decide +kernel : decode prog_14_method_50_code 125 = .ok (.invokestatic 146, 3)), lw_k6 205 rfl rfl⟩
theorem i_Md_findTerms_128 : iIns M_Md_findTerms 128 (.iinc 2 (1)) 3 := (by decide +kernel : decode prog_14_method_50_code 128 = .ok (.iinc 2 (1), 3))
theorem i_Md_findTerms_131 : iGoto M_Md_findTerms 131 6 := ⟨-125, (by decide +kernel : decode prog_14_method_50_code 131 = .ok (.goto (-125), 3)), by decide⟩
theorem i_Md_findTerms_134 : iIns M_Md_findTerms 134 .return_ 1 := (by decide +kernel : decode prog_14_method_50_code 134 = .ok (.return_, 1))
theorem i_Md_solve_0 : iIns M_Md_solve 0 (.iconst 0) 1 := (by decide +kernel : decode prog_14_method_52_code 0 = .ok (.iconst 0, 1))
theorem i_Md_solve_1 : iIns M_Md_solve 1 (.istore_n 2) 1 := (by decide +kernel : decode prog_14_method_52_code 1 = .ok (.istore_n 2, 1))
theorem i_Md_solve_2 : iIns M_Md_solve 2 (.iload_n 2) 1 := (by decide +kernel : decode prog_14_method_52_code 2 = .ok (.iload_n 2, 1))
theorem i_Md_solve_3 : iIns M_Md_solve 3 (.bipush 12) 2 := (by decide +kernel : decode prog_14_method_52_code 3 = .ok (.bipush 12, 2))
theorem i_Md_solve_5 : iIcmp M_Md_solve 5 .ge 69 := ⟨64, (by decide +kernel : decode prog_14_method_52_code 5 = .ok (.if_icmp .ge (64), 3)), by decide⟩
theorem i_Md_solve_8 : iIns M_Md_solve 8 (.iconst 1) 1 := (by decide +kernel : decode prog_14_method_52_code 8 = .ok (.iconst 1, 1))
theorem i_Md_solve_9 : iIns M_Md_solve 9 (.istore_n 3) 1 := (by decide +kernel : decode prog_14_method_52_code 9 = .ok (.istore_n 3, 1))
theorem i_Md_solve_10 : iIns M_Md_solve 10 (.iload_n 3) 1 := (by decide +kernel : decode prog_14_method_52_code 10 = .ok (.iload_n 3, 1))
theorem i_Md_solve_11 : iIns M_Md_solve 11 (.iload_n 1) 1 := (by decide +kernel : decode prog_14_method_52_code 11 = .ok (.iload_n 1, 1))
theorem i_Md_solve_12 : iIcmp M_Md_solve 12 .gt 44 := ⟨32, (by decide +kernel : decode prog_14_method_52_code 12 = .ok (.if_icmp .gt (32), 3)), by decide⟩
theorem i_Md_solve_15 : iIns M_Md_solve 15 (.aload_n 0) 1 := (by decide +kernel : decode prog_14_method_52_code 15 = .ok (.aload_n 0, 1))
theorem i_Md_solve_16 : iGet M_Md_solve 16 14 22 := ⟨63, (by decide +kernel : decode prog_14_method_52_code 16 = .ok (.getfield 63, 3)), fl_Md_Md_equations⟩
theorem i_Md_solve_19 : iIns M_Md_solve 19 (.bipush 7) 2 := (by decide +kernel : decode prog_14_method_52_code 19 = .ok (.bipush 7, 2))
theorem i_Md_solve_21 : iIns M_Md_solve 21 (.iload_n 2) 1 := (by decide +kernel : decode prog_14_method_52_code 21 = .ok (.iload_n 2, 1))
theorem i_Md_solve_22 : iIns M_Md_solve 22 .imul 1 := (by decide +kernel : decode prog_14_method_52_code 22 = .ok (.imul, 1))
theorem i_Md_solve_23 : iIns M_Md_solve 23 (.iload_n 3) 1 := (by decide +kernel : decode prog_14_method_52_code 23 = .ok (.iload_n 3, 1))
theorem i_Md_solve_24 : iIns M_Md_solve 24 .iadd 1 := (by decide +kernel : decode prog_14_method_52_code 24 = .ok (.iadd, 1))
theorem i_Md_solve_25 : iIns M_Md_solve 25 (.iconst 1) 1 := (by decide +kernel : decode prog_14_method_52_code 25 = .ok (.iconst 1, 1))
theorem i_Md_solve_26 : iIns M_Md_solve 26 .isub 1 := (by decide +kernel : decode prog_14_method_52_code 26 = .ok (.isub, 1))
theorem i_Md_solve_27 : iIns M_Md_solve 27 (.aload_n 0) 1 := (by decide +kernel : decode prog_14_method_52_code 27 = .ok (.aload_n 0, 1))
theorem i_Md_solve_28 : iGet M_Md_solve 28 14 21 := ⟨60, (by decide +kernel : decode prog_14_method_52_code 28 = .ok (.getfield 60, 3)), fl_Md_Md_terms⟩
theorem i_Md_solve_31 : iIns M_Md_solve 31 (.iload_n 1) 1 := (by decide +kernel : decode prog_14_method_52_code 31 = .ok (.iload_n 1, 1))
theorem i_Md_solve_32 : iIns M_Md_solve 32 (.iload_n 2) 1 := (by decide +kernel : decode prog_14_method_52_code 32 = .ok (.iload_n 2, 1))
theorem i_Md_solve_33 : iIns M_Md_solve 33 .iadd 1 := (by decide +kernel : decode prog_14_method_52_code 33 = .ok (.iadd, 1))
theorem i_Md_solve_34 : iIns M_Md_solve 34 (.iload_n 3) 1 := (by decide +kernel : decode prog_14_method_52_code 34 = .ok (.iload_n 3, 1))
theorem i_Md_solve_35 : iIns M_Md_solve 35 .isub 1 := (by decide +kernel : decode prog_14_method_52_code 35 = .ok (.isub, 1))
theorem i_Md_solve_36 : iIns M_Md_solve 36 .iaload 1 := (by decide +kernel : decode prog_14_method_52_code 36 = .ok (.iaload, 1))
theorem i_Md_solve_37 : iIns M_Md_solve 37 .iastore 1 := (by decide +kernel : decode prog_14_method_52_code 37 = .ok (.iastore, 1))
theorem i_Md_solve_38 : iIns M_Md_solve 38 (.iinc 3 (1)) 3 := (by decide +kernel : decode prog_14_method_52_code 38 = .ok (.iinc 3 (1), 3))
theorem i_Md_solve_41 : iGoto M_Md_solve 41 10 := ⟨-31, (by decide +kernel : decode prog_14_method_52_code 41 = .ok (.goto (-31), 3)), by decide⟩
theorem i_Md_solve_44 : iIns M_Md_solve 44 (.aload_n 0) 1 := (by decide +kernel : decode prog_14_method_52_code 44 = .ok (.aload_n 0, 1))
theorem i_Md_solve_45 : iGet M_Md_solve 45 14 22 := ⟨63, (by decide +kernel : decode prog_14_method_52_code 45 = .ok (.getfield 63, 3)), fl_Md_Md_equations⟩
theorem i_Md_solve_48 : iIns M_Md_solve 48 (.bipush 7) 2 := (by decide +kernel : decode prog_14_method_52_code 48 = .ok (.bipush 7, 2))
theorem i_Md_solve_50 : iIns M_Md_solve 50 (.iload_n 2) 1 := (by decide +kernel : decode prog_14_method_52_code 50 = .ok (.iload_n 2, 1))
theorem i_Md_solve_51 : iIns M_Md_solve 51 .imul 1 := (by decide +kernel : decode prog_14_method_52_code 51 = .ok (.imul, 1))
theorem i_Md_solve_52 : iIns M_Md_solve 52 (.iload_n 1) 1 := (by decide +kernel : decode prog_14_method_52_code 52 = .ok (.iload_n 1, 1))
theorem i_Md_solve_53 : iIns M_Md_solve 53 .iadd 1 := (by decide +kernel : decode prog_14_method_52_code 53 = .ok (.iadd, 1))
theorem i_Md_solve_54 : iIns M_Md_solve 54 (.aload_n 0) 1 := (by decide +kernel : decode prog_14_method_52_code 54 = .ok (.aload_n 0, 1))
theorem i_Md_solve_55 : iGet M_Md_solve 55 14 21 := ⟨60, (by decide +kernel : decode prog_14_method_52_code 55 = .ok (.getfield 60, 3)), fl_Md_Md_terms⟩
theorem i_Md_solve_58 : iIns M_Md_solve 58 (.iload_n 1) 1 := (by decide +kernel : decode prog_14_method_52_code 58 = .ok (.iload_n 1, 1))
theorem i_Md_solve_59 : iIns M_Md_solve 59 (.iload_n 2) 1 := (by decide +kernel : decode prog_14_method_52_code 59 = .ok (.iload_n 2, 1))
theorem i_Md_solve_60 : iIns M_Md_solve 60 .iadd 1 := (by decide +kernel : decode prog_14_method_52_code 60 = .ok (.iadd, 1))
theorem i_Md_solve_61 : iIns M_Md_solve 61 .iaload 1 := (by decide +kernel : decode prog_14_method_52_code 61 = .ok (.iaload, 1))
theorem i_Md_solve_62 : iIns M_Md_solve 62 .iastore 1 := (by decide +kernel : decode prog_14_method_52_code 62 = .ok (.iastore, 1))
theorem i_Md_solve_63 : iIns M_Md_solve 63 (.iinc 2 (1)) 3 := (by decide +kernel : decode prog_14_method_52_code 63 = .ok (.iinc 2 (1), 3))
theorem i_Md_solve_66 : iGoto M_Md_solve 66 2 := ⟨-64, (by decide +kernel : decode prog_14_method_52_code 66 = .ok (.goto (-64), 3)), by decide⟩
theorem i_Md_solve_69 : iIns M_Md_solve 69 (.iconst 0) 1 := (by decide +kernel : decode prog_14_method_52_code 69 = .ok (.iconst 0, 1))
theorem i_Md_solve_70 : iIns M_Md_solve 70 (.istore_n 2) 1 := (by decide +kernel : decode prog_14_method_52_code 70 = .ok (.istore_n 2, 1))
theorem i_Md_solve_71 : iIns M_Md_solve 71 (.iconst 0) 1 := (by decide +kernel : decode prog_14_method_52_code 71 = .ok (.iconst 0, 1))
theorem i_Md_solve_72 : iIns M_Md_solve 72 (.istore_n 3) 1 := (by decide +kernel : decode prog_14_method_52_code 72 = .ok (.istore_n 3, 1))
theorem i_Md_solve_73 : iIns M_Md_solve 73 (.iload_n 3) 1 := (by decide +kernel : decode prog_14_method_52_code 73 = .ok (.iload_n 3, 1))
theorem i_Md_solve_74 : iIns M_Md_solve 74 (.iload_n 1) 1 := (by decide +kernel : decode prog_14_method_52_code 74 = .ok (.iload_n 1, 1))
theorem i_Md_solve_75 : iIcmp M_Md_solve 75 .ge 333 := ⟨258, (by decide +kernel : decode prog_14_method_52_code 75 = .ok (.if_icmp .ge (258), 3)), by decide⟩
theorem i_Md_solve_78 : iIns M_Md_solve 78 (.iload_n 2) 1 := (by decide +kernel : decode prog_14_method_52_code 78 = .ok (.iload_n 2, 1))
theorem i_Md_solve_79 : iIns M_Md_solve 79 (.istore 4) 2 := (by decide +kernel : decode prog_14_method_52_code 79 = .ok (.istore 4, 2))
theorem i_Md_solve_81 : iIns M_Md_solve 81 (.iload 4) 2 := (by decide +kernel : decode prog_14_method_52_code 81 = .ok (.iload 4, 2))
theorem i_Md_solve_83 : iIns M_Md_solve 83 (.bipush 12) 2 := (by decide +kernel : decode prog_14_method_52_code 83 = .ok (.bipush 12, 2))
theorem i_Md_solve_85 : iIcmp M_Md_solve 85 .ge 109 := ⟨24, (by decide +kernel : decode prog_14_method_52_code 85 = .ok (.if_icmp .ge (24), 3)), by decide⟩
theorem i_Md_solve_88 : iIns M_Md_solve 88 (.aload_n 0) 1 := (by decide +kernel : decode prog_14_method_52_code 88 = .ok (.aload_n 0, 1))
theorem i_Md_solve_89 : iGet M_Md_solve 89 14 22 := ⟨63, (by decide +kernel : decode prog_14_method_52_code 89 = .ok (.getfield 63, 3)), fl_Md_Md_equations⟩
theorem i_Md_solve_92 : iIns M_Md_solve 92 (.bipush 7) 2 := (by decide +kernel : decode prog_14_method_52_code 92 = .ok (.bipush 7, 2))
theorem i_Md_solve_94 : iIns M_Md_solve 94 (.iload 4) 2 := (by decide +kernel : decode prog_14_method_52_code 94 = .ok (.iload 4, 2))
theorem i_Md_solve_96 : iIns M_Md_solve 96 .imul 1 := (by decide +kernel : decode prog_14_method_52_code 96 = .ok (.imul, 1))
theorem i_Md_solve_97 : iIns M_Md_solve 97 (.iload_n 3) 1 := (by decide +kernel : decode prog_14_method_52_code 97 = .ok (.iload_n 3, 1))
theorem i_Md_solve_98 : iIns M_Md_solve 98 .iadd 1 := (by decide +kernel : decode prog_14_method_52_code 98 = .ok (.iadd, 1))
theorem i_Md_solve_99 : iIns M_Md_solve 99 .iaload 1 := (by decide +kernel : decode prog_14_method_52_code 99 = .ok (.iaload, 1))
theorem i_Md_solve_100 : iIf M_Md_solve 100 .ne 109 := ⟨9, (by decide +kernel : decode prog_14_method_52_code 100 = .ok (.ifCond .ne (9), 3)), by decide⟩
theorem i_Md_solve_103 : iIns M_Md_solve 103 (.iinc 4 (1)) 3 := (by decide +kernel : decode prog_14_method_52_code 103 = .ok (.iinc 4 (1), 3))
theorem i_Md_solve_106 : iGoto M_Md_solve 106 81 := ⟨-25, (by decide +kernel : decode prog_14_method_52_code 106 = .ok (.goto (-25), 3)), by decide⟩
theorem i_Md_solve_109 : iIns M_Md_solve 109 (.iload 4) 2 := (by decide +kernel : decode prog_14_method_52_code 109 = .ok (.iload 4, 2))
theorem i_Md_solve_111 : iIns M_Md_solve 111 (.bipush 12) 2 := (by decide +kernel : decode prog_14_method_52_code 111 = .ok (.bipush 12, 2))
theorem i_Md_solve_113 : iIcmp M_Md_solve 113 .ne 128 := ⟨15, (by decide +kernel : decode prog_14_method_52_code 113 = .ok (.if_icmp .ne (15), 3)), by decide⟩
theorem i_Md_solve_116 : iIns M_Md_solve 116 (.aload_n 0) 1 := (by decide +kernel : decode prog_14_method_52_code 116 = .ok (.aload_n 0, 1))
theorem i_Md_solve_117 : iGet M_Md_solve 117 14 23 := ⟨66, (by decide +kernel : decode prog_14_method_52_code 117 = .ok (.getfield 66, 3)), fl_Md_Md_coefficients⟩
theorem i_Md_solve_120 : iIns M_Md_solve 120 (.iload_n 3) 1 := (by decide +kernel : decode prog_14_method_52_code 120 = .ok (.iload_n 3, 1))
theorem i_Md_solve_121 : iIns M_Md_solve 121 (.iconst 1) 1 := (by decide +kernel : decode prog_14_method_52_code 121 = .ok (.iconst 1, 1))
theorem i_Md_solve_122 : iIns M_Md_solve 122 .iadd 1 := (by decide +kernel : decode prog_14_method_52_code 122 = .ok (.iadd, 1))
theorem i_Md_solve_123 : iIns M_Md_solve 123 (.iconst 0) 1 := (by decide +kernel : decode prog_14_method_52_code 123 = .ok (.iconst 0, 1))
theorem i_Md_solve_124 : iIns M_Md_solve 124 .iastore 1 := (by decide +kernel : decode prog_14_method_52_code 124 = .ok (.iastore, 1))
theorem i_Md_solve_125 : iGoto M_Md_solve 125 327 := ⟨202, (by decide +kernel : decode prog_14_method_52_code 125 = .ok (.goto (202), 3)), by decide⟩
theorem i_Md_solve_128 : iIns M_Md_solve 128 (.aload_n 0) 1 := (by decide +kernel : decode prog_14_method_52_code 128 = .ok (.aload_n 0, 1))
theorem i_Md_solve_129 : iGet M_Md_solve 129 14 22 := ⟨63, (by decide +kernel : decode prog_14_method_52_code 129 = .ok (.getfield 63, 3)), fl_Md_Md_equations⟩
theorem i_Md_solve_132 : iIns M_Md_solve 132 (.bipush 7) 2 := (by decide +kernel : decode prog_14_method_52_code 132 = .ok (.bipush 7, 2))
theorem i_Md_solve_134 : iIns M_Md_solve 134 (.iload 4) 2 := (by decide +kernel : decode prog_14_method_52_code 134 = .ok (.iload 4, 2))
theorem i_Md_solve_136 : iIns M_Md_solve 136 .imul 1 := (by decide +kernel : decode prog_14_method_52_code 136 = .ok (.imul, 1))
theorem i_Md_solve_137 : iIns M_Md_solve 137 (.iload_n 3) 1 := (by decide +kernel : decode prog_14_method_52_code 137 = .ok (.iload_n 3, 1))
theorem i_Md_solve_138 : iIns M_Md_solve 138 .iadd 1 := (by decide +kernel : decode prog_14_method_52_code 138 = .ok (.iadd, 1))
theorem i_Md_solve_139 : iIns M_Md_solve 139 .iaload 1 := (by decide +kernel : decode prog_14_method_52_code 139 = .ok (.iaload, 1))
theorem i_Md_solve_140 : iCallS M_Md_solve 140 M_Md_inverse 1 := ⟨⟨218, (by decide +kernel : decode prog_14_method_52_code 140 = .ok (.invokestatic 218, 3)), lw_k7 96 rfl rfl⟩, sm_Md_inverse, me_Md_inverse, pn_Md_inverse⟩
theorem i_Md_solve_143 : iIns M_Md_solve 143 (.istore 5) 2 := (by decide +kernel : decode prog_14_method_52_code 143 = .ok (.istore 5, 2))
theorem i_Md_solve_145 : iIns M_Md_solve 145 (.iconst 0) 1 := (by decide +kernel : decode prog_14_method_52_code 145 = .ok (.iconst 0, 1))
theorem i_Md_solve_146 : iIns M_Md_solve 146 (.istore 6) 2 := (by decide +kernel : decode prog_14_method_52_code 146 = .ok (.istore 6, 2))
theorem i_Md_solve_148 : iIns M_Md_solve 148 (.iload 6) 2 := (by decide +kernel : decode prog_14_method_52_code 148 = .ok (.iload 6, 2))
theorem i_Md_solve_150 : iIns M_Md_solve 150 (.iload_n 1) 1 := (by decide +kernel : decode prog_14_method_52_code 150 = .ok (.iload_n 1, 1))
theorem i_Md_solve_151 : iIcmp M_Md_solve 151 .gt 221 := ⟨70, (by decide +kernel : decode prog_14_method_52_code 151 = .ok (.if_icmp .gt (70), 3)), by decide⟩
theorem i_Md_solve_154 : iIns M_Md_solve 154 (.aload_n 0) 1 := (by decide +kernel : decode prog_14_method_52_code 154 = .ok (.aload_n 0, 1))
theorem i_Md_solve_155 : iGet M_Md_solve 155 14 22 := ⟨63, (by decide +kernel : decode prog_14_method_52_code 155 = .ok (.getfield 63, 3)), fl_Md_Md_equations⟩
theorem i_Md_solve_158 : iIns M_Md_solve 158 (.bipush 7) 2 := (by decide +kernel : decode prog_14_method_52_code 158 = .ok (.bipush 7, 2))
theorem i_Md_solve_160 : iIns M_Md_solve 160 (.iload 4) 2 := (by decide +kernel : decode prog_14_method_52_code 160 = .ok (.iload 4, 2))
theorem i_Md_solve_162 : iIns M_Md_solve 162 .imul 1 := (by decide +kernel : decode prog_14_method_52_code 162 = .ok (.imul, 1))
theorem i_Md_solve_163 : iIns M_Md_solve 163 (.iload 6) 2 := (by decide +kernel : decode prog_14_method_52_code 163 = .ok (.iload 6, 2))
theorem i_Md_solve_165 : iIns M_Md_solve 165 .iadd 1 := (by decide +kernel : decode prog_14_method_52_code 165 = .ok (.iadd, 1))
theorem i_Md_solve_166 : iIns M_Md_solve 166 .iaload 1 := (by decide +kernel : decode prog_14_method_52_code 166 = .ok (.iaload, 1))
theorem i_Md_solve_167 : iIns M_Md_solve 167 (.iload 5) 2 := (by decide +kernel : decode prog_14_method_52_code 167 = .ok (.iload 5, 2))
theorem i_Md_solve_169 : iIns M_Md_solve 169 .imul 1 := (by decide +kernel : decode prog_14_method_52_code 169 = .ok (.imul, 1))
theorem i_Md_solve_170 : iIns M_Md_solve 170 (.sipush 10007) 3 := (by decide +kernel : decode prog_14_method_52_code 170 = .ok (.sipush 10007, 3))
theorem i_Md_solve_173 : iIns M_Md_solve 173 .irem 1 := (by decide +kernel : decode prog_14_method_52_code 173 = .ok (.irem, 1))
theorem i_Md_solve_174 : iIns M_Md_solve 174 (.istore 7) 2 := (by decide +kernel : decode prog_14_method_52_code 174 = .ok (.istore 7, 2))
theorem i_Md_solve_176 : iIns M_Md_solve 176 (.aload_n 0) 1 := (by decide +kernel : decode prog_14_method_52_code 176 = .ok (.aload_n 0, 1))
theorem i_Md_solve_177 : iGet M_Md_solve 177 14 22 := ⟨63, (by decide +kernel : decode prog_14_method_52_code 177 = .ok (.getfield 63, 3)), fl_Md_Md_equations⟩
theorem i_Md_solve_180 : iIns M_Md_solve 180 (.bipush 7) 2 := (by decide +kernel : decode prog_14_method_52_code 180 = .ok (.bipush 7, 2))
theorem i_Md_solve_182 : iIns M_Md_solve 182 (.iload 4) 2 := (by decide +kernel : decode prog_14_method_52_code 182 = .ok (.iload 4, 2))
theorem i_Md_solve_184 : iIns M_Md_solve 184 .imul 1 := (by decide +kernel : decode prog_14_method_52_code 184 = .ok (.imul, 1))
theorem i_Md_solve_185 : iIns M_Md_solve 185 (.iload 6) 2 := (by decide +kernel : decode prog_14_method_52_code 185 = .ok (.iload 6, 2))
theorem i_Md_solve_187 : iIns M_Md_solve 187 .iadd 1 := (by decide +kernel : decode prog_14_method_52_code 187 = .ok (.iadd, 1))
theorem i_Md_solve_188 : iIns M_Md_solve 188 (.aload_n 0) 1 := (by decide +kernel : decode prog_14_method_52_code 188 = .ok (.aload_n 0, 1))
theorem i_Md_solve_189 : iGet M_Md_solve 189 14 22 := ⟨63, (by decide +kernel : decode prog_14_method_52_code 189 = .ok (.getfield 63, 3)), fl_Md_Md_equations⟩
theorem i_Md_solve_192 : iIns M_Md_solve 192 (.bipush 7) 2 := (by decide +kernel : decode prog_14_method_52_code 192 = .ok (.bipush 7, 2))
theorem i_Md_solve_194 : iIns M_Md_solve 194 (.iload_n 2) 1 := (by decide +kernel : decode prog_14_method_52_code 194 = .ok (.iload_n 2, 1))
theorem i_Md_solve_195 : iIns M_Md_solve 195 .imul 1 := (by decide +kernel : decode prog_14_method_52_code 195 = .ok (.imul, 1))
theorem i_Md_solve_196 : iIns M_Md_solve 196 (.iload 6) 2 := (by decide +kernel : decode prog_14_method_52_code 196 = .ok (.iload 6, 2))
theorem i_Md_solve_198 : iIns M_Md_solve 198 .iadd 1 := (by decide +kernel : decode prog_14_method_52_code 198 = .ok (.iadd, 1))
theorem i_Md_solve_199 : iIns M_Md_solve 199 .iaload 1 := (by decide +kernel : decode prog_14_method_52_code 199 = .ok (.iaload, 1))
theorem i_Md_solve_200 : iIns M_Md_solve 200 .iastore 1 := (by decide +kernel : decode prog_14_method_52_code 200 = .ok (.iastore, 1))
theorem i_Md_solve_201 : iIns M_Md_solve 201 (.aload_n 0) 1 := (by decide +kernel : decode prog_14_method_52_code 201 = .ok (.aload_n 0, 1))
theorem i_Md_solve_202 : iGet M_Md_solve 202 14 22 := ⟨63, (by decide +kernel : decode prog_14_method_52_code 202 = .ok (.getfield 63, 3)), fl_Md_Md_equations⟩
theorem i_Md_solve_205 : iIns M_Md_solve 205 (.bipush 7) 2 := (by decide +kernel : decode prog_14_method_52_code 205 = .ok (.bipush 7, 2))
theorem i_Md_solve_207 : iIns M_Md_solve 207 (.iload_n 2) 1 := (by decide +kernel : decode prog_14_method_52_code 207 = .ok (.iload_n 2, 1))
theorem i_Md_solve_208 : iIns M_Md_solve 208 .imul 1 := (by decide +kernel : decode prog_14_method_52_code 208 = .ok (.imul, 1))
theorem i_Md_solve_209 : iIns M_Md_solve 209 (.iload 6) 2 := (by decide +kernel : decode prog_14_method_52_code 209 = .ok (.iload 6, 2))
theorem i_Md_solve_211 : iIns M_Md_solve 211 .iadd 1 := (by decide +kernel : decode prog_14_method_52_code 211 = .ok (.iadd, 1))
theorem i_Md_solve_212 : iIns M_Md_solve 212 (.iload 7) 2 := (by decide +kernel : decode prog_14_method_52_code 212 = .ok (.iload 7, 2))
theorem i_Md_solve_214 : iIns M_Md_solve 214 .iastore 1 := (by decide +kernel : decode prog_14_method_52_code 214 = .ok (.iastore, 1))
theorem i_Md_solve_215 : iIns M_Md_solve 215 (.iinc 6 (1)) 3 := (by decide +kernel : decode prog_14_method_52_code 215 = .ok (.iinc 6 (1), 3))
theorem i_Md_solve_218 : iGoto M_Md_solve 218 148 := ⟨-70, (by decide +kernel : decode prog_14_method_52_code 218 = .ok (.goto (-70), 3)), by decide⟩
theorem i_Md_solve_221 : iIns M_Md_solve 221 (.iconst 0) 1 := (by decide +kernel : decode prog_14_method_52_code 221 = .ok (.iconst 0, 1))
theorem i_Md_solve_222 : iIns M_Md_solve 222 (.istore 6) 2 := (by decide +kernel : decode prog_14_method_52_code 222 = .ok (.istore 6, 2))
theorem i_Md_solve_224 : iIns M_Md_solve 224 (.iload 6) 2 := (by decide +kernel : decode prog_14_method_52_code 224 = .ok (.iload 6, 2))
theorem i_Md_solve_226 : iIns M_Md_solve 226 (.bipush 12) 2 := (by decide +kernel : decode prog_14_method_52_code 226 = .ok (.bipush 12, 2))
theorem i_Md_solve_228 : iIcmp M_Md_solve 228 .ge 324 := ⟨96, (by decide +kernel : decode prog_14_method_52_code 228 = .ok (.if_icmp .ge (96), 3)), by decide⟩
theorem i_Md_solve_231 : iIns M_Md_solve 231 (.iload 6) 2 := (by decide +kernel : decode prog_14_method_52_code 231 = .ok (.iload 6, 2))
theorem i_Md_solve_233 : iIns M_Md_solve 233 (.iload_n 2) 1 := (by decide +kernel : decode prog_14_method_52_code 233 = .ok (.iload_n 2, 1))
theorem i_Md_solve_234 : iIcmp M_Md_solve 234 .ne 241 := ⟨7, (by decide +kernel : decode prog_14_method_52_code 234 = .ok (.if_icmp .ne (7), 3)), by decide⟩
theorem i_Md_solve_237 : iIns M_Md_solve 237 (.iconst 0) 1 := (by decide +kernel : decode prog_14_method_52_code 237 = .ok (.iconst 0, 1))
theorem i_Md_solve_238 : iGoto M_Md_solve 238 253 := ⟨15, (by decide +kernel : decode prog_14_method_52_code 238 = .ok (.goto (15), 3)), by decide⟩
theorem i_Md_solve_241 : iIns M_Md_solve 241 (.aload_n 0) 1 := (by decide +kernel : decode prog_14_method_52_code 241 = .ok (.aload_n 0, 1))
theorem i_Md_solve_242 : iGet M_Md_solve 242 14 22 := ⟨63, (by decide +kernel : decode prog_14_method_52_code 242 = .ok (.getfield 63, 3)), fl_Md_Md_equations⟩
theorem i_Md_solve_245 : iIns M_Md_solve 245 (.bipush 7) 2 := (by decide +kernel : decode prog_14_method_52_code 245 = .ok (.bipush 7, 2))
theorem i_Md_solve_247 : iIns M_Md_solve 247 (.iload 6) 2 := (by decide +kernel : decode prog_14_method_52_code 247 = .ok (.iload 6, 2))
theorem i_Md_solve_249 : iIns M_Md_solve 249 .imul 1 := (by decide +kernel : decode prog_14_method_52_code 249 = .ok (.imul, 1))
theorem i_Md_solve_250 : iIns M_Md_solve 250 (.iload_n 3) 1 := (by decide +kernel : decode prog_14_method_52_code 250 = .ok (.iload_n 3, 1))
theorem i_Md_solve_251 : iIns M_Md_solve 251 .iadd 1 := (by decide +kernel : decode prog_14_method_52_code 251 = .ok (.iadd, 1))
theorem i_Md_solve_252 : iIns M_Md_solve 252 .iaload 1 := (by decide +kernel : decode prog_14_method_52_code 252 = .ok (.iaload, 1))
theorem i_Md_solve_253 : iIns M_Md_solve 253 (.istore 7) 2 := (by decide +kernel : decode prog_14_method_52_code 253 = .ok (.istore 7, 2))
theorem i_Md_solve_255 : iIns M_Md_solve 255 (.iconst 0) 1 := (by decide +kernel : decode prog_14_method_52_code 255 = .ok (.iconst 0, 1))
theorem i_Md_solve_256 : iIns M_Md_solve 256 (.istore 8) 2 := (by decide +kernel : decode prog_14_method_52_code 256 = .ok (.istore 8, 2))
theorem i_Md_solve_258 : iIns M_Md_solve 258 (.iload 8) 2 := (by decide +kernel : decode prog_14_method_52_code 258 = .ok (.iload 8, 2))
theorem i_Md_solve_260 : iIns M_Md_solve 260 (.iload_n 1) 1 := (by decide +kernel : decode prog_14_method_52_code 260 = .ok (.iload_n 1, 1))
theorem i_Md_solve_261 : iIcmp M_Md_solve 261 .gt 318 := ⟨57, (by decide +kernel : decode prog_14_method_52_code 261 = .ok (.if_icmp .gt (57), 3)), by decide⟩
theorem i_Md_solve_264 : iIns M_Md_solve 264 (.aload_n 0) 1 := (by decide +kernel : decode prog_14_method_52_code 264 = .ok (.aload_n 0, 1))
theorem i_Md_solve_265 : iGet M_Md_solve 265 14 22 := ⟨63, (by decide +kernel : decode prog_14_method_52_code 265 = .ok (.getfield 63, 3)), fl_Md_Md_equations⟩
theorem i_Md_solve_268 : iIns M_Md_solve 268 (.bipush 7) 2 := (by decide +kernel : decode prog_14_method_52_code 268 = .ok (.bipush 7, 2))
theorem i_Md_solve_270 : iIns M_Md_solve 270 (.iload 6) 2 := (by decide +kernel : decode prog_14_method_52_code 270 = .ok (.iload 6, 2))
theorem i_Md_solve_272 : iIns M_Md_solve 272 .imul 1 := (by decide +kernel : decode prog_14_method_52_code 272 = .ok (.imul, 1))
theorem i_Md_solve_273 : iIns M_Md_solve 273 (.iload 8) 2 := (by decide +kernel : decode prog_14_method_52_code 273 = .ok (.iload 8, 2))
theorem i_Md_solve_275 : iIns M_Md_solve 275 .iadd 1 := (by decide +kernel : decode prog_14_method_52_code 275 = .ok (.iadd, 1))
theorem i_Md_solve_276 : iIns M_Md_solve 276 (.aload_n 0) 1 := (by decide +kernel : decode prog_14_method_52_code 276 = .ok (.aload_n 0, 1))
theorem i_Md_solve_277 : iGet M_Md_solve 277 14 22 := ⟨63, (by decide +kernel : decode prog_14_method_52_code 277 = .ok (.getfield 63, 3)), fl_Md_Md_equations⟩
theorem i_Md_solve_280 : iIns M_Md_solve 280 (.bipush 7) 2 := (by decide +kernel : decode prog_14_method_52_code 280 = .ok (.bipush 7, 2))
theorem i_Md_solve_282 : iIns M_Md_solve 282 (.iload 6) 2 := (by decide +kernel : decode prog_14_method_52_code 282 = .ok (.iload 6, 2))
theorem i_Md_solve_284 : iIns M_Md_solve 284 .imul 1 := (by decide +kernel : decode prog_14_method_52_code 284 = .ok (.imul, 1))
theorem i_Md_solve_285 : iIns M_Md_solve 285 (.iload 8) 2 := (by decide +kernel : decode prog_14_method_52_code 285 = .ok (.iload 8, 2))
theorem i_Md_solve_287 : iIns M_Md_solve 287 .iadd 1 := (by decide +kernel : decode prog_14_method_52_code 287 = .ok (.iadd, 1))
theorem i_Md_solve_288 : iIns M_Md_solve 288 .iaload 1 := (by decide +kernel : decode prog_14_method_52_code 288 = .ok (.iaload, 1))
theorem i_Md_solve_289 : iIns M_Md_solve 289 (.iload 7) 2 := (by decide +kernel : decode prog_14_method_52_code 289 = .ok (.iload 7, 2))
theorem i_Md_solve_291 : iIns M_Md_solve 291 (.aload_n 0) 1 := (by decide +kernel : decode prog_14_method_52_code 291 = .ok (.aload_n 0, 1))
theorem i_Md_solve_292 : iGet M_Md_solve 292 14 22 := ⟨63, (by decide +kernel : decode prog_14_method_52_code 292 = .ok (.getfield 63, 3)), fl_Md_Md_equations⟩
theorem i_Md_solve_295 : iIns M_Md_solve 295 (.bipush 7) 2 := (by decide +kernel : decode prog_14_method_52_code 295 = .ok (.bipush 7, 2))
theorem i_Md_solve_297 : iIns M_Md_solve 297 (.iload_n 2) 1 := (by decide +kernel : decode prog_14_method_52_code 297 = .ok (.iload_n 2, 1))
theorem i_Md_solve_298 : iIns M_Md_solve 298 .imul 1 := (by decide +kernel : decode prog_14_method_52_code 298 = .ok (.imul, 1))
theorem i_Md_solve_299 : iIns M_Md_solve 299 (.iload 8) 2 := (by decide +kernel : decode prog_14_method_52_code 299 = .ok (.iload 8, 2))
theorem i_Md_solve_301 : iIns M_Md_solve 301 .iadd 1 := (by decide +kernel : decode prog_14_method_52_code 301 = .ok (.iadd, 1))
theorem i_Md_solve_302 : iIns M_Md_solve 302 .iaload 1 := (by decide +kernel : decode prog_14_method_52_code 302 = .ok (.iaload, 1))
theorem i_Md_solve_303 : iIns M_Md_solve 303 .imul 1 := (by decide +kernel : decode prog_14_method_52_code 303 = .ok (.imul, 1))
theorem i_Md_solve_304 : iIns M_Md_solve 304 .isub 1 := (by decide +kernel : decode prog_14_method_52_code 304 = .ok (.isub, 1))
theorem i_Md_solve_305 : iIns M_Md_solve 305 (.sipush 10007) 3 := (by decide +kernel : decode prog_14_method_52_code 305 = .ok (.sipush 10007, 3))
theorem i_Md_solve_308 : iCallS M_Md_solve 308 M_Ma_floorMod 2 := ⟨⟨221, (by decide +kernel : decode prog_14_method_52_code 308 = .ok (.invokestatic 221, 3)), lw_k7 99 rfl rfl⟩, sm_Ma_floorMod, me_Ma_floorMod, pn_Ma_floorMod⟩
theorem i_Md_solve_311 : iIns M_Md_solve 311 .iastore 1 := (by decide +kernel : decode prog_14_method_52_code 311 = .ok (.iastore, 1))
theorem i_Md_solve_312 : iIns M_Md_solve 312 (.iinc 8 (1)) 3 := (by decide +kernel : decode prog_14_method_52_code 312 = .ok (.iinc 8 (1), 3))
theorem i_Md_solve_315 : iGoto M_Md_solve 315 258 := ⟨-57, (by decide +kernel : decode prog_14_method_52_code 315 = .ok (.goto (-57), 3)), by decide⟩
theorem i_Md_solve_318 : iIns M_Md_solve 318 (.iinc 6 (1)) 3 := (by decide +kernel : decode prog_14_method_52_code 318 = .ok (.iinc 6 (1), 3))
theorem i_Md_solve_321 : iGoto M_Md_solve 321 224 := ⟨-97, (by decide +kernel : decode prog_14_method_52_code 321 = .ok (.goto (-97), 3)), by decide⟩
theorem i_Md_solve_324 : iIns M_Md_solve 324 (.iinc 2 (1)) 3 := (by decide +kernel : decode prog_14_method_52_code 324 = .ok (.iinc 2 (1), 3))
theorem i_Md_solve_327 : iIns M_Md_solve 327 (.iinc 3 (1)) 3 := (by decide +kernel : decode prog_14_method_52_code 327 = .ok (.iinc 3 (1), 3))
theorem i_Md_solve_330 : iGoto M_Md_solve 330 73 := ⟨-257, (by decide +kernel : decode prog_14_method_52_code 330 = .ok (.goto (-257), 3)), by decide⟩
theorem i_Md_solve_333 : iIns M_Md_solve 333 (.iconst 1) 1 := (by decide +kernel : decode prog_14_method_52_code 333 = .ok (.iconst 1, 1))
theorem i_Md_solve_334 : iIns M_Md_solve 334 (.istore_n 3) 1 := (by decide +kernel : decode prog_14_method_52_code 334 = .ok (.istore_n 3, 1))
theorem i_Md_solve_335 : iIns M_Md_solve 335 (.iload_n 2) 1 := (by decide +kernel : decode prog_14_method_52_code 335 = .ok (.iload_n 2, 1))
theorem i_Md_solve_336 : iIns M_Md_solve 336 (.istore 4) 2 := (by decide +kernel : decode prog_14_method_52_code 336 = .ok (.istore 4, 2))
theorem i_Md_solve_338 : iIns M_Md_solve 338 (.iload 4) 2 := (by decide +kernel : decode prog_14_method_52_code 338 = .ok (.iload 4, 2))
theorem i_Md_solve_340 : iIns M_Md_solve 340 (.bipush 12) 2 := (by decide +kernel : decode prog_14_method_52_code 340 = .ok (.bipush 12, 2))
theorem i_Md_solve_342 : iIcmp M_Md_solve 342 .ge 376 := ⟨34, (by decide +kernel : decode prog_14_method_52_code 342 = .ok (.if_icmp .ge (34), 3)), by decide⟩
theorem i_Md_solve_345 : iIns M_Md_solve 345 (.iload_n 3) 1 := (by decide +kernel : decode prog_14_method_52_code 345 = .ok (.iload_n 3, 1))
theorem i_Md_solve_346 : iIf M_Md_solve 346 .eq 368 := ⟨22, (by decide +kernel : decode prog_14_method_52_code 346 = .ok (.ifCond .eq (22), 3)), by decide⟩
theorem i_Md_solve_349 : iIns M_Md_solve 349 (.aload_n 0) 1 := (by decide +kernel : decode prog_14_method_52_code 349 = .ok (.aload_n 0, 1))
theorem i_Md_solve_350 : iGet M_Md_solve 350 14 22 := ⟨63, (by decide +kernel : decode prog_14_method_52_code 350 = .ok (.getfield 63, 3)), fl_Md_Md_equations⟩
theorem i_Md_solve_353 : iIns M_Md_solve 353 (.bipush 7) 2 := (by decide +kernel : decode prog_14_method_52_code 353 = .ok (.bipush 7, 2))
theorem i_Md_solve_355 : iIns M_Md_solve 355 (.iload 4) 2 := (by decide +kernel : decode prog_14_method_52_code 355 = .ok (.iload 4, 2))
theorem i_Md_solve_357 : iIns M_Md_solve 357 .imul 1 := (by decide +kernel : decode prog_14_method_52_code 357 = .ok (.imul, 1))
theorem i_Md_solve_358 : iIns M_Md_solve 358 (.iload_n 1) 1 := (by decide +kernel : decode prog_14_method_52_code 358 = .ok (.iload_n 1, 1))
theorem i_Md_solve_359 : iIns M_Md_solve 359 .iadd 1 := (by decide +kernel : decode prog_14_method_52_code 359 = .ok (.iadd, 1))
theorem i_Md_solve_360 : iIns M_Md_solve 360 .iaload 1 := (by decide +kernel : decode prog_14_method_52_code 360 = .ok (.iaload, 1))
theorem i_Md_solve_361 : iIf M_Md_solve 361 .ne 368 := ⟨7, (by decide +kernel : decode prog_14_method_52_code 361 = .ok (.ifCond .ne (7), 3)), by decide⟩
theorem i_Md_solve_364 : iIns M_Md_solve 364 (.iconst 1) 1 := (by decide +kernel : decode prog_14_method_52_code 364 = .ok (.iconst 1, 1))
theorem i_Md_solve_365 : iGoto M_Md_solve 365 369 := ⟨4, (by decide +kernel : decode prog_14_method_52_code 365 = .ok (.goto (4), 3)), by decide⟩
theorem i_Md_solve_368 : iIns M_Md_solve 368 (.iconst 0) 1 := (by decide +kernel : decode prog_14_method_52_code 368 = .ok (.iconst 0, 1))
theorem i_Md_solve_369 : iIns M_Md_solve 369 (.istore_n 3) 1 := (by decide +kernel : decode prog_14_method_52_code 369 = .ok (.istore_n 3, 1))
theorem i_Md_solve_370 : iIns M_Md_solve 370 (.iinc 4 (1)) 3 := (by decide +kernel : decode prog_14_method_52_code 370 = .ok (.iinc 4 (1), 3))
theorem i_Md_solve_373 : iGoto M_Md_solve 373 338 := ⟨-35, (by decide +kernel : decode prog_14_method_52_code 373 = .ok (.goto (-35), 3)), by decide⟩
theorem i_Md_solve_376 : iIns M_Md_solve 376 (.iconst 0) 1 := (by decide +kernel : decode prog_14_method_52_code 376 = .ok (.iconst 0, 1))
theorem i_Md_solve_377 : iIns M_Md_solve 377 (.istore 4) 2 := (by decide +kernel : decode prog_14_method_52_code 377 = .ok (.istore 4, 2))
theorem i_Md_solve_379 : iIns M_Md_solve 379 (.iload 4) 2 := (by decide +kernel : decode prog_14_method_52_code 379 = .ok (.iload 4, 2))
theorem i_Md_solve_381 : iIns M_Md_solve 381 (.iload_n 1) 1 := (by decide +kernel : decode prog_14_method_52_code 381 = .ok (.iload_n 1, 1))
theorem i_Md_solve_382 : iIcmp M_Md_solve 382 .ge 417 := ⟨35, (by decide +kernel : decode prog_14_method_52_code 382 = .ok (.if_icmp .ge (35), 3)), by decide⟩
theorem i_Md_solve_385 : iIns M_Md_solve 385 (.iload_n 2) 1 := (by decide +kernel : decode prog_14_method_52_code 385 = .ok (.iload_n 2, 1))
theorem i_Md_solve_386 : iIns M_Md_solve 386 (.iload_n 1) 1 := (by decide +kernel : decode prog_14_method_52_code 386 = .ok (.iload_n 1, 1))
theorem i_Md_solve_387 : iIcmp M_Md_solve 387 .ne 417 := ⟨30, (by decide +kernel : decode prog_14_method_52_code 387 = .ok (.if_icmp .ne (30), 3)), by decide⟩
theorem i_Md_solve_390 : iIns M_Md_solve 390 (.aload_n 0) 1 := (by decide +kernel : decode prog_14_method_52_code 390 = .ok (.aload_n 0, 1))
theorem i_Md_solve_391 : iGet M_Md_solve 391 14 23 := ⟨66, (by decide +kernel : decode prog_14_method_52_code 391 = .ok (.getfield 66, 3)), fl_Md_Md_coefficients⟩
theorem i_Md_solve_394 : iIns M_Md_solve 394 (.iload 4) 2 := (by decide +kernel : decode prog_14_method_52_code 394 = .ok (.iload 4, 2))
theorem i_Md_solve_396 : iIns M_Md_solve 396 (.iconst 1) 1 := (by decide +kernel : decode prog_14_method_52_code 396 = .ok (.iconst 1, 1))
theorem i_Md_solve_397 : iIns M_Md_solve 397 .iadd 1 := (by decide +kernel : decode prog_14_method_52_code 397 = .ok (.iadd, 1))
theorem i_Md_solve_398 : iIns M_Md_solve 398 (.aload_n 0) 1 := (by decide +kernel : decode prog_14_method_52_code 398 = .ok (.aload_n 0, 1))
theorem i_Md_solve_399 : iGet M_Md_solve 399 14 22 := ⟨63, (by decide +kernel : decode prog_14_method_52_code 399 = .ok (.getfield 63, 3)), fl_Md_Md_equations⟩
theorem i_Md_solve_402 : iIns M_Md_solve 402 (.bipush 7) 2 := (by decide +kernel : decode prog_14_method_52_code 402 = .ok (.bipush 7, 2))
theorem i_Md_solve_404 : iIns M_Md_solve 404 (.iload 4) 2 := (by decide +kernel : decode prog_14_method_52_code 404 = .ok (.iload 4, 2))
theorem i_Md_solve_406 : iIns M_Md_solve 406 .imul 1 := (by decide +kernel : decode prog_14_method_52_code 406 = .ok (.imul, 1))
theorem i_Md_solve_407 : iIns M_Md_solve 407 (.iload_n 1) 1 := (by decide +kernel : decode prog_14_method_52_code 407 = .ok (.iload_n 1, 1))
theorem i_Md_solve_408 : iIns M_Md_solve 408 .iadd 1 := (by decide +kernel : decode prog_14_method_52_code 408 = .ok (.iadd, 1))
theorem i_Md_solve_409 : iIns M_Md_solve 409 .iaload 1 := (by decide +kernel : decode prog_14_method_52_code 409 = .ok (.iaload, 1))
theorem i_Md_solve_410 : iIns M_Md_solve 410 .iastore 1 := (by decide +kernel : decode prog_14_method_52_code 410 = .ok (.iastore, 1))
theorem i_Md_solve_411 : iIns M_Md_solve 411 (.iinc 4 (1)) 3 := (by decide +kernel : decode prog_14_method_52_code 411 = .ok (.iinc 4 (1), 3))
theorem i_Md_solve_414 : iGoto M_Md_solve 414 379 := ⟨-35, (by decide +kernel : decode prog_14_method_52_code 414 = .ok (.goto (-35), 3)), by decide⟩
theorem i_Md_solve_417 : iIns M_Md_solve 417 (.iload_n 3) 1 := (by decide +kernel : decode prog_14_method_52_code 417 = .ok (.iload_n 3, 1))
theorem i_Md_solve_418 : iIns M_Md_solve 418 .ireturn 1 := (by decide +kernel : decode prog_14_method_52_code 418 = .ok (.ireturn, 1))
theorem i_Md_inverse_0 : iIns M_Md_inverse 0 (.iconst 1) 1 := (by decide +kernel : decode prog_14_method_51_code 0 = .ok (.iconst 1, 1))
theorem i_Md_inverse_1 : iIns M_Md_inverse 1 (.istore_n 1) 1 := (by decide +kernel : decode prog_14_method_51_code 1 = .ok (.istore_n 1, 1))
theorem i_Md_inverse_2 : iIns M_Md_inverse 2 (.iconst 0) 1 := (by decide +kernel : decode prog_14_method_51_code 2 = .ok (.iconst 0, 1))
theorem i_Md_inverse_3 : iIns M_Md_inverse 3 (.istore_n 2) 1 := (by decide +kernel : decode prog_14_method_51_code 3 = .ok (.istore_n 2, 1))
theorem i_Md_inverse_4 : iIns M_Md_inverse 4 (.iload_n 2) 1 := (by decide +kernel : decode prog_14_method_51_code 4 = .ok (.iload_n 2, 1))
theorem i_Md_inverse_5 : iIns M_Md_inverse 5 (.sipush 10005) 3 := (by decide +kernel : decode prog_14_method_51_code 5 = .ok (.sipush 10005, 3))
theorem i_Md_inverse_8 : iIcmp M_Md_inverse 8 .ge 25 := ⟨17, (by decide +kernel : decode prog_14_method_51_code 8 = .ok (.if_icmp .ge (17), 3)), by decide⟩
theorem i_Md_inverse_11 : iIns M_Md_inverse 11 (.iload_n 1) 1 := (by decide +kernel : decode prog_14_method_51_code 11 = .ok (.iload_n 1, 1))
theorem i_Md_inverse_12 : iIns M_Md_inverse 12 (.iload_n 0) 1 := (by decide +kernel : decode prog_14_method_51_code 12 = .ok (.iload_n 0, 1))
theorem i_Md_inverse_13 : iIns M_Md_inverse 13 .imul 1 := (by decide +kernel : decode prog_14_method_51_code 13 = .ok (.imul, 1))
theorem i_Md_inverse_14 : iIns M_Md_inverse 14 (.sipush 10007) 3 := (by decide +kernel : decode prog_14_method_51_code 14 = .ok (.sipush 10007, 3))
theorem i_Md_inverse_17 : iIns M_Md_inverse 17 .irem 1 := (by decide +kernel : decode prog_14_method_51_code 17 = .ok (.irem, 1))
theorem i_Md_inverse_18 : iIns M_Md_inverse 18 (.istore_n 1) 1 := (by decide +kernel : decode prog_14_method_51_code 18 = .ok (.istore_n 1, 1))
theorem i_Md_inverse_19 : iIns M_Md_inverse 19 (.iinc 2 (1)) 3 := (by decide +kernel : decode prog_14_method_51_code 19 = .ok (.iinc 2 (1), 3))
theorem i_Md_inverse_22 : iGoto M_Md_inverse 22 4 := ⟨-18, (by decide +kernel : decode prog_14_method_51_code 22 = .ok (.goto (-18), 3)), by decide⟩
theorem i_Md_inverse_25 : iIns M_Md_inverse 25 (.iload_n 1) 1 := (by decide +kernel : decode prog_14_method_51_code 25 = .ok (.iload_n 1, 1))
theorem i_Md_inverse_26 : iIns M_Md_inverse 26 .ireturn 1 := (by decide +kernel : decode prog_14_method_51_code 26 = .ok (.ireturn, 1))
theorem i_Md_recurrenceCoefficient_0 : iIns M_Md_recurrenceCoefficient 0 (.aload_n 0) 1 := (by decide +kernel : decode prog_14_method_55_code 0 = .ok (.aload_n 0, 1))
theorem i_Md_recurrenceCoefficient_1 : iIns M_Md_recurrenceCoefficient 1 (.iload_n 1) 1 := (by decide +kernel : decode prog_14_method_55_code 1 = .ok (.iload_n 1, 1))
theorem i_Md_recurrenceCoefficient_2 : iCallS M_Md_recurrenceCoefficient 2 M_Md_isTable 1 := ⟨⟨112, (by decide +kernel : decode prog_14_method_55_code 2 = .ok (.invokestatic 112, 3)), lw_k6 156 rfl rfl⟩, sm_Md_isTable, me_Md_isTable, pn_Md_isTable⟩
theorem i_Md_recurrenceCoefficient_5 : iIf M_Md_recurrenceCoefficient 5 .ne 12 := ⟨7, (by decide +kernel : decode prog_14_method_55_code 5 = .ok (.ifCond .ne (7), 3)), by decide⟩
theorem i_Md_recurrenceCoefficient_8 : iIns M_Md_recurrenceCoefficient 8 (.iconst 1) 1 := (by decide +kernel : decode prog_14_method_55_code 8 = .ok (.iconst 1, 1))
theorem i_Md_recurrenceCoefficient_9 : iGoto M_Md_recurrenceCoefficient 9 42 := ⟨33, (by decide +kernel : decode prog_14_method_55_code 9 = .ok (.goto (33), 3)), by decide⟩
theorem i_Md_recurrenceCoefficient_12 : iIns M_Md_recurrenceCoefficient 12 (.aload_n 0) 1 := (by decide +kernel : decode prog_14_method_55_code 12 = .ok (.aload_n 0, 1))
theorem i_Md_recurrenceCoefficient_13 : iIns M_Md_recurrenceCoefficient 13 (.iload_n 1) 1 := (by decide +kernel : decode prog_14_method_55_code 13 = .ok (.iload_n 1, 1))
theorem i_Md_recurrenceCoefficient_14 : iCallV M_Md_recurrenceCoefficient 14 M_Md_unfit 1 14 := ⟨⟨189, (by decide +kernel : decode prog_14_method_55_code 14 = .ok (.invokevirtual 189, 3)), lw_k7 26 rfl rfl⟩, vm_Md_unfit, me_Md_unfit, pn_Md_unfit⟩
theorem i_Md_recurrenceCoefficient_17 : iIf M_Md_recurrenceCoefficient 17 .le 24 := ⟨7, (by decide +kernel : decode prog_14_method_55_code 17 = .ok (.ifCond .le (7), 3)), by decide⟩
theorem i_Md_recurrenceCoefficient_20 : iIns M_Md_recurrenceCoefficient 20 (.iconst 2) 1 := (by decide +kernel : decode prog_14_method_55_code 20 = .ok (.iconst 2, 1))
theorem i_Md_recurrenceCoefficient_21 : iGoto M_Md_recurrenceCoefficient 21 42 := ⟨21, (by decide +kernel : decode prog_14_method_55_code 21 = .ok (.goto (21), 3)), by decide⟩
theorem i_Md_recurrenceCoefficient_24 : iIns M_Md_recurrenceCoefficient 24 (.iload_n 2) 1 := (by decide +kernel : decode prog_14_method_55_code 24 = .ok (.iload_n 2, 1))
theorem i_Md_recurrenceCoefficient_25 : iIns M_Md_recurrenceCoefficient 25 (.iconst 1) 1 := (by decide +kernel : decode prog_14_method_55_code 25 = .ok (.iconst 1, 1))
theorem i_Md_recurrenceCoefficient_26 : iIns M_Md_recurrenceCoefficient 26 (.aload_n 0) 1 := (by decide +kernel : decode prog_14_method_55_code 26 = .ok (.aload_n 0, 1))
theorem i_Md_recurrenceCoefficient_27 : iIns M_Md_recurrenceCoefficient 27 (.iload_n 1) 1 := (by decide +kernel : decode prog_14_method_55_code 27 = .ok (.iload_n 1, 1))
theorem i_Md_recurrenceCoefficient_28 : iCallV M_Md_recurrenceCoefficient 28 M_Md_orderOf 1 14 := ⟨⟨230, (by decide +kernel : decode prog_14_method_55_code 28 = .ok (.invokevirtual 230, 3)), lw_k7 83 rfl rfl⟩, vm_Md_orderOf, me_Md_orderOf, pn_Md_orderOf⟩
theorem i_Md_recurrenceCoefficient_31 : iCallS M_Md_recurrenceCoefficient 31 M_Md_in 3 := ⟨⟨101, (by decide +kernel : decode prog_14_method_55_code 31 = .ok (.invokestatic 101, 3)), lw_k6 141 rfl rfl⟩, sm_Md_in, me_Md_in, pn_Md_in⟩
theorem i_Md_recurrenceCoefficient_34 : iIf M_Md_recurrenceCoefficient 34 .ne 41 := ⟨7, (by decide +kernel : decode prog_14_method_55_code 34 = .ok (.ifCond .ne (7), 3)), by decide⟩
theorem i_Md_recurrenceCoefficient_37 : iIns M_Md_recurrenceCoefficient 37 (.iconst 3) 1 := (by decide +kernel : decode prog_14_method_55_code 37 = .ok (.iconst 3, 1))
theorem i_Md_recurrenceCoefficient_38 : iGoto M_Md_recurrenceCoefficient 38 42 := ⟨4, (by decide +kernel : decode prog_14_method_55_code 38 = .ok (.goto (4), 3)), by decide⟩
theorem i_Md_recurrenceCoefficient_41 : iIns M_Md_recurrenceCoefficient 41 (.iconst 0) 1 := (by decide +kernel : decode prog_14_method_55_code 41 = .ok (.iconst 0, 1))
theorem i_Md_recurrenceCoefficient_42 : iPutX M_Md_recurrenceCoefficient 42 14 0 .int := ⟨97, (by decide +kernel : decode prog_14_method_55_code 42 = .ok (.putfield 97, 3)), px_Md_Md_thrown⟩
theorem i_Md_recurrenceCoefficient_45 : iIns M_Md_recurrenceCoefficient 45 (.aload_n 0) 1 := (by decide +kernel : decode prog_14_method_55_code 45 = .ok (.aload_n 0, 1))
theorem i_Md_recurrenceCoefficient_46 : iGet M_Md_recurrenceCoefficient 46 14 0 := ⟨97, (by decide +kernel : decode prog_14_method_55_code 46 = .ok (.getfield 97, 3)), fl_Md_Md_thrown⟩
theorem i_Md_recurrenceCoefficient_49 : iIf M_Md_recurrenceCoefficient 49 .le 56 := ⟨7, (by decide +kernel : decode prog_14_method_55_code 49 = .ok (.ifCond .le (7), 3)), by decide⟩
theorem i_Md_recurrenceCoefficient_52 : iIns M_Md_recurrenceCoefficient 52 (.iconst 0) 1 := (by decide +kernel : decode prog_14_method_55_code 52 = .ok (.iconst 0, 1))
theorem i_Md_recurrenceCoefficient_53 : iGoto M_Md_recurrenceCoefficient 53 62 := ⟨9, (by decide +kernel : decode prog_14_method_55_code 53 = .ok (.goto (9), 3)), by decide⟩
theorem i_Md_recurrenceCoefficient_56 : iIns M_Md_recurrenceCoefficient 56 (.aload_n 0) 1 := (by decide +kernel : decode prog_14_method_55_code 56 = .ok (.aload_n 0, 1))
theorem i_Md_recurrenceCoefficient_57 : iGet M_Md_recurrenceCoefficient 57 14 23 := ⟨66, (by decide +kernel : decode prog_14_method_55_code 57 = .ok (.getfield 66, 3)), fl_Md_Md_coefficients⟩
theorem i_Md_recurrenceCoefficient_60 : iIns M_Md_recurrenceCoefficient 60 (.iload_n 2) 1 := (by decide +kernel : decode prog_14_method_55_code 60 = .ok (.iload_n 2, 1))
theorem i_Md_recurrenceCoefficient_61 : iIns M_Md_recurrenceCoefficient 61 .iaload 1 := (by decide +kernel : decode prog_14_method_55_code 61 = .ok (.iaload, 1))
theorem i_Md_recurrenceCoefficient_62 : iIns M_Md_recurrenceCoefficient 62 .ireturn 1 := (by decide +kernel : decode prog_14_method_55_code 62 = .ok (.ireturn, 1))
theorem i_Md_isAdult_0 : iIns M_Md_isAdult 0 (.aload_n 0) 1 := (by decide +kernel : decode prog_14_method_58_code 0 = .ok (.aload_n 0, 1))
theorem i_Md_isAdult_1 : iIns M_Md_isAdult 1 (.iload_n 1) 1 := (by decide +kernel : decode prog_14_method_58_code 1 = .ok (.iload_n 1, 1))
theorem i_Md_isAdult_2 : iCallS M_Md_isAdult 2 M_Md_isTable 1 := ⟨⟨112, (by decide +kernel : decode prog_14_method_58_code 2 = .ok (.invokestatic 112, 3)), lw_k6 156 rfl rfl⟩, sm_Md_isTable, me_Md_isTable, pn_Md_isTable⟩
theorem i_Md_isAdult_5 : iIf M_Md_isAdult 5 .eq 12 := ⟨7, (by decide +kernel : decode prog_14_method_58_code 5 = .ok (.ifCond .eq (7), 3)), by decide⟩
theorem i_Md_isAdult_8 : iIns M_Md_isAdult 8 (.iconst 0) 1 := (by decide +kernel : decode prog_14_method_58_code 8 = .ok (.iconst 0, 1))
theorem i_Md_isAdult_9 : iGoto M_Md_isAdult 9 13 := ⟨4, (by decide +kernel : decode prog_14_method_58_code 9 = .ok (.goto (4), 3)), by decide⟩
theorem i_Md_isAdult_12 : iIns M_Md_isAdult 12 (.iconst 1) 1 := (by decide +kernel : decode prog_14_method_58_code 12 = .ok (.iconst 1, 1))
theorem i_Md_isAdult_13 : iPutX M_Md_isAdult 13 14 0 .int := ⟨97, (by decide +kernel : decode prog_14_method_58_code 13 = .ok (.putfield 97, 3)), px_Md_Md_thrown⟩
theorem i_Md_isAdult_16 : iIns M_Md_isAdult 16 (.aload_n 0) 1 := (by decide +kernel : decode prog_14_method_58_code 16 = .ok (.aload_n 0, 1))
theorem i_Md_isAdult_17 : iGet M_Md_isAdult 17 14 0 := ⟨97, (by decide +kernel : decode prog_14_method_58_code 17 = .ok (.getfield 97, 3)), fl_Md_Md_thrown⟩
theorem i_Md_isAdult_20 : iIf M_Md_isAdult 20 .ne 39 := ⟨19, (by decide +kernel : decode prog_14_method_58_code 20 = .ok (.ifCond .ne (19), 3)), by decide⟩
theorem i_Md_isAdult_23 : iIns M_Md_isAdult 23 (.aload_n 0) 1 := (by decide +kernel : decode prog_14_method_58_code 23 = .ok (.aload_n 0, 1))
theorem i_Md_isAdult_24 : iIns M_Md_isAdult 24 (.iload_n 1) 1 := (by decide +kernel : decode prog_14_method_58_code 24 = .ok (.iload_n 1, 1))
theorem i_Md_isAdult_25 : iIns M_Md_isAdult 25 (.aload_n 0) 1 := (by decide +kernel : decode prog_14_method_58_code 25 = .ok (.aload_n 0, 1))
theorem i_Md_isAdult_26 : iGet M_Md_isAdult 26 14 2 := ⟨13, (by decide +kernel : decode prog_14_method_58_code 26 = .ok (.getfield 13, 3)), fl_Md_Md_word⟩
theorem i_Md_isAdult_29 : iCallV M_Md_isAdult 29 M_Md_adult 2 14 := ⟨⟨236, (by decide +kernel : decode prog_14_method_58_code 29 = .ok (.invokevirtual 236, 3)), lw_k7 110 rfl rfl⟩, vm_Md_adult, me_Md_adult, pn_Md_adult⟩
theorem i_Md_isAdult_32 : iIf M_Md_isAdult 32 .eq 39 := ⟨7, (by decide +kernel : decode prog_14_method_58_code 32 = .ok (.ifCond .eq (7), 3)), by decide⟩
theorem i_Md_isAdult_35 : iIns M_Md_isAdult 35 (.iconst 1) 1 := (by decide +kernel : decode prog_14_method_58_code 35 = .ok (.iconst 1, 1))
theorem i_Md_isAdult_36 : iGoto M_Md_isAdult 36 40 := ⟨4, (by decide +kernel : decode prog_14_method_58_code 36 = .ok (.goto (4), 3)), by decide⟩
theorem i_Md_isAdult_39 : iIns M_Md_isAdult 39 (.iconst 0) 1 := (by decide +kernel : decode prog_14_method_58_code 39 = .ok (.iconst 0, 1))
theorem i_Md_isAdult_40 : iIns M_Md_isAdult 40 .ireturn 1 := (by decide +kernel : decode prog_14_method_58_code 40 = .ok (.ireturn, 1))
theorem i_Md_adult_0 : iIns M_Md_adult 0 (.iconst 1) 1 := (by decide +kernel : decode prog_14_method_57_code 0 = .ok (.iconst 1, 1))
theorem i_Md_adult_1 : iIns M_Md_adult 1 (.istore_n 3) 1 := (by decide +kernel : decode prog_14_method_57_code 1 = .ok (.istore_n 3, 1))
theorem i_Md_adult_2 : iIns M_Md_adult 2 (.iload_n 3) 1 := (by decide +kernel : decode prog_14_method_57_code 2 = .ok (.iload_n 3, 1))
theorem i_Md_adult_3 : iIns M_Md_adult 3 (.aload_n 2) 1 := (by decide +kernel : decode prog_14_method_57_code 3 = .ok (.aload_n 2, 1))
theorem i_Md_adult_4 : iIns M_Md_adult 4 (.iconst 0) 1 := (by decide +kernel : decode prog_14_method_57_code 4 = .ok (.iconst 0, 1))
theorem i_Md_adult_5 : iIns M_Md_adult 5 .iaload 1 := (by decide +kernel : decode prog_14_method_57_code 5 = .ok (.iaload, 1))
theorem i_Md_adult_6 : iIcmp M_Md_adult 6 .gt 41 := ⟨35, (by decide +kernel : decode prog_14_method_57_code 6 = .ok (.if_icmp .gt (35), 3)), by decide⟩
theorem i_Md_adult_9 : iIns M_Md_adult 9 (.aload_n 0) 1 := (by decide +kernel : decode prog_14_method_57_code 9 = .ok (.aload_n 0, 1))
theorem i_Md_adult_10 : iIns M_Md_adult 10 (.iload_n 1) 1 := (by decide +kernel : decode prog_14_method_57_code 10 = .ok (.iload_n 1, 1))
theorem i_Md_adult_11 : iIns M_Md_adult 11 (.aload_n 2) 1 := (by decide +kernel : decode prog_14_method_57_code 11 = .ok (.aload_n 2, 1))
theorem i_Md_adult_12 : iIns M_Md_adult 12 (.iload_n 3) 1 := (by decide +kernel : decode prog_14_method_57_code 12 = .ok (.iload_n 3, 1))
theorem i_Md_adult_13 : iCallV M_Md_adult 13 M_Md_ruled 3 14 := ⟨⟨165, (by decide +kernel : decode prog_14_method_57_code 13 = .ok (.invokevirtual 165, 3)), lw_k7 13 rfl rfl⟩, vm_Md_ruled, me_Md_ruled, pn_Md_ruled⟩
theorem i_Md_adult_16 : iIf M_Md_adult 16 .ge 35 := ⟨19, (by decide +kernel : decode prog_14_method_57_code 16 = .ok (.ifCond .ge (19), 3)), by decide⟩
theorem i_Md_adult_19 : iIns M_Md_adult 19 (.aload_n 0) 1 := (by decide +kernel : decode prog_14_method_57_code 19 = .ok (.aload_n 0, 1))
theorem i_Md_adult_20 : iIns M_Md_adult 20 (.iload_n 1) 1 := (by decide +kernel : decode prog_14_method_57_code 20 = .ok (.iload_n 1, 1))
theorem i_Md_adult_21 : iIns M_Md_adult 21 (.aload_n 2) 1 := (by decide +kernel : decode prog_14_method_57_code 21 = .ok (.aload_n 2, 1))
theorem i_Md_adult_22 : iIns M_Md_adult 22 (.iload_n 3) 1 := (by decide +kernel : decode prog_14_method_57_code 22 = .ok (.iload_n 3, 1))
theorem i_Md_adult_23 : iIns M_Md_adult 23 .iaload 1 := (by decide +kernel : decode prog_14_method_57_code 23 = .ok (.iaload, 1))
theorem i_Md_adult_24 : iCallS M_Md_adult 24 M_Md_listAt 2 := ⟨⟨122, (by decide +kernel : decode prog_14_method_57_code 24 = .ok (.invokestatic 122, 3)), lw_k6 166 rfl rfl⟩, sm_Md_listAt, me_Md_listAt, pn_Md_listAt⟩
theorem i_Md_adult_27 : iCallV M_Md_adult 27 M_Md_equalProductions 1 14 := ⟨⟨233, (by decide +kernel : decode prog_14_method_57_code 27 = .ok (.invokevirtual 233, 3)), lw_k7 114 rfl rfl⟩, vm_Md_equalProductions, me_Md_equalProductions, pn_Md_equalProductions⟩
theorem i_Md_adult_30 : iIf M_Md_adult 30 .ne 35 := ⟨5, (by decide +kernel : decode prog_14_method_57_code 30 = .ok (.ifCond .ne (5), 3)), by decide⟩
theorem i_Md_adult_33 : iIns M_Md_adult 33 (.iconst 0) 1 := (by decide +kernel : decode prog_14_method_57_code 33 = .ok (.iconst 0, 1))
theorem i_Md_adult_34 : iIns M_Md_adult 34 .ireturn 1 := (by decide +kernel : decode prog_14_method_57_code 34 = .ok (.ireturn, 1))
theorem i_Md_adult_35 : iIns M_Md_adult 35 (.iinc 3 (1)) 3 := (by decide +kernel : decode prog_14_method_57_code 35 = .ok (.iinc 3 (1), 3))
theorem i_Md_adult_38 : iGoto M_Md_adult 38 2 := ⟨-36, (by decide +kernel : decode prog_14_method_57_code 38 = .ok (.goto (-36), 3)), by decide⟩
theorem i_Md_adult_41 : iIns M_Md_adult 41 (.aload_n 0) 1 := (by decide +kernel : decode prog_14_method_57_code 41 = .ok (.aload_n 0, 1))
theorem i_Md_adult_42 : iIns M_Md_adult 42 (.iload_n 1) 1 := (by decide +kernel : decode prog_14_method_57_code 42 = .ok (.iload_n 1, 1))
theorem i_Md_adult_43 : iIns M_Md_adult 43 (.aload_n 2) 1 := (by decide +kernel : decode prog_14_method_57_code 43 = .ok (.aload_n 2, 1))
theorem i_Md_adult_44 : iIns M_Md_adult 44 (.aload_n 0) 1 := (by decide +kernel : decode prog_14_method_57_code 44 = .ok (.aload_n 0, 1))
theorem i_Md_adult_45 : iGet M_Md_adult 45 14 15 := ⟨40, (by decide +kernel : decode prog_14_method_57_code 45 = .ok (.getfield 40, 3)), fl_Md_Md_next⟩
theorem i_Md_adult_48 : iCallV M_Md_adult 48 M_Md_step3 3 14 := ⟨⟨173, (by decide +kernel : decode prog_14_method_57_code 48 = .ok (.invokevirtual 173, 3)), lw_k7 9 rfl rfl⟩, vm_Md_step3, me_Md_step3, pn_Md_step3⟩
theorem i_Md_adult_51 : iIf M_Md_adult 51 .eq 69 := ⟨18, (by decide +kernel : decode prog_14_method_57_code 51 = .ok (.ifCond .eq (18), 3)), by decide⟩
theorem i_Md_adult_54 : iIns M_Md_adult 54 (.aload_n 2) 1 := (by decide +kernel : decode prog_14_method_57_code 54 = .ok (.aload_n 2, 1))
theorem i_Md_adult_55 : iIns M_Md_adult 55 (.aload_n 0) 1 := (by decide +kernel : decode prog_14_method_57_code 55 = .ok (.aload_n 0, 1))
theorem i_Md_adult_56 : iGet M_Md_adult 56 14 15 := ⟨40, (by decide +kernel : decode prog_14_method_57_code 56 = .ok (.getfield 40, 3)), fl_Md_Md_next⟩
theorem i_Md_adult_59 : iCallS M_Md_adult 59 M_Md_same 2 := ⟨⟨161, (by decide +kernel : decode prog_14_method_57_code 59 = .ok (.invokestatic 161, 3)), lw_k7 2 rfl rfl⟩, sm_Md_same, me_Md_same, pn_Md_same⟩
theorem i_Md_adult_62 : iIf M_Md_adult 62 .eq 69 := ⟨7, (by decide +kernel : decode prog_14_method_57_code 62 = .ok (.ifCond .eq (7), 3)), by decide⟩
theorem i_Md_adult_65 : iIns M_Md_adult 65 (.iconst 1) 1 := (by decide +kernel : decode prog_14_method_57_code 65 = .ok (.iconst 1, 1))
theorem i_Md_adult_66 : iGoto M_Md_adult 66 70 := ⟨4, (by decide +kernel : decode prog_14_method_57_code 66 = .ok (.goto (4), 3)), by decide⟩
theorem i_Md_adult_69 : iIns M_Md_adult 69 (.iconst 0) 1 := (by decide +kernel : decode prog_14_method_57_code 69 = .ok (.iconst 0, 1))
theorem i_Md_adult_70 : iIns M_Md_adult 70 .ireturn 1 := (by decide +kernel : decode prog_14_method_57_code 70 = .ok (.ireturn, 1))
theorem i_Md_equalProductions_0 : iIns M_Md_equalProductions 0 (.iconst 1) 1 := (by decide +kernel : decode prog_14_method_56_code 0 = .ok (.iconst 1, 1))
theorem i_Md_equalProductions_1 : iIns M_Md_equalProductions 1 (.istore_n 2) 1 := (by decide +kernel : decode prog_14_method_56_code 1 = .ok (.istore_n 2, 1))
theorem i_Md_equalProductions_2 : iIns M_Md_equalProductions 2 (.iconst 1) 1 := (by decide +kernel : decode prog_14_method_56_code 2 = .ok (.iconst 1, 1))
theorem i_Md_equalProductions_3 : iIns M_Md_equalProductions 3 (.istore_n 3) 1 := (by decide +kernel : decode prog_14_method_56_code 3 = .ok (.istore_n 3, 1))
theorem i_Md_equalProductions_4 : iIns M_Md_equalProductions 4 (.iload_n 3) 1 := (by decide +kernel : decode prog_14_method_56_code 4 = .ok (.iload_n 3, 1))
theorem i_Md_equalProductions_5 : iIns M_Md_equalProductions 5 (.aload_n 0) 1 := (by decide +kernel : decode prog_14_method_56_code 5 = .ok (.aload_n 0, 1))
theorem i_Md_equalProductions_6 : iGet M_Md_equalProductions 6 14 1 := ⟨9, (by decide +kernel : decode prog_14_method_56_code 6 = .ok (.getfield 9, 3)), fl_Md_Md_tables⟩
theorem i_Md_equalProductions_9 : iIns M_Md_equalProductions 9 (.iload_n 1) 1 := (by decide +kernel : decode prog_14_method_56_code 9 = .ok (.iload_n 1, 1))
theorem i_Md_equalProductions_10 : iIns M_Md_equalProductions 10 .iaload 1 := (by decide +kernel : decode prog_14_method_56_code 10 = .ok (.iaload, 1))
theorem i_Md_equalProductions_11 : iIcmp M_Md_equalProductions 11 .ge 83 := ⟨72, (by decide +kernel : decode prog_14_method_56_code 11 = .ok (.if_icmp .ge (72), 3)), by decide⟩
theorem i_Md_equalProductions_14 : iIns M_Md_equalProductions 14 (.iconst 0) 1 := (by decide +kernel : decode prog_14_method_56_code 14 = .ok (.iconst 0, 1))
theorem i_Md_equalProductions_15 : iIns M_Md_equalProductions 15 (.istore 4) 2 := (by decide +kernel : decode prog_14_method_56_code 15 = .ok (.istore 4, 2))
theorem i_Md_equalProductions_17 : iIns M_Md_equalProductions 17 (.iload 4) 2 := (by decide +kernel : decode prog_14_method_56_code 17 = .ok (.iload 4, 2))
theorem i_Md_equalProductions_19 : iIns M_Md_equalProductions 19 (.aload_n 0) 1 := (by decide +kernel : decode prog_14_method_56_code 19 = .ok (.aload_n 0, 1))
theorem i_Md_equalProductions_20 : iGet M_Md_equalProductions 20 14 1 := ⟨9, (by decide +kernel : decode prog_14_method_56_code 20 = .ok (.getfield 9, 3)), fl_Md_Md_tables⟩
theorem i_Md_equalProductions_23 : iIns M_Md_equalProductions 23 (.iload_n 1) 1 := (by decide +kernel : decode prog_14_method_56_code 23 = .ok (.iload_n 1, 1))
theorem i_Md_equalProductions_24 : iIns M_Md_equalProductions 24 (.iconst 0) 1 := (by decide +kernel : decode prog_14_method_56_code 24 = .ok (.iconst 0, 1))
theorem i_Md_equalProductions_25 : iCallS M_Md_equalProductions 25 M_Md_productionAt 2 := ⟨⟨126, (by decide +kernel : decode prog_14_method_56_code 25 = .ok (.invokestatic 126, 3)), lw_k6 169 rfl rfl⟩, sm_Md_productionAt, me_Md_productionAt, pn_Md_productionAt⟩
theorem i_Md_equalProductions_28 : iIns M_Md_equalProductions 28 .iaload 1 := (by decide +kernel : decode prog_14_method_56_code 28 = .ok (.iaload, 1))
theorem i_Md_equalProductions_29 : iIcmp M_Md_equalProductions 29 .gt 77 := ⟨48, (by decide +kernel : decode prog_14_method_56_code 29 = .ok (.if_icmp .gt (48), 3)), by decide⟩
theorem i_Md_equalProductions_32 : iIns M_Md_equalProductions 32 (.iload_n 2) 1 := (by decide +kernel : decode prog_14_method_56_code 32 = .ok (.iload_n 2, 1))
theorem i_Md_equalProductions_33 : iIf M_Md_equalProductions 33 .eq 69 := ⟨36, (by decide +kernel : decode prog_14_method_56_code 33 = .ok (.ifCond .eq (36), 3)), by decide⟩
theorem i_Md_equalProductions_36 : iIns M_Md_equalProductions 36 (.aload_n 0) 1 := (by decide +kernel : decode prog_14_method_56_code 36 = .ok (.aload_n 0, 1))
theorem i_Md_equalProductions_37 : iGet M_Md_equalProductions 37 14 1 := ⟨9, (by decide +kernel : decode prog_14_method_56_code 37 = .ok (.getfield 9, 3)), fl_Md_Md_tables⟩
theorem i_Md_equalProductions_40 : iIns M_Md_equalProductions 40 (.iload_n 1) 1 := (by decide +kernel : decode prog_14_method_56_code 40 = .ok (.iload_n 1, 1))
theorem i_Md_equalProductions_41 : iIns M_Md_equalProductions 41 (.iload_n 3) 1 := (by decide +kernel : decode prog_14_method_56_code 41 = .ok (.iload_n 3, 1))
theorem i_Md_equalProductions_42 : iCallS M_Md_equalProductions 42 M_Md_productionAt 2 := ⟨⟨126, (by decide +kernel : decode prog_14_method_56_code 42 = .ok (.invokestatic 126, 3)), lw_k6 169 rfl rfl⟩, sm_Md_productionAt, me_Md_productionAt, pn_Md_productionAt⟩
theorem i_Md_equalProductions_45 : iIns M_Md_equalProductions 45 (.iload 4) 2 := (by decide +kernel : decode prog_14_method_56_code 45 = .ok (.iload 4, 2))
theorem i_Md_equalProductions_47 : iIns M_Md_equalProductions 47 .iadd 1 := (by decide +kernel : decode prog_14_method_56_code 47 = .ok (.iadd, 1))
theorem i_Md_equalProductions_48 : iIns M_Md_equalProductions 48 .iaload 1 := (by decide +kernel : decode prog_14_method_56_code 48 = .ok (.iaload, 1))
theorem i_Md_equalProductions_49 : iIns M_Md_equalProductions 49 (.aload_n 0) 1 := (by decide +kernel : decode prog_14_method_56_code 49 = .ok (.aload_n 0, 1))
theorem i_Md_equalProductions_50 : iGet M_Md_equalProductions 50 14 1 := ⟨9, (by decide +kernel : decode prog_14_method_56_code 50 = .ok (.getfield 9, 3)), fl_Md_Md_tables⟩
theorem i_Md_equalProductions_53 : iIns M_Md_equalProductions 53 (.iload_n 1) 1 := (by decide +kernel : decode prog_14_method_56_code 53 = .ok (.iload_n 1, 1))
theorem i_Md_equalProductions_54 : iIns M_Md_equalProductions 54 (.iconst 0) 1 := (by decide +kernel : decode prog_14_method_56_code 54 = .ok (.iconst 0, 1))
theorem i_Md_equalProductions_55 : iCallS M_Md_equalProductions 55 M_Md_productionAt 2 := ⟨⟨126, (by decide +kernel : decode prog_14_method_56_code 55 = .ok (.invokestatic 126, 3)), lw_k6 169 rfl rfl⟩, sm_Md_productionAt, me_Md_productionAt, pn_Md_productionAt⟩
theorem i_Md_equalProductions_58 : iIns M_Md_equalProductions 58 (.iload 4) 2 := (by decide +kernel : decode prog_14_method_56_code 58 = .ok (.iload 4, 2))
theorem i_Md_equalProductions_60 : iIns M_Md_equalProductions 60 .iadd 1 := (by decide +kernel : decode prog_14_method_56_code 60 = .ok (.iadd, 1))
theorem i_Md_equalProductions_61 : iIns M_Md_equalProductions 61 .iaload 1 := (by decide +kernel : decode prog_14_method_56_code 61 = .ok (.iaload, 1))
theorem i_Md_equalProductions_62 : iIcmp M_Md_equalProductions 62 .ne 69 := ⟨7, (by decide +kernel : decode prog_14_method_56_code 62 = .ok (.if_icmp .ne (7), 3)), by decide⟩
theorem i_Md_equalProductions_65 : iIns M_Md_equalProductions 65 (.iconst 1) 1 := (by decide +kernel : decode prog_14_method_56_code 65 = .ok (.iconst 1, 1))
theorem i_Md_equalProductions_66 : iGoto M_Md_equalProductions 66 70 := ⟨4, (by decide +kernel : decode prog_14_method_56_code 66 = .ok (.goto (4), 3)), by decide⟩
theorem i_Md_equalProductions_69 : iIns M_Md_equalProductions 69 (.iconst 0) 1 := (by decide +kernel : decode prog_14_method_56_code 69 = .ok (.iconst 0, 1))
theorem i_Md_equalProductions_70 : iIns M_Md_equalProductions 70 (.istore_n 2) 1 := (by decide +kernel : decode prog_14_method_56_code 70 = .ok (.istore_n 2, 1))
theorem i_Md_equalProductions_71 : iIns M_Md_equalProductions 71 (.iinc 4 (1)) 3 := (by decide +kernel : decode prog_14_method_56_code 71 = .ok (.iinc 4 (1), 3))
theorem i_Md_equalProductions_74 : iGoto M_Md_equalProductions 74 17 := ⟨-57, (by decide +kernel : decode prog_14_method_56_code 74 = .ok (.goto (-57), 3)), by decide⟩
theorem i_Md_equalProductions_77 : iIns M_Md_equalProductions 77 (.iinc 3 (1)) 3 := (by decide +kernel : decode prog_14_method_56_code 77 = .ok (.iinc 3 (1), 3))
theorem i_Md_equalProductions_80 : iGoto M_Md_equalProductions 80 4 := ⟨-76, (by decide +kernel : decode prog_14_method_56_code 80 = .ok (.goto (-76), 3)), by decide⟩
theorem i_Md_equalProductions_83 : iIns M_Md_equalProductions 83 (.iload_n 2) 1 := (by decide +kernel : decode prog_14_method_56_code 83 = .ok (.iload_n 2, 1))
theorem i_Md_equalProductions_84 : iIns M_Md_equalProductions 84 .ireturn 1 := (by decide +kernel : decode prog_14_method_56_code 84 = .ok (.ireturn, 1))
theorem i_Md_stepsToAdult_0 : iIns M_Md_stepsToAdult 0 (.aload_n 0) 1 := (by decide +kernel : decode prog_14_method_59_code 0 = .ok (.aload_n 0, 1))
theorem i_Md_stepsToAdult_1 : iIns M_Md_stepsToAdult 1 (.iload_n 1) 1 := (by decide +kernel : decode prog_14_method_59_code 1 = .ok (.iload_n 1, 1))
theorem i_Md_stepsToAdult_2 : iCallS M_Md_stepsToAdult 2 M_Md_isTable 1 := ⟨⟨112, (by decide +kernel : decode prog_14_method_59_code 2 = .ok (.invokestatic 112, 3)), lw_k6 156 rfl rfl⟩, sm_Md_isTable, me_Md_isTable, pn_Md_isTable⟩
theorem i_Md_stepsToAdult_5 : iIf M_Md_stepsToAdult 5 .ne 12 := ⟨7, (by decide +kernel : decode prog_14_method_59_code 5 = .ok (.ifCond .ne (7), 3)), by decide⟩
theorem i_Md_stepsToAdult_8 : iIns M_Md_stepsToAdult 8 (.iconst 1) 1 := (by decide +kernel : decode prog_14_method_59_code 8 = .ok (.iconst 1, 1))
theorem i_Md_stepsToAdult_9 : iGoto M_Md_stepsToAdult 9 39 := ⟨30, (by decide +kernel : decode prog_14_method_59_code 9 = .ok (.goto (30), 3)), by decide⟩
theorem i_Md_stepsToAdult_12 : iIns M_Md_stepsToAdult 12 (.iload_n 2) 1 := (by decide +kernel : decode prog_14_method_59_code 12 = .ok (.iload_n 2, 1))
theorem i_Md_stepsToAdult_13 : iIns M_Md_stepsToAdult 13 (.iconst 0) 1 := (by decide +kernel : decode prog_14_method_59_code 13 = .ok (.iconst 0, 1))
theorem i_Md_stepsToAdult_14 : iIns M_Md_stepsToAdult 14 (.bipush 50) 2 := (by decide +kernel : decode prog_14_method_59_code 14 = .ok (.bipush 50, 2))
theorem i_Md_stepsToAdult_16 : iCallS M_Md_stepsToAdult 16 M_Md_in 3 := ⟨⟨101, (by decide +kernel : decode prog_14_method_59_code 16 = .ok (.invokestatic 101, 3)), lw_k6 141 rfl rfl⟩, sm_Md_in, me_Md_in, pn_Md_in⟩
theorem i_Md_stepsToAdult_19 : iIf M_Md_stepsToAdult 19 .ne 26 := ⟨7, (by decide +kernel : decode prog_14_method_59_code 19 = .ok (.ifCond .ne (7), 3)), by decide⟩
theorem i_Md_stepsToAdult_22 : iIns M_Md_stepsToAdult 22 (.iconst 2) 1 := (by decide +kernel : decode prog_14_method_59_code 22 = .ok (.iconst 2, 1))
theorem i_Md_stepsToAdult_23 : iGoto M_Md_stepsToAdult 23 39 := ⟨16, (by decide +kernel : decode prog_14_method_59_code 23 = .ok (.goto (16), 3)), by decide⟩
theorem i_Md_stepsToAdult_26 : iIns M_Md_stepsToAdult 26 (.aload_n 0) 1 := (by decide +kernel : decode prog_14_method_59_code 26 = .ok (.aload_n 0, 1))
theorem i_Md_stepsToAdult_27 : iIns M_Md_stepsToAdult 27 (.iload_n 1) 1 := (by decide +kernel : decode prog_14_method_59_code 27 = .ok (.iload_n 1, 1))
theorem i_Md_stepsToAdult_28 : iCallV M_Md_stepsToAdult 28 M_Md_deterministic 1 14 := ⟨⟨152, (by decide +kernel : decode prog_14_method_59_code 28 = .ok (.invokevirtual 152, 3)), lw_k6 210 rfl rfl⟩, vm_Md_deterministic, me_Md_deterministic, pn_Md_deterministic⟩
theorem i_Md_stepsToAdult_31 : iIf M_Md_stepsToAdult 31 .ne 38 := ⟨7, (by decide +kernel : decode prog_14_method_59_code 31 = .ok (.ifCond .ne (7), 3)), by decide⟩
theorem i_Md_stepsToAdult_34 : iIns M_Md_stepsToAdult 34 (.iconst 3) 1 := (by decide +kernel : decode prog_14_method_59_code 34 = .ok (.iconst 3, 1))
theorem i_Md_stepsToAdult_35 : iGoto M_Md_stepsToAdult 35 39 := ⟨4, (by decide +kernel : decode prog_14_method_59_code 35 = .ok (.goto (4), 3)), by decide⟩
theorem i_Md_stepsToAdult_38 : iIns M_Md_stepsToAdult 38 (.iconst 0) 1 := (by decide +kernel : decode prog_14_method_59_code 38 = .ok (.iconst 0, 1))
theorem i_Md_stepsToAdult_39 : iPutX M_Md_stepsToAdult 39 14 0 .int := ⟨97, (by decide +kernel : decode prog_14_method_59_code 39 = .ok (.putfield 97, 3)), px_Md_Md_thrown⟩
theorem i_Md_stepsToAdult_42 : iIns M_Md_stepsToAdult 42 (.aload_n 0) 1 := (by decide +kernel : decode prog_14_method_59_code 42 = .ok (.aload_n 0, 1))
theorem i_Md_stepsToAdult_43 : iGet M_Md_stepsToAdult 43 14 0 := ⟨97, (by decide +kernel : decode prog_14_method_59_code 43 = .ok (.getfield 97, 3)), fl_Md_Md_thrown⟩
theorem i_Md_stepsToAdult_46 : iIf M_Md_stepsToAdult 46 .le 51 := ⟨5, (by decide +kernel : decode prog_14_method_59_code 46 = .ok (.ifCond .le (5), 3)), by decide⟩
theorem i_Md_stepsToAdult_49 : iIns M_Md_stepsToAdult 49 (.iconst 0) 1 := (by decide +kernel : decode prog_14_method_59_code 49 = .ok (.iconst 0, 1))
theorem i_Md_stepsToAdult_50 : iIns M_Md_stepsToAdult 50 .ireturn 1 := (by decide +kernel : decode prog_14_method_59_code 50 = .ok (.ireturn, 1))
theorem i_Md_stepsToAdult_51 : iIns M_Md_stepsToAdult 51 (.aload_n 0) 1 := (by decide +kernel : decode prog_14_method_59_code 51 = .ok (.aload_n 0, 1))
theorem i_Md_stepsToAdult_52 : iGet M_Md_stepsToAdult 52 14 2 := ⟨13, (by decide +kernel : decode prog_14_method_59_code 52 = .ok (.getfield 13, 3)), fl_Md_Md_word⟩
theorem i_Md_stepsToAdult_55 : iIns M_Md_stepsToAdult 55 (.iconst 0) 1 := (by decide +kernel : decode prog_14_method_59_code 55 = .ok (.iconst 0, 1))
theorem i_Md_stepsToAdult_56 : iIns M_Md_stepsToAdult 56 (.aload_n 0) 1 := (by decide +kernel : decode prog_14_method_59_code 56 = .ok (.aload_n 0, 1))
theorem i_Md_stepsToAdult_57 : iGet M_Md_stepsToAdult 57 14 24 := ⟨69, (by decide +kernel : decode prog_14_method_59_code 57 = .ok (.getfield 69, 3)), fl_Md_Md_trial⟩
theorem i_Md_stepsToAdult_60 : iIns M_Md_stepsToAdult 60 (.iconst 0) 1 := (by decide +kernel : decode prog_14_method_59_code 60 = .ok (.iconst 0, 1))
theorem i_Md_stepsToAdult_61 : iIns M_Md_stepsToAdult 61 (.bipush 61) 2 := (by decide +kernel : decode prog_14_method_59_code 61 = .ok (.bipush 61, 2))
theorem i_Md_stepsToAdult_63 : iCpy M_Md_stepsToAdult 63 := ⟨146, (by decide +kernel : decode prog_14_method_59_code 63 = .ok (.invokestatic 146, 3)), lw_k6 205 rfl rfl⟩
theorem i_Md_stepsToAdult_66 : iIns M_Md_stepsToAdult 66 (.iconst 0) 1 := (by decide +kernel : decode prog_14_method_59_code 66 = .ok (.iconst 0, 1))
theorem i_Md_stepsToAdult_67 : iIns M_Md_stepsToAdult 67 (.istore_n 3) 1 := (by decide +kernel : decode prog_14_method_59_code 67 = .ok (.istore_n 3, 1))
theorem i_Md_stepsToAdult_68 : iIns M_Md_stepsToAdult 68 (.iload_n 3) 1 := (by decide +kernel : decode prog_14_method_59_code 68 = .ok (.iload_n 3, 1))
theorem i_Md_stepsToAdult_69 : iIns M_Md_stepsToAdult 69 (.iload_n 2) 1 := (by decide +kernel : decode prog_14_method_59_code 69 = .ok (.iload_n 2, 1))
theorem i_Md_stepsToAdult_70 : iIcmp M_Md_stepsToAdult 70 .gt 130 := ⟨60, (by decide +kernel : decode prog_14_method_59_code 70 = .ok (.if_icmp .gt (60), 3)), by decide⟩
theorem i_Md_stepsToAdult_73 : iIns M_Md_stepsToAdult 73 (.aload_n 0) 1 := (by decide +kernel : decode prog_14_method_59_code 73 = .ok (.aload_n 0, 1))
theorem i_Md_stepsToAdult_74 : iIns M_Md_stepsToAdult 74 (.iload_n 1) 1 := (by decide +kernel : decode prog_14_method_59_code 74 = .ok (.iload_n 1, 1))
theorem i_Md_stepsToAdult_75 : iIns M_Md_stepsToAdult 75 (.aload_n 0) 1 := (by decide +kernel : decode prog_14_method_59_code 75 = .ok (.aload_n 0, 1))
theorem i_Md_stepsToAdult_76 : iGet M_Md_stepsToAdult 76 14 24 := ⟨69, (by decide +kernel : decode prog_14_method_59_code 76 = .ok (.getfield 69, 3)), fl_Md_Md_trial⟩
theorem i_Md_stepsToAdult_79 : iCallV M_Md_stepsToAdult 79 M_Md_adult 2 14 := ⟨⟨236, (by decide +kernel : decode prog_14_method_59_code 79 = .ok (.invokevirtual 236, 3)), lw_k7 110 rfl rfl⟩, vm_Md_adult, me_Md_adult, pn_Md_adult⟩
theorem i_Md_stepsToAdult_82 : iIf M_Md_stepsToAdult 82 .eq 87 := ⟨5, (by decide +kernel : decode prog_14_method_59_code 82 = .ok (.ifCond .eq (5), 3)), by decide⟩
theorem i_Md_stepsToAdult_85 : iIns M_Md_stepsToAdult 85 (.iload_n 3) 1 := (by decide +kernel : decode prog_14_method_59_code 85 = .ok (.iload_n 3, 1))
theorem i_Md_stepsToAdult_86 : iIns M_Md_stepsToAdult 86 .ireturn 1 := (by decide +kernel : decode prog_14_method_59_code 86 = .ok (.ireturn, 1))
theorem i_Md_stepsToAdult_87 : iIns M_Md_stepsToAdult 87 (.aload_n 0) 1 := (by decide +kernel : decode prog_14_method_59_code 87 = .ok (.aload_n 0, 1))
theorem i_Md_stepsToAdult_88 : iIns M_Md_stepsToAdult 88 (.iload_n 1) 1 := (by decide +kernel : decode prog_14_method_59_code 88 = .ok (.iload_n 1, 1))
theorem i_Md_stepsToAdult_89 : iIns M_Md_stepsToAdult 89 (.aload_n 0) 1 := (by decide +kernel : decode prog_14_method_59_code 89 = .ok (.aload_n 0, 1))
theorem i_Md_stepsToAdult_90 : iGet M_Md_stepsToAdult 90 14 24 := ⟨69, (by decide +kernel : decode prog_14_method_59_code 90 = .ok (.getfield 69, 3)), fl_Md_Md_trial⟩
theorem i_Md_stepsToAdult_93 : iIns M_Md_stepsToAdult 93 (.aload_n 0) 1 := (by decide +kernel : decode prog_14_method_59_code 93 = .ok (.aload_n 0, 1))
theorem i_Md_stepsToAdult_94 : iGet M_Md_stepsToAdult 94 14 15 := ⟨40, (by decide +kernel : decode prog_14_method_59_code 94 = .ok (.getfield 40, 3)), fl_Md_Md_next⟩
theorem i_Md_stepsToAdult_97 : iCallV M_Md_stepsToAdult 97 M_Md_step3 3 14 := ⟨⟨173, (by decide +kernel : decode prog_14_method_59_code 97 = .ok (.invokevirtual 173, 3)), lw_k7 9 rfl rfl⟩, vm_Md_step3, me_Md_step3, pn_Md_step3⟩
theorem i_Md_stepsToAdult_100 : iIf M_Md_stepsToAdult 100 .ne 109 := ⟨9, (by decide +kernel : decode prog_14_method_59_code 100 = .ok (.ifCond .ne (9), 3)), by decide⟩
theorem i_Md_stepsToAdult_103 : iIns M_Md_stepsToAdult 103 (.aload_n 0) 1 := (by decide +kernel : decode prog_14_method_59_code 103 = .ok (.aload_n 0, 1))
theorem i_Md_stepsToAdult_104 : iIns M_Md_stepsToAdult 104 (.iconst 4) 1 := (by decide +kernel : decode prog_14_method_59_code 104 = .ok (.iconst 4, 1))
theorem i_Md_stepsToAdult_105 : iCallV M_Md_stepsToAdult 105 M_Md_fails 1 14 := ⟨⟨105, (by decide +kernel : decode prog_14_method_59_code 105 = .ok (.invokevirtual 105, 3)), lw_k6 144 rfl rfl⟩, vm_Md_fails, me_Md_fails, pn_Md_fails⟩
theorem i_Md_stepsToAdult_108 : iIns M_Md_stepsToAdult 108 .ireturn 1 := (by decide +kernel : decode prog_14_method_59_code 108 = .ok (.ireturn, 1))
theorem i_Md_stepsToAdult_109 : iIns M_Md_stepsToAdult 109 (.aload_n 0) 1 := (by decide +kernel : decode prog_14_method_59_code 109 = .ok (.aload_n 0, 1))
theorem i_Md_stepsToAdult_110 : iGet M_Md_stepsToAdult 110 14 15 := ⟨40, (by decide +kernel : decode prog_14_method_59_code 110 = .ok (.getfield 40, 3)), fl_Md_Md_next⟩
theorem i_Md_stepsToAdult_113 : iIns M_Md_stepsToAdult 113 (.iconst 0) 1 := (by decide +kernel : decode prog_14_method_59_code 113 = .ok (.iconst 0, 1))
theorem i_Md_stepsToAdult_114 : iIns M_Md_stepsToAdult 114 (.aload_n 0) 1 := (by decide +kernel : decode prog_14_method_59_code 114 = .ok (.aload_n 0, 1))
theorem i_Md_stepsToAdult_115 : iGet M_Md_stepsToAdult 115 14 24 := ⟨69, (by decide +kernel : decode prog_14_method_59_code 115 = .ok (.getfield 69, 3)), fl_Md_Md_trial⟩
theorem i_Md_stepsToAdult_118 : iIns M_Md_stepsToAdult 118 (.iconst 0) 1 := (by decide +kernel : decode prog_14_method_59_code 118 = .ok (.iconst 0, 1))
theorem i_Md_stepsToAdult_119 : iIns M_Md_stepsToAdult 119 (.bipush 61) 2 := (by decide +kernel : decode prog_14_method_59_code 119 = .ok (.bipush 61, 2))
theorem i_Md_stepsToAdult_121 : iCpy M_Md_stepsToAdult 121 := ⟨146, (by decide +kernel : decode prog_14_method_59_code 121 = .ok (.invokestatic 146, 3)), lw_k6 205 rfl rfl⟩
theorem i_Md_stepsToAdult_124 : iIns M_Md_stepsToAdult 124 (.iinc 3 (1)) 3 := (by decide +kernel : decode prog_14_method_59_code 124 = .ok (.iinc 3 (1), 3))
theorem i_Md_stepsToAdult_127 : iGoto M_Md_stepsToAdult 127 68 := ⟨-59, (by decide +kernel : decode prog_14_method_59_code 127 = .ok (.goto (-59), 3)), by decide⟩
theorem i_Md_stepsToAdult_130 : iIns M_Md_stepsToAdult 130 (.aload_n 0) 1 := (by decide +kernel : decode prog_14_method_59_code 130 = .ok (.aload_n 0, 1))
theorem i_Md_stepsToAdult_131 : iIns M_Md_stepsToAdult 131 (.iconst 4) 1 := (by decide +kernel : decode prog_14_method_59_code 131 = .ok (.iconst 4, 1))
theorem i_Md_stepsToAdult_132 : iCallV M_Md_stepsToAdult 132 M_Md_fails 1 14 := ⟨⟨105, (by decide +kernel : decode prog_14_method_59_code 132 = .ok (.invokevirtual 105, 3)), lw_k6 144 rfl rfl⟩, vm_Md_fails, me_Md_fails, pn_Md_fails⟩
theorem i_Md_stepsToAdult_135 : iIns M_Md_stepsToAdult 135 .ireturn 1 := (by decide +kernel : decode prog_14_method_59_code 135 = .ok (.ireturn, 1))
theorem i_Md_adultWords_0 : iIns M_Md_adultWords 0 (.aload_n 0) 1 := (by decide +kernel : decode prog_14_method_60_code 0 = .ok (.aload_n 0, 1))
theorem i_Md_adultWords_1 : iIns M_Md_adultWords 1 (.iload_n 1) 1 := (by decide +kernel : decode prog_14_method_60_code 1 = .ok (.iload_n 1, 1))
theorem i_Md_adultWords_2 : iCallS M_Md_adultWords 2 M_Md_isTable 1 := ⟨⟨112, (by decide +kernel : decode prog_14_method_60_code 2 = .ok (.invokestatic 112, 3)), lw_k6 156 rfl rfl⟩, sm_Md_isTable, me_Md_isTable, pn_Md_isTable⟩
theorem i_Md_adultWords_5 : iIf M_Md_adultWords 5 .ne 12 := ⟨7, (by decide +kernel : decode prog_14_method_60_code 5 = .ok (.ifCond .ne (7), 3)), by decide⟩
theorem i_Md_adultWords_8 : iIns M_Md_adultWords 8 (.iconst 1) 1 := (by decide +kernel : decode prog_14_method_60_code 8 = .ok (.iconst 1, 1))
theorem i_Md_adultWords_9 : iGoto M_Md_adultWords 9 26 := ⟨17, (by decide +kernel : decode prog_14_method_60_code 9 = .ok (.goto (17), 3)), by decide⟩
theorem i_Md_adultWords_12 : iIns M_Md_adultWords 12 (.iload_n 2) 1 := (by decide +kernel : decode prog_14_method_60_code 12 = .ok (.iload_n 2, 1))
theorem i_Md_adultWords_13 : iIns M_Md_adultWords 13 (.iconst 0) 1 := (by decide +kernel : decode prog_14_method_60_code 13 = .ok (.iconst 0, 1))
theorem i_Md_adultWords_14 : iIns M_Md_adultWords 14 (.iconst 4) 1 := (by decide +kernel : decode prog_14_method_60_code 14 = .ok (.iconst 4, 1))
theorem i_Md_adultWords_15 : iCallS M_Md_adultWords 15 M_Md_in 3 := ⟨⟨101, (by decide +kernel : decode prog_14_method_60_code 15 = .ok (.invokestatic 101, 3)), lw_k6 141 rfl rfl⟩, sm_Md_in, me_Md_in, pn_Md_in⟩
theorem i_Md_adultWords_18 : iIf M_Md_adultWords 18 .ne 25 := ⟨7, (by decide +kernel : decode prog_14_method_60_code 18 = .ok (.ifCond .ne (7), 3)), by decide⟩
theorem i_Md_adultWords_21 : iIns M_Md_adultWords 21 (.iconst 2) 1 := (by decide +kernel : decode prog_14_method_60_code 21 = .ok (.iconst 2, 1))
theorem i_Md_adultWords_22 : iGoto M_Md_adultWords 22 26 := ⟨4, (by decide +kernel : decode prog_14_method_60_code 22 = .ok (.goto (4), 3)), by decide⟩
theorem i_Md_adultWords_25 : iIns M_Md_adultWords 25 (.iconst 0) 1 := (by decide +kernel : decode prog_14_method_60_code 25 = .ok (.iconst 0, 1))
theorem i_Md_adultWords_26 : iPutX M_Md_adultWords 26 14 0 .int := ⟨97, (by decide +kernel : decode prog_14_method_60_code 26 = .ok (.putfield 97, 3)), px_Md_Md_thrown⟩
theorem i_Md_adultWords_29 : iIns M_Md_adultWords 29 (.aload_n 0) 1 := (by decide +kernel : decode prog_14_method_60_code 29 = .ok (.aload_n 0, 1))
theorem i_Md_adultWords_30 : iGet M_Md_adultWords 30 14 0 := ⟨97, (by decide +kernel : decode prog_14_method_60_code 30 = .ok (.getfield 97, 3)), fl_Md_Md_thrown⟩
theorem i_Md_adultWords_33 : iIf M_Md_adultWords 33 .le 38 := ⟨5, (by decide +kernel : decode prog_14_method_60_code 33 = .ok (.ifCond .le (5), 3)), by decide⟩
theorem i_Md_adultWords_36 : iIns M_Md_adultWords 36 (.iconst 0) 1 := (by decide +kernel : decode prog_14_method_60_code 36 = .ok (.iconst 0, 1))
theorem i_Md_adultWords_37 : iIns M_Md_adultWords 37 .ireturn 1 := (by decide +kernel : decode prog_14_method_60_code 37 = .ok (.ireturn, 1))
theorem i_Md_adultWords_38 : iIns M_Md_adultWords 38 (.iconst 1) 1 := (by decide +kernel : decode prog_14_method_60_code 38 = .ok (.iconst 1, 1))
theorem i_Md_adultWords_39 : iIns M_Md_adultWords 39 (.istore_n 3) 1 := (by decide +kernel : decode prog_14_method_60_code 39 = .ok (.istore_n 3, 1))
theorem i_Md_adultWords_40 : iIns M_Md_adultWords 40 (.iconst 0) 1 := (by decide +kernel : decode prog_14_method_60_code 40 = .ok (.iconst 0, 1))
theorem i_Md_adultWords_41 : iIns M_Md_adultWords 41 (.istore 4) 2 := (by decide +kernel : decode prog_14_method_60_code 41 = .ok (.istore 4, 2))
theorem i_Md_adultWords_43 : iIns M_Md_adultWords 43 (.iload 4) 2 := (by decide +kernel : decode prog_14_method_60_code 43 = .ok (.iload 4, 2))
theorem i_Md_adultWords_45 : iIns M_Md_adultWords 45 (.iload_n 2) 1 := (by decide +kernel : decode prog_14_method_60_code 45 = .ok (.iload_n 2, 1))
theorem i_Md_adultWords_46 : iIcmp M_Md_adultWords 46 .ge 60 := ⟨14, (by decide +kernel : decode prog_14_method_60_code 46 = .ok (.if_icmp .ge (14), 3)), by decide⟩
theorem i_Md_adultWords_49 : iIns M_Md_adultWords 49 (.iload_n 3) 1 := (by decide +kernel : decode prog_14_method_60_code 49 = .ok (.iload_n 3, 1))
theorem i_Md_adultWords_50 : iIns M_Md_adultWords 50 (.bipush 6) 2 := (by decide +kernel : decode prog_14_method_60_code 50 = .ok (.bipush 6, 2))
theorem i_Md_adultWords_52 : iIns M_Md_adultWords 52 .imul 1 := (by decide +kernel : decode prog_14_method_60_code 52 = .ok (.imul, 1))
theorem i_Md_adultWords_53 : iIns M_Md_adultWords 53 (.istore_n 3) 1 := (by decide +kernel : decode prog_14_method_60_code 53 = .ok (.istore_n 3, 1))
theorem i_Md_adultWords_54 : iIns M_Md_adultWords 54 (.iinc 4 (1)) 3 := (by decide +kernel : decode prog_14_method_60_code 54 = .ok (.iinc 4 (1), 3))
theorem i_Md_adultWords_57 : iGoto M_Md_adultWords 57 43 := ⟨-14, (by decide +kernel : decode prog_14_method_60_code 57 = .ok (.goto (-14), 3)), by decide⟩
theorem i_Md_adultWords_60 : iIns M_Md_adultWords 60 (.iconst 0) 1 := (by decide +kernel : decode prog_14_method_60_code 60 = .ok (.iconst 0, 1))
theorem i_Md_adultWords_61 : iIns M_Md_adultWords 61 (.istore 4) 2 := (by decide +kernel : decode prog_14_method_60_code 61 = .ok (.istore 4, 2))
theorem i_Md_adultWords_63 : iIns M_Md_adultWords 63 (.aload_n 0) 1 := (by decide +kernel : decode prog_14_method_60_code 63 = .ok (.aload_n 0, 1))
theorem i_Md_adultWords_64 : iGet M_Md_adultWords 64 14 24 := ⟨69, (by decide +kernel : decode prog_14_method_60_code 64 = .ok (.getfield 69, 3)), fl_Md_Md_trial⟩
theorem i_Md_adultWords_67 : iIns M_Md_adultWords 67 (.iconst 0) 1 := (by decide +kernel : decode prog_14_method_60_code 67 = .ok (.iconst 0, 1))
theorem i_Md_adultWords_68 : iIns M_Md_adultWords 68 (.iload_n 2) 1 := (by decide +kernel : decode prog_14_method_60_code 68 = .ok (.iload_n 2, 1))
theorem i_Md_adultWords_69 : iIns M_Md_adultWords 69 .iastore 1 := (by decide +kernel : decode prog_14_method_60_code 69 = .ok (.iastore, 1))
theorem i_Md_adultWords_70 : iIns M_Md_adultWords 70 (.iconst 0) 1 := (by decide +kernel : decode prog_14_method_60_code 70 = .ok (.iconst 0, 1))
theorem i_Md_adultWords_71 : iIns M_Md_adultWords 71 (.istore 5) 2 := (by decide +kernel : decode prog_14_method_60_code 71 = .ok (.istore 5, 2))
theorem i_Md_adultWords_73 : iIns M_Md_adultWords 73 (.iload 5) 2 := (by decide +kernel : decode prog_14_method_60_code 73 = .ok (.iload 5, 2))
theorem i_Md_adultWords_75 : iIns M_Md_adultWords 75 (.iload_n 3) 1 := (by decide +kernel : decode prog_14_method_60_code 75 = .ok (.iload_n 3, 1))
theorem i_Md_adultWords_76 : iIcmp M_Md_adultWords 76 .ge 144 := ⟨68, (by decide +kernel : decode prog_14_method_60_code 76 = .ok (.if_icmp .ge (68), 3)), by decide⟩
theorem i_Md_adultWords_79 : iIns M_Md_adultWords 79 (.iload 5) 2 := (by decide +kernel : decode prog_14_method_60_code 79 = .ok (.iload 5, 2))
theorem i_Md_adultWords_81 : iIns M_Md_adultWords 81 (.istore 6) 2 := (by decide +kernel : decode prog_14_method_60_code 81 = .ok (.istore 6, 2))
theorem i_Md_adultWords_83 : iIns M_Md_adultWords 83 (.iload_n 2) 1 := (by decide +kernel : decode prog_14_method_60_code 83 = .ok (.iload_n 2, 1))
theorem i_Md_adultWords_84 : iIns M_Md_adultWords 84 (.istore 7) 2 := (by decide +kernel : decode prog_14_method_60_code 84 = .ok (.istore 7, 2))
theorem i_Md_adultWords_86 : iIns M_Md_adultWords 86 (.iload 7) 2 := (by decide +kernel : decode prog_14_method_60_code 86 = .ok (.iload 7, 2))
theorem i_Md_adultWords_88 : iIf M_Md_adultWords 88 .le 116 := ⟨28, (by decide +kernel : decode prog_14_method_60_code 88 = .ok (.ifCond .le (28), 3)), by decide⟩
theorem i_Md_adultWords_91 : iIns M_Md_adultWords 91 (.aload_n 0) 1 := (by decide +kernel : decode prog_14_method_60_code 91 = .ok (.aload_n 0, 1))
theorem i_Md_adultWords_92 : iGet M_Md_adultWords 92 14 24 := ⟨69, (by decide +kernel : decode prog_14_method_60_code 92 = .ok (.getfield 69, 3)), fl_Md_Md_trial⟩
theorem i_Md_adultWords_95 : iIns M_Md_adultWords 95 (.iload 7) 2 := (by decide +kernel : decode prog_14_method_60_code 95 = .ok (.iload 7, 2))
theorem i_Md_adultWords_97 : iIns M_Md_adultWords 97 (.iload 6) 2 := (by decide +kernel : decode prog_14_method_60_code 97 = .ok (.iload 6, 2))
theorem i_Md_adultWords_99 : iIns M_Md_adultWords 99 (.bipush 6) 2 := (by decide +kernel : decode prog_14_method_60_code 99 = .ok (.bipush 6, 2))
theorem i_Md_adultWords_101 : iIns M_Md_adultWords 101 .irem 1 := (by decide +kernel : decode prog_14_method_60_code 101 = .ok (.irem, 1))
theorem i_Md_adultWords_102 : iIns M_Md_adultWords 102 .iastore 1 := (by decide +kernel : decode prog_14_method_60_code 102 = .ok (.iastore, 1))
theorem i_Md_adultWords_103 : iIns M_Md_adultWords 103 (.iload 6) 2 := (by decide +kernel : decode prog_14_method_60_code 103 = .ok (.iload 6, 2))
theorem i_Md_adultWords_105 : iIns M_Md_adultWords 105 (.bipush 6) 2 := (by decide +kernel : decode prog_14_method_60_code 105 = .ok (.bipush 6, 2))
theorem i_Md_adultWords_107 : iIns M_Md_adultWords 107 .idiv 1 := (by decide +kernel : decode prog_14_method_60_code 107 = .ok (.idiv, 1))
theorem i_Md_adultWords_108 : iIns M_Md_adultWords 108 (.istore 6) 2 := (by decide +kernel : decode prog_14_method_60_code 108 = .ok (.istore 6, 2))
theorem i_Md_adultWords_110 : iIns M_Md_adultWords 110 (.iinc 7 (-1)) 3 := (by decide +kernel : decode prog_14_method_60_code 110 = .ok (.iinc 7 (-1), 3))
theorem i_Md_adultWords_113 : iGoto M_Md_adultWords 113 86 := ⟨-27, (by decide +kernel : decode prog_14_method_60_code 113 = .ok (.goto (-27), 3)), by decide⟩
theorem i_Md_adultWords_116 : iIns M_Md_adultWords 116 (.iload 4) 2 := (by decide +kernel : decode prog_14_method_60_code 116 = .ok (.iload 4, 2))
theorem i_Md_adultWords_118 : iIns M_Md_adultWords 118 (.aload_n 0) 1 := (by decide +kernel : decode prog_14_method_60_code 118 = .ok (.aload_n 0, 1))
theorem i_Md_adultWords_119 : iIns M_Md_adultWords 119 (.iload_n 1) 1 := (by decide +kernel : decode prog_14_method_60_code 119 = .ok (.iload_n 1, 1))
theorem i_Md_adultWords_120 : iIns M_Md_adultWords 120 (.aload_n 0) 1 := (by decide +kernel : decode prog_14_method_60_code 120 = .ok (.aload_n 0, 1))
theorem i_Md_adultWords_121 : iGet M_Md_adultWords 121 14 24 := ⟨69, (by decide +kernel : decode prog_14_method_60_code 121 = .ok (.getfield 69, 3)), fl_Md_Md_trial⟩
theorem i_Md_adultWords_124 : iCallV M_Md_adultWords 124 M_Md_adult 2 14 := ⟨⟨236, (by decide +kernel : decode prog_14_method_60_code 124 = .ok (.invokevirtual 236, 3)), lw_k7 110 rfl rfl⟩, vm_Md_adult, me_Md_adult, pn_Md_adult⟩
theorem i_Md_adultWords_127 : iIf M_Md_adultWords 127 .eq 134 := ⟨7, (by decide +kernel : decode prog_14_method_60_code 127 = .ok (.ifCond .eq (7), 3)), by decide⟩
theorem i_Md_adultWords_130 : iIns M_Md_adultWords 130 (.iconst 1) 1 := (by decide +kernel : decode prog_14_method_60_code 130 = .ok (.iconst 1, 1))
theorem i_Md_adultWords_131 : iGoto M_Md_adultWords 131 135 := ⟨4, (by decide +kernel : decode prog_14_method_60_code 131 = .ok (.goto (4), 3)), by decide⟩
theorem i_Md_adultWords_134 : iIns M_Md_adultWords 134 (.iconst 0) 1 := (by decide +kernel : decode prog_14_method_60_code 134 = .ok (.iconst 0, 1))
theorem i_Md_adultWords_135 : iIns M_Md_adultWords 135 .iadd 1 := (by decide +kernel : decode prog_14_method_60_code 135 = .ok (.iadd, 1))
theorem i_Md_adultWords_136 : iIns M_Md_adultWords 136 (.istore 4) 2 := (by decide +kernel : decode prog_14_method_60_code 136 = .ok (.istore 4, 2))
theorem i_Md_adultWords_138 : iIns M_Md_adultWords 138 (.iinc 5 (1)) 3 := (by decide +kernel : decode prog_14_method_60_code 138 = .ok (.iinc 5 (1), 3))
theorem i_Md_adultWords_141 : iGoto M_Md_adultWords 141 73 := ⟨-68, (by decide +kernel : decode prog_14_method_60_code 141 = .ok (.goto (-68), 3)), by decide⟩
theorem i_Md_adultWords_144 : iIns M_Md_adultWords 144 (.iload 4) 2 := (by decide +kernel : decode prog_14_method_60_code 144 = .ok (.iload 4, 2))
theorem i_Md_adultWords_146 : iIns M_Md_adultWords 146 .ireturn 1 := (by decide +kernel : decode prog_14_method_60_code 146 = .ok (.ireturn, 1))
theorem i_Md_ways_0 : iIns M_Md_ways 0 (.aload_n 0) 1 := (by decide +kernel : decode prog_14_method_62_code 0 = .ok (.aload_n 0, 1))
theorem i_Md_ways_1 : iIns M_Md_ways 1 (.iload_n 1) 1 := (by decide +kernel : decode prog_14_method_62_code 1 = .ok (.iload_n 1, 1))
theorem i_Md_ways_2 : iCallS M_Md_ways 2 M_Md_isTable 1 := ⟨⟨112, (by decide +kernel : decode prog_14_method_62_code 2 = .ok (.invokestatic 112, 3)), lw_k6 156 rfl rfl⟩, sm_Md_isTable, me_Md_isTable, pn_Md_isTable⟩
theorem i_Md_ways_5 : iIf M_Md_ways 5 .eq 12 := ⟨7, (by decide +kernel : decode prog_14_method_62_code 5 = .ok (.ifCond .eq (7), 3)), by decide⟩
theorem i_Md_ways_8 : iIns M_Md_ways 8 (.iconst 0) 1 := (by decide +kernel : decode prog_14_method_62_code 8 = .ok (.iconst 0, 1))
theorem i_Md_ways_9 : iGoto M_Md_ways 9 13 := ⟨4, (by decide +kernel : decode prog_14_method_62_code 9 = .ok (.goto (4), 3)), by decide⟩
theorem i_Md_ways_12 : iIns M_Md_ways 12 (.iconst 1) 1 := (by decide +kernel : decode prog_14_method_62_code 12 = .ok (.iconst 1, 1))
theorem i_Md_ways_13 : iPutX M_Md_ways 13 14 0 .int := ⟨97, (by decide +kernel : decode prog_14_method_62_code 13 = .ok (.putfield 97, 3)), px_Md_Md_thrown⟩
theorem i_Md_ways_16 : iIns M_Md_ways 16 (.aload_n 0) 1 := (by decide +kernel : decode prog_14_method_62_code 16 = .ok (.aload_n 0, 1))
theorem i_Md_ways_17 : iGet M_Md_ways 17 14 0 := ⟨97, (by decide +kernel : decode prog_14_method_62_code 17 = .ok (.getfield 97, 3)), fl_Md_Md_thrown⟩
theorem i_Md_ways_20 : iIf M_Md_ways 20 .le 25 := ⟨5, (by decide +kernel : decode prog_14_method_62_code 20 = .ok (.ifCond .le (5), 3)), by decide⟩
theorem i_Md_ways_23 : iIns M_Md_ways 23 (.lconst 0) 1 := (by decide +kernel : decode prog_14_method_62_code 23 = .ok (.lconst 0, 1))
theorem i_Md_ways_24 : iIns M_Md_ways 24 .lreturn 1 := (by decide +kernel : decode prog_14_method_62_code 24 = .ok (.lreturn, 1))
theorem i_Md_ways_25 : iIns M_Md_ways 25 (.aload_n 0) 1 := (by decide +kernel : decode prog_14_method_62_code 25 = .ok (.aload_n 0, 1))
theorem i_Md_ways_26 : iGet M_Md_ways 26 14 2 := ⟨13, (by decide +kernel : decode prog_14_method_62_code 26 = .ok (.getfield 13, 3)), fl_Md_Md_word⟩
theorem i_Md_ways_29 : iIns M_Md_ways 29 (.iconst 0) 1 := (by decide +kernel : decode prog_14_method_62_code 29 = .ok (.iconst 0, 1))
theorem i_Md_ways_30 : iIns M_Md_ways 30 .iaload 1 := (by decide +kernel : decode prog_14_method_62_code 30 = .ok (.iaload, 1))
theorem i_Md_ways_31 : iIns M_Md_ways 31 (.istore_n 2) 1 := (by decide +kernel : decode prog_14_method_62_code 31 = .ok (.istore_n 2, 1))
theorem i_Md_ways_32 : iIns M_Md_ways 32 (.iload_n 2) 1 := (by decide +kernel : decode prog_14_method_62_code 32 = .ok (.iload_n 2, 1))
theorem i_Md_ways_33 : iIf M_Md_ways 33 .lt 300 := ⟨267, (by decide +kernel : decode prog_14_method_62_code 33 = .ok (.ifCond .lt (267), 3)), by decide⟩
theorem i_Md_ways_36 : iIns M_Md_ways 36 (.iconst 0) 1 := (by decide +kernel : decode prog_14_method_62_code 36 = .ok (.iconst 0, 1))
theorem i_Md_ways_37 : iIns M_Md_ways 37 (.istore_n 3) 1 := (by decide +kernel : decode prog_14_method_62_code 37 = .ok (.istore_n 3, 1))
theorem i_Md_ways_38 : iIns M_Md_ways 38 (.iload_n 3) 1 := (by decide +kernel : decode prog_14_method_62_code 38 = .ok (.iload_n 3, 1))
theorem i_Md_ways_39 : iIns M_Md_ways 39 (.aload_n 0) 1 := (by decide +kernel : decode prog_14_method_62_code 39 = .ok (.aload_n 0, 1))
theorem i_Md_ways_40 : iGet M_Md_ways 40 14 3 := ⟨16, (by decide +kernel : decode prog_14_method_62_code 40 = .ok (.getfield 16, 3)), fl_Md_Md_target⟩
theorem i_Md_ways_43 : iIns M_Md_ways 43 (.iconst 0) 1 := (by decide +kernel : decode prog_14_method_62_code 43 = .ok (.iconst 0, 1))
theorem i_Md_ways_44 : iIns M_Md_ways 44 .iaload 1 := (by decide +kernel : decode prog_14_method_62_code 44 = .ok (.iaload, 1))
theorem i_Md_ways_45 : iIcmp M_Md_ways 45 .gt 294 := ⟨249, (by decide +kernel : decode prog_14_method_62_code 45 = .ok (.if_icmp .gt (249), 3)), by decide⟩
theorem i_Md_ways_48 : iIns M_Md_ways 48 (.iload_n 2) 1 := (by decide +kernel : decode prog_14_method_62_code 48 = .ok (.iload_n 2, 1))
theorem i_Md_ways_49 : iIns M_Md_ways 49 (.aload_n 0) 1 := (by decide +kernel : decode prog_14_method_62_code 49 = .ok (.aload_n 0, 1))
theorem i_Md_ways_50 : iGet M_Md_ways 50 14 2 := ⟨13, (by decide +kernel : decode prog_14_method_62_code 50 = .ok (.getfield 13, 3)), fl_Md_Md_word⟩
theorem i_Md_ways_53 : iIns M_Md_ways 53 (.iconst 0) 1 := (by decide +kernel : decode prog_14_method_62_code 53 = .ok (.iconst 0, 1))
theorem i_Md_ways_54 : iIns M_Md_ways 54 .iaload 1 := (by decide +kernel : decode prog_14_method_62_code 54 = .ok (.iaload, 1))
theorem i_Md_ways_55 : iIcmp M_Md_ways 55 .ne 72 := ⟨17, (by decide +kernel : decode prog_14_method_62_code 55 = .ok (.if_icmp .ne (17), 3)), by decide⟩
theorem i_Md_ways_58 : iIns M_Md_ways 58 (.iload_n 3) 1 := (by decide +kernel : decode prog_14_method_62_code 58 = .ok (.iload_n 3, 1))
theorem i_Md_ways_59 : iIns M_Md_ways 59 (.aload_n 0) 1 := (by decide +kernel : decode prog_14_method_62_code 59 = .ok (.aload_n 0, 1))
theorem i_Md_ways_60 : iGet M_Md_ways 60 14 3 := ⟨16, (by decide +kernel : decode prog_14_method_62_code 60 = .ok (.getfield 16, 3)), fl_Md_Md_target⟩
theorem i_Md_ways_63 : iIns M_Md_ways 63 (.iconst 0) 1 := (by decide +kernel : decode prog_14_method_62_code 63 = .ok (.iconst 0, 1))
theorem i_Md_ways_64 : iIns M_Md_ways 64 .iaload 1 := (by decide +kernel : decode prog_14_method_62_code 64 = .ok (.iaload, 1))
theorem i_Md_ways_65 : iIcmp M_Md_ways 65 .ne 72 := ⟨7, (by decide +kernel : decode prog_14_method_62_code 65 = .ok (.if_icmp .ne (7), 3)), by decide⟩
theorem i_Md_ways_68 : iIns M_Md_ways 68 (.lconst 1) 1 := (by decide +kernel : decode prog_14_method_62_code 68 = .ok (.lconst 1, 1))
theorem i_Md_ways_69 : iGoto M_Md_ways 69 73 := ⟨4, (by decide +kernel : decode prog_14_method_62_code 69 = .ok (.goto (4), 3)), by decide⟩
theorem i_Md_ways_72 : iIns M_Md_ways 72 (.lconst 0) 1 := (by decide +kernel : decode prog_14_method_62_code 72 = .ok (.lconst 0, 1))
theorem i_Md_ways_73 : iIns M_Md_ways 73 (.lstore 4) 2 := (by decide +kernel : decode prog_14_method_62_code 73 = .ok (.lstore 4, 2))
theorem i_Md_ways_75 : iIns M_Md_ways 75 (.iload_n 2) 1 := (by decide +kernel : decode prog_14_method_62_code 75 = .ok (.iload_n 2, 1))
theorem i_Md_ways_76 : iIns M_Md_ways 76 (.aload_n 0) 1 := (by decide +kernel : decode prog_14_method_62_code 76 = .ok (.aload_n 0, 1))
theorem i_Md_ways_77 : iGet M_Md_ways 77 14 2 := ⟨13, (by decide +kernel : decode prog_14_method_62_code 77 = .ok (.getfield 13, 3)), fl_Md_Md_word⟩
theorem i_Md_ways_80 : iIns M_Md_ways 80 (.iconst 0) 1 := (by decide +kernel : decode prog_14_method_62_code 80 = .ok (.iconst 0, 1))
theorem i_Md_ways_81 : iIns M_Md_ways 81 .iaload 1 := (by decide +kernel : decode prog_14_method_62_code 81 = .ok (.iaload, 1))
theorem i_Md_ways_82 : iIcmp M_Md_ways 82 .ne 89 := ⟨7, (by decide +kernel : decode prog_14_method_62_code 82 = .ok (.if_icmp .ne (7), 3)), by decide⟩
theorem i_Md_ways_85 : iIns M_Md_ways 85 (.iconst (-1)) 1 := (by decide +kernel : decode prog_14_method_62_code 85 = .ok (.iconst (-1), 1))
theorem i_Md_ways_86 : iGoto M_Md_ways 86 101 := ⟨15, (by decide +kernel : decode prog_14_method_62_code 86 = .ok (.goto (15), 3)), by decide⟩
theorem i_Md_ways_89 : iIns M_Md_ways 89 (.aload_n 0) 1 := (by decide +kernel : decode prog_14_method_62_code 89 = .ok (.aload_n 0, 1))
theorem i_Md_ways_90 : iIns M_Md_ways 90 (.iload_n 1) 1 := (by decide +kernel : decode prog_14_method_62_code 90 = .ok (.iload_n 1, 1))
theorem i_Md_ways_91 : iIns M_Md_ways 91 (.aload_n 0) 1 := (by decide +kernel : decode prog_14_method_62_code 91 = .ok (.aload_n 0, 1))
theorem i_Md_ways_92 : iGet M_Md_ways 92 14 2 := ⟨13, (by decide +kernel : decode prog_14_method_62_code 92 = .ok (.getfield 13, 3)), fl_Md_Md_word⟩
theorem i_Md_ways_95 : iIns M_Md_ways 95 (.iload_n 2) 1 := (by decide +kernel : decode prog_14_method_62_code 95 = .ok (.iload_n 2, 1))
theorem i_Md_ways_96 : iIns M_Md_ways 96 (.iconst 1) 1 := (by decide +kernel : decode prog_14_method_62_code 96 = .ok (.iconst 1, 1))
theorem i_Md_ways_97 : iIns M_Md_ways 97 .iadd 1 := (by decide +kernel : decode prog_14_method_62_code 97 = .ok (.iadd, 1))
theorem i_Md_ways_98 : iCallV M_Md_ways 98 M_Md_ruled 3 14 := ⟨⟨165, (by decide +kernel : decode prog_14_method_62_code 98 = .ok (.invokevirtual 165, 3)), lw_k7 13 rfl rfl⟩, vm_Md_ruled, me_Md_ruled, pn_Md_ruled⟩
theorem i_Md_ways_101 : iIns M_Md_ways 101 (.istore 6) 2 := (by decide +kernel : decode prog_14_method_62_code 101 = .ok (.istore 6, 2))
theorem i_Md_ways_103 : iIns M_Md_ways 103 (.iload_n 2) 1 := (by decide +kernel : decode prog_14_method_62_code 103 = .ok (.iload_n 2, 1))
theorem i_Md_ways_104 : iIns M_Md_ways 104 (.aload_n 0) 1 := (by decide +kernel : decode prog_14_method_62_code 104 = .ok (.aload_n 0, 1))
theorem i_Md_ways_105 : iGet M_Md_ways 105 14 2 := ⟨13, (by decide +kernel : decode prog_14_method_62_code 105 = .ok (.getfield 13, 3)), fl_Md_Md_word⟩
theorem i_Md_ways_108 : iIns M_Md_ways 108 (.iconst 0) 1 := (by decide +kernel : decode prog_14_method_62_code 108 = .ok (.iconst 0, 1))
theorem i_Md_ways_109 : iIns M_Md_ways 109 .iaload 1 := (by decide +kernel : decode prog_14_method_62_code 109 = .ok (.iaload, 1))
theorem i_Md_ways_110 : iIcmp M_Md_ways 110 .ne 117 := ⟨7, (by decide +kernel : decode prog_14_method_62_code 110 = .ok (.if_icmp .ne (7), 3)), by decide⟩
theorem i_Md_ways_113 : iIns M_Md_ways 113 (.iconst 0) 1 := (by decide +kernel : decode prog_14_method_62_code 113 = .ok (.iconst 0, 1))
theorem i_Md_ways_114 : iGoto M_Md_ways 114 129 := ⟨15, (by decide +kernel : decode prog_14_method_62_code 114 = .ok (.goto (15), 3)), by decide⟩
theorem i_Md_ways_117 : iIns M_Md_ways 117 (.iload_n 1) 1 := (by decide +kernel : decode prog_14_method_62_code 117 = .ok (.iload_n 1, 1))
theorem i_Md_ways_118 : iIns M_Md_ways 118 (.aload_n 0) 1 := (by decide +kernel : decode prog_14_method_62_code 118 = .ok (.aload_n 0, 1))
theorem i_Md_ways_119 : iGet M_Md_ways 119 14 2 := ⟨13, (by decide +kernel : decode prog_14_method_62_code 119 = .ok (.getfield 13, 3)), fl_Md_Md_word⟩
theorem i_Md_ways_122 : iIns M_Md_ways 122 (.iload_n 2) 1 := (by decide +kernel : decode prog_14_method_62_code 122 = .ok (.iload_n 2, 1))
theorem i_Md_ways_123 : iIns M_Md_ways 123 (.iconst 1) 1 := (by decide +kernel : decode prog_14_method_62_code 123 = .ok (.iconst 1, 1))
theorem i_Md_ways_124 : iIns M_Md_ways 124 .iadd 1 := (by decide +kernel : decode prog_14_method_62_code 124 = .ok (.iadd, 1))
theorem i_Md_ways_125 : iIns M_Md_ways 125 .iaload 1 := (by decide +kernel : decode prog_14_method_62_code 125 = .ok (.iaload, 1))
theorem i_Md_ways_126 : iCallS M_Md_ways 126 M_Md_listAt 2 := ⟨⟨122, (by decide +kernel : decode prog_14_method_62_code 126 = .ok (.invokestatic 122, 3)), lw_k6 166 rfl rfl⟩, sm_Md_listAt, me_Md_listAt, pn_Md_listAt⟩
theorem i_Md_ways_129 : iIns M_Md_ways 129 (.istore 7) 2 := (by decide +kernel : decode prog_14_method_62_code 129 = .ok (.istore 7, 2))
theorem i_Md_ways_131 : iIns M_Md_ways 131 (.iload_n 2) 1 := (by decide +kernel : decode prog_14_method_62_code 131 = .ok (.iload_n 2, 1))
theorem i_Md_ways_132 : iIns M_Md_ways 132 (.aload_n 0) 1 := (by decide +kernel : decode prog_14_method_62_code 132 = .ok (.aload_n 0, 1))
theorem i_Md_ways_133 : iGet M_Md_ways 133 14 2 := ⟨13, (by decide +kernel : decode prog_14_method_62_code 133 = .ok (.getfield 13, 3)), fl_Md_Md_word⟩
theorem i_Md_ways_136 : iIns M_Md_ways 136 (.iconst 0) 1 := (by decide +kernel : decode prog_14_method_62_code 136 = .ok (.iconst 0, 1))
theorem i_Md_ways_137 : iIns M_Md_ways 137 .iaload 1 := (by decide +kernel : decode prog_14_method_62_code 137 = .ok (.iaload, 1))
theorem i_Md_ways_138 : iIcmp M_Md_ways 138 .ne 145 := ⟨7, (by decide +kernel : decode prog_14_method_62_code 138 = .ok (.if_icmp .ne (7), 3)), by decide⟩
theorem i_Md_ways_141 : iIns M_Md_ways 141 (.iconst 0) 1 := (by decide +kernel : decode prog_14_method_62_code 141 = .ok (.iconst 0, 1))
theorem i_Md_ways_142 : iGoto M_Md_ways 142 161 := ⟨19, (by decide +kernel : decode prog_14_method_62_code 142 = .ok (.goto (19), 3)), by decide⟩
theorem i_Md_ways_145 : iIns M_Md_ways 145 (.iload 6) 2 := (by decide +kernel : decode prog_14_method_62_code 145 = .ok (.iload 6, 2))
theorem i_Md_ways_147 : iIf M_Md_ways 147 .lt 154 := ⟨7, (by decide +kernel : decode prog_14_method_62_code 147 = .ok (.ifCond .lt (7), 3)), by decide⟩
theorem i_Md_ways_150 : iIns M_Md_ways 150 (.iconst 1) 1 := (by decide +kernel : decode prog_14_method_62_code 150 = .ok (.iconst 1, 1))
theorem i_Md_ways_151 : iGoto M_Md_ways 151 161 := ⟨10, (by decide +kernel : decode prog_14_method_62_code 151 = .ok (.goto (10), 3)), by decide⟩
theorem i_Md_ways_154 : iIns M_Md_ways 154 (.aload_n 0) 1 := (by decide +kernel : decode prog_14_method_62_code 154 = .ok (.aload_n 0, 1))
theorem i_Md_ways_155 : iGet M_Md_ways 155 14 1 := ⟨9, (by decide +kernel : decode prog_14_method_62_code 155 = .ok (.getfield 9, 3)), fl_Md_Md_tables⟩
theorem i_Md_ways_158 : iIns M_Md_ways 158 (.iload 7) 2 := (by decide +kernel : decode prog_14_method_62_code 158 = .ok (.iload 7, 2))
theorem i_Md_ways_160 : iIns M_Md_ways 160 .iaload 1 := (by decide +kernel : decode prog_14_method_62_code 160 = .ok (.iaload, 1))
theorem i_Md_ways_161 : iIns M_Md_ways 161 (.istore 8) 2 := (by decide +kernel : decode prog_14_method_62_code 161 = .ok (.istore 8, 2))
theorem i_Md_ways_163 : iIns M_Md_ways 163 (.iconst 0) 1 := (by decide +kernel : decode prog_14_method_62_code 163 = .ok (.iconst 0, 1))
theorem i_Md_ways_164 : iIns M_Md_ways 164 (.istore 9) 2 := (by decide +kernel : decode prog_14_method_62_code 164 = .ok (.istore 9, 2))
theorem i_Md_ways_166 : iIns M_Md_ways 166 (.iload 9) 2 := (by decide +kernel : decode prog_14_method_62_code 166 = .ok (.iload 9, 2))
theorem i_Md_ways_168 : iIns M_Md_ways 168 (.iload 8) 2 := (by decide +kernel : decode prog_14_method_62_code 168 = .ok (.iload 8, 2))
theorem i_Md_ways_170 : iIcmp M_Md_ways 170 .ge 262 := ⟨92, (by decide +kernel : decode prog_14_method_62_code 170 = .ok (.if_icmp .ge (92), 3)), by decide⟩
theorem i_Md_ways_173 : iIns M_Md_ways 173 (.lload 4) 2 := (by decide +kernel : decode prog_14_method_62_code 173 = .ok (.lload 4, 2))
theorem i_Md_ways_175 : iIns M_Md_ways 175 (.lconst 0) 1 := (by decide +kernel : decode prog_14_method_62_code 175 = .ok (.lconst 0, 1))
theorem i_Md_ways_176 : iIns M_Md_ways 176 .lcmp 1 := (by decide +kernel : decode prog_14_method_62_code 176 = .ok (.lcmp, 1))
theorem i_Md_ways_177 : iIf M_Md_ways 177 .lt 262 := ⟨85, (by decide +kernel : decode prog_14_method_62_code 177 = .ok (.ifCond .lt (85), 3)), by decide⟩
theorem i_Md_ways_180 : iIns M_Md_ways 180 (.iload 6) 2 := (by decide +kernel : decode prog_14_method_62_code 180 = .ok (.iload 6, 2))
theorem i_Md_ways_182 : iIf M_Md_ways 182 .lt 190 := ⟨8, (by decide +kernel : decode prog_14_method_62_code 182 = .ok (.ifCond .lt (8), 3)), by decide⟩
theorem i_Md_ways_185 : iIns M_Md_ways 185 (.iload 6) 2 := (by decide +kernel : decode prog_14_method_62_code 185 = .ok (.iload 6, 2))
theorem i_Md_ways_187 : iGoto M_Md_ways 187 197 := ⟨10, (by decide +kernel : decode prog_14_method_62_code 187 = .ok (.goto (10), 3)), by decide⟩
theorem i_Md_ways_190 : iIns M_Md_ways 190 (.iload 7) 2 := (by decide +kernel : decode prog_14_method_62_code 190 = .ok (.iload 7, 2))
theorem i_Md_ways_192 : iIns M_Md_ways 192 (.iload 9) 2 := (by decide +kernel : decode prog_14_method_62_code 192 = .ok (.iload 9, 2))
theorem i_Md_ways_194 : iCallS M_Md_ways 194 M_Md_productionAt 2 := ⟨⟨126, (by decide +kernel : decode prog_14_method_62_code 194 = .ok (.invokestatic 126, 3)), lw_k6 169 rfl rfl⟩, sm_Md_productionAt, me_Md_productionAt, pn_Md_productionAt⟩
theorem i_Md_ways_197 : iIns M_Md_ways 197 (.istore 10) 2 := (by decide +kernel : decode prog_14_method_62_code 197 = .ok (.istore 10, 2))
theorem i_Md_ways_199 : iIns M_Md_ways 199 (.aload_n 0) 1 := (by decide +kernel : decode prog_14_method_62_code 199 = .ok (.aload_n 0, 1))
theorem i_Md_ways_200 : iIns M_Md_ways 200 (.iload 10) 2 := (by decide +kernel : decode prog_14_method_62_code 200 = .ok (.iload 10, 2))
theorem i_Md_ways_202 : iIns M_Md_ways 202 (.iload_n 3) 1 := (by decide +kernel : decode prog_14_method_62_code 202 = .ok (.iload_n 3, 1))
theorem i_Md_ways_203 : iCallV M_Md_ways 203 M_Md_stands 2 14 := ⟨⟨240, (by decide +kernel : decode prog_14_method_62_code 203 = .ok (.invokevirtual 240, 3)), lw_k7 130 rfl rfl⟩, vm_Md_stands, me_Md_stands, pn_Md_stands⟩
theorem i_Md_ways_206 : iIf M_Md_ways 206 .eq 233 := ⟨27, (by decide +kernel : decode prog_14_method_62_code 206 = .ok (.ifCond .eq (27), 3)), by decide⟩
theorem i_Md_ways_209 : iIns M_Md_ways 209 (.aload_n 0) 1 := (by decide +kernel : decode prog_14_method_62_code 209 = .ok (.aload_n 0, 1))
theorem i_Md_ways_210 : iGet M_Md_ways 210 14 25 := ⟨72, (by decide +kernel : decode prog_14_method_62_code 210 = .ok (.getfield 72, 3)), fl_Md_Md_ways⟩
theorem i_Md_ways_213 : iIns M_Md_ways 213 (.bipush 61) 2 := (by decide +kernel : decode prog_14_method_62_code 213 = .ok (.bipush 61, 2))
theorem i_Md_ways_215 : iIns M_Md_ways 215 (.iload_n 2) 1 := (by decide +kernel : decode prog_14_method_62_code 215 = .ok (.iload_n 2, 1))
theorem i_Md_ways_216 : iIns M_Md_ways 216 (.iconst 1) 1 := (by decide +kernel : decode prog_14_method_62_code 216 = .ok (.iconst 1, 1))
theorem i_Md_ways_217 : iIns M_Md_ways 217 .iadd 1 := (by decide +kernel : decode prog_14_method_62_code 217 = .ok (.iadd, 1))
theorem i_Md_ways_218 : iIns M_Md_ways 218 .imul 1 := (by decide +kernel : decode prog_14_method_62_code 218 = .ok (.imul, 1))
theorem i_Md_ways_219 : iIns M_Md_ways 219 (.iload_n 3) 1 := (by decide +kernel : decode prog_14_method_62_code 219 = .ok (.iload_n 3, 1))
theorem i_Md_ways_220 : iIns M_Md_ways 220 .iadd 1 := (by decide +kernel : decode prog_14_method_62_code 220 = .ok (.iadd, 1))
theorem i_Md_ways_221 : iIns M_Md_ways 221 (.aload_n 0) 1 := (by decide +kernel : decode prog_14_method_62_code 221 = .ok (.aload_n 0, 1))
theorem i_Md_ways_222 : iGet M_Md_ways 222 14 1 := ⟨9, (by decide +kernel : decode prog_14_method_62_code 222 = .ok (.getfield 9, 3)), fl_Md_Md_tables⟩
theorem i_Md_ways_225 : iIns M_Md_ways 225 (.iload 10) 2 := (by decide +kernel : decode prog_14_method_62_code 225 = .ok (.iload 10, 2))
theorem i_Md_ways_227 : iIns M_Md_ways 227 .iaload 1 := (by decide +kernel : decode prog_14_method_62_code 227 = .ok (.iaload, 1))
theorem i_Md_ways_228 : iIns M_Md_ways 228 .iadd 1 := (by decide +kernel : decode prog_14_method_62_code 228 = .ok (.iadd, 1))
theorem i_Md_ways_229 : iIns M_Md_ways 229 .laload 1 := (by decide +kernel : decode prog_14_method_62_code 229 = .ok (.laload, 1))
theorem i_Md_ways_230 : iGoto M_Md_ways 230 234 := ⟨4, (by decide +kernel : decode prog_14_method_62_code 230 = .ok (.goto (4), 3)), by decide⟩
theorem i_Md_ways_233 : iIns M_Md_ways 233 (.lconst 0) 1 := (by decide +kernel : decode prog_14_method_62_code 233 = .ok (.lconst 0, 1))
theorem i_Md_ways_234 : iIns M_Md_ways 234 (.lstore 11) 2 := (by decide +kernel : decode prog_14_method_62_code 234 = .ok (.lstore 11, 2))
theorem i_Md_ways_236 : iIns M_Md_ways 236 (.lload 11) 2 := (by decide +kernel : decode prog_14_method_62_code 236 = .ok (.lload 11, 2))
theorem i_Md_ways_238 : iIns M_Md_ways 238 (.lconst 0) 1 := (by decide +kernel : decode prog_14_method_62_code 238 = .ok (.lconst 0, 1))
theorem i_Md_ways_239 : iIns M_Md_ways 239 .lcmp 1 := (by decide +kernel : decode prog_14_method_62_code 239 = .ok (.lcmp, 1))
theorem i_Md_ways_240 : iIf M_Md_ways 240 .ge 249 := ⟨9, (by decide +kernel : decode prog_14_method_62_code 240 = .ok (.ifCond .ge (9), 3)), by decide⟩
theorem i_Md_ways_243 : iLdcL M_Md_ways 243 (-1) := ⟨177, (by decide +kernel : decode prog_14_method_62_code 243 = .ok (.ldc2_w 177, 3)), lw_k7 45 rfl rfl⟩
theorem i_Md_ways_246 : iGoto M_Md_ways 246 254 := ⟨8, (by decide +kernel : decode prog_14_method_62_code 246 = .ok (.goto (8), 3)), by decide⟩
theorem i_Md_ways_249 : iIns M_Md_ways 249 (.lload 4) 2 := (by decide +kernel : decode prog_14_method_62_code 249 = .ok (.lload 4, 2))
theorem i_Md_ways_251 : iIns M_Md_ways 251 (.lload 11) 2 := (by decide +kernel : decode prog_14_method_62_code 251 = .ok (.lload 11, 2))
theorem i_Md_ways_253 : iIns M_Md_ways 253 .ladd 1 := (by decide +kernel : decode prog_14_method_62_code 253 = .ok (.ladd, 1))
theorem i_Md_ways_254 : iIns M_Md_ways 254 (.lstore 4) 2 := (by decide +kernel : decode prog_14_method_62_code 254 = .ok (.lstore 4, 2))
theorem i_Md_ways_256 : iIns M_Md_ways 256 (.iinc 9 (1)) 3 := (by decide +kernel : decode prog_14_method_62_code 256 = .ok (.iinc 9 (1), 3))
theorem i_Md_ways_259 : iGoto M_Md_ways 259 166 := ⟨-93, (by decide +kernel : decode prog_14_method_62_code 259 = .ok (.goto (-93), 3)), by decide⟩
theorem i_Md_ways_262 : iIns M_Md_ways 262 (.aload_n 0) 1 := (by decide +kernel : decode prog_14_method_62_code 262 = .ok (.aload_n 0, 1))
theorem i_Md_ways_263 : iGet M_Md_ways 263 14 25 := ⟨72, (by decide +kernel : decode prog_14_method_62_code 263 = .ok (.getfield 72, 3)), fl_Md_Md_ways⟩
theorem i_Md_ways_266 : iIns M_Md_ways 266 (.bipush 61) 2 := (by decide +kernel : decode prog_14_method_62_code 266 = .ok (.bipush 61, 2))
theorem i_Md_ways_268 : iIns M_Md_ways 268 (.iload_n 2) 1 := (by decide +kernel : decode prog_14_method_62_code 268 = .ok (.iload_n 2, 1))
theorem i_Md_ways_269 : iIns M_Md_ways 269 .imul 1 := (by decide +kernel : decode prog_14_method_62_code 269 = .ok (.imul, 1))
theorem i_Md_ways_270 : iIns M_Md_ways 270 (.iload_n 3) 1 := (by decide +kernel : decode prog_14_method_62_code 270 = .ok (.iload_n 3, 1))
theorem i_Md_ways_271 : iIns M_Md_ways 271 .iadd 1 := (by decide +kernel : decode prog_14_method_62_code 271 = .ok (.iadd, 1))
theorem i_Md_ways_272 : iIns M_Md_ways 272 (.lload 4) 2 := (by decide +kernel : decode prog_14_method_62_code 272 = .ok (.lload 4, 2))
theorem i_Md_ways_274 : iIns M_Md_ways 274 (.lconst 0) 1 := (by decide +kernel : decode prog_14_method_62_code 274 = .ok (.lconst 0, 1))
theorem i_Md_ways_275 : iIns M_Md_ways 275 .lcmp 1 := (by decide +kernel : decode prog_14_method_62_code 275 = .ok (.lcmp, 1))
theorem i_Md_ways_276 : iIf M_Md_ways 276 .ge 285 := ⟨9, (by decide +kernel : decode prog_14_method_62_code 276 = .ok (.ifCond .ge (9), 3)), by decide⟩
theorem i_Md_ways_279 : iLdcL M_Md_ways 279 (-1) := ⟨177, (by decide +kernel : decode prog_14_method_62_code 279 = .ok (.ldc2_w 177, 3)), lw_k7 45 rfl rfl⟩
theorem i_Md_ways_282 : iGoto M_Md_ways 282 287 := ⟨5, (by decide +kernel : decode prog_14_method_62_code 282 = .ok (.goto (5), 3)), by decide⟩
theorem i_Md_ways_285 : iIns M_Md_ways 285 (.lload 4) 2 := (by decide +kernel : decode prog_14_method_62_code 285 = .ok (.lload 4, 2))
theorem i_Md_ways_287 : iIns M_Md_ways 287 .lastore 1 := (by decide +kernel : decode prog_14_method_62_code 287 = .ok (.lastore, 1))
theorem i_Md_ways_288 : iIns M_Md_ways 288 (.iinc 3 (1)) 3 := (by decide +kernel : decode prog_14_method_62_code 288 = .ok (.iinc 3 (1), 3))
theorem i_Md_ways_291 : iGoto M_Md_ways 291 38 := ⟨-253, (by decide +kernel : decode prog_14_method_62_code 291 = .ok (.goto (-253), 3)), by decide⟩
theorem i_Md_ways_294 : iIns M_Md_ways 294 (.iinc 2 (-1)) 3 := (by decide +kernel : decode prog_14_method_62_code 294 = .ok (.iinc 2 (-1), 3))
theorem i_Md_ways_297 : iGoto M_Md_ways 297 32 := ⟨-265, (by decide +kernel : decode prog_14_method_62_code 297 = .ok (.goto (-265), 3)), by decide⟩
theorem i_Md_ways_300 : iIns M_Md_ways 300 (.aload_n 0) 1 := (by decide +kernel : decode prog_14_method_62_code 300 = .ok (.aload_n 0, 1))
theorem i_Md_ways_301 : iGet M_Md_ways 301 14 25 := ⟨72, (by decide +kernel : decode prog_14_method_62_code 301 = .ok (.getfield 72, 3)), fl_Md_Md_ways⟩
theorem i_Md_ways_304 : iIns M_Md_ways 304 (.iconst 0) 1 := (by decide +kernel : decode prog_14_method_62_code 304 = .ok (.iconst 0, 1))
theorem i_Md_ways_305 : iIns M_Md_ways 305 .laload 1 := (by decide +kernel : decode prog_14_method_62_code 305 = .ok (.laload, 1))
theorem i_Md_ways_306 : iIns M_Md_ways 306 (.lconst 0) 1 := (by decide +kernel : decode prog_14_method_62_code 306 = .ok (.lconst 0, 1))
theorem i_Md_ways_307 : iIns M_Md_ways 307 .lcmp 1 := (by decide +kernel : decode prog_14_method_62_code 307 = .ok (.lcmp, 1))
theorem i_Md_ways_308 : iIf M_Md_ways 308 .ge 320 := ⟨12, (by decide +kernel : decode prog_14_method_62_code 308 = .ok (.ifCond .ge (12), 3)), by decide⟩
theorem i_Md_ways_311 : iIns M_Md_ways 311 (.aload_n 0) 1 := (by decide +kernel : decode prog_14_method_62_code 311 = .ok (.aload_n 0, 1))
theorem i_Md_ways_312 : iIns M_Md_ways 312 (.iconst 2) 1 := (by decide +kernel : decode prog_14_method_62_code 312 = .ok (.iconst 2, 1))
theorem i_Md_ways_313 : iCallV M_Md_ways 313 M_Md_fails 1 14 := ⟨⟨105, (by decide +kernel : decode prog_14_method_62_code 313 = .ok (.invokevirtual 105, 3)), lw_k6 144 rfl rfl⟩, vm_Md_fails, me_Md_fails, pn_Md_fails⟩
theorem i_Md_ways_316 : iIns M_Md_ways 316 .i2l 1 := (by decide +kernel : decode prog_14_method_62_code 316 = .ok (.i2l, 1))
theorem i_Md_ways_317 : iGoto M_Md_ways 317 326 := ⟨9, (by decide +kernel : decode prog_14_method_62_code 317 = .ok (.goto (9), 3)), by decide⟩
theorem i_Md_ways_320 : iIns M_Md_ways 320 (.aload_n 0) 1 := (by decide +kernel : decode prog_14_method_62_code 320 = .ok (.aload_n 0, 1))
theorem i_Md_ways_321 : iGet M_Md_ways 321 14 25 := ⟨72, (by decide +kernel : decode prog_14_method_62_code 321 = .ok (.getfield 72, 3)), fl_Md_Md_ways⟩
theorem i_Md_ways_324 : iIns M_Md_ways 324 (.iconst 0) 1 := (by decide +kernel : decode prog_14_method_62_code 324 = .ok (.iconst 0, 1))
theorem i_Md_ways_325 : iIns M_Md_ways 325 .laload 1 := (by decide +kernel : decode prog_14_method_62_code 325 = .ok (.laload, 1))
theorem i_Md_ways_326 : iIns M_Md_ways 326 .lreturn 1 := (by decide +kernel : decode prog_14_method_62_code 326 = .ok (.lreturn, 1))
theorem i_Md_stands_0 : iIns M_Md_stands 0 (.iload_n 2) 1 := (by decide +kernel : decode prog_14_method_61_code 0 = .ok (.iload_n 2, 1))
theorem i_Md_stands_1 : iIns M_Md_stands 1 (.aload_n 0) 1 := (by decide +kernel : decode prog_14_method_61_code 1 = .ok (.aload_n 0, 1))
theorem i_Md_stands_2 : iGet M_Md_stands 2 14 1 := ⟨9, (by decide +kernel : decode prog_14_method_61_code 2 = .ok (.getfield 9, 3)), fl_Md_Md_tables⟩
theorem i_Md_stands_5 : iIns M_Md_stands 5 (.iload_n 1) 1 := (by decide +kernel : decode prog_14_method_61_code 5 = .ok (.iload_n 1, 1))
theorem i_Md_stands_6 : iIns M_Md_stands 6 .iaload 1 := (by decide +kernel : decode prog_14_method_61_code 6 = .ok (.iaload, 1))
theorem i_Md_stands_7 : iIns M_Md_stands 7 .iadd 1 := (by decide +kernel : decode prog_14_method_61_code 7 = .ok (.iadd, 1))
theorem i_Md_stands_8 : iIns M_Md_stands 8 (.aload_n 0) 1 := (by decide +kernel : decode prog_14_method_61_code 8 = .ok (.aload_n 0, 1))
theorem i_Md_stands_9 : iGet M_Md_stands 9 14 3 := ⟨16, (by decide +kernel : decode prog_14_method_61_code 9 = .ok (.getfield 16, 3)), fl_Md_Md_target⟩
theorem i_Md_stands_12 : iIns M_Md_stands 12 (.iconst 0) 1 := (by decide +kernel : decode prog_14_method_61_code 12 = .ok (.iconst 0, 1))
theorem i_Md_stands_13 : iIns M_Md_stands 13 .iaload 1 := (by decide +kernel : decode prog_14_method_61_code 13 = .ok (.iaload, 1))
theorem i_Md_stands_14 : iIcmp M_Md_stands 14 .gt 21 := ⟨7, (by decide +kernel : decode prog_14_method_61_code 14 = .ok (.if_icmp .gt (7), 3)), by decide⟩
theorem i_Md_stands_17 : iIns M_Md_stands 17 (.iconst 1) 1 := (by decide +kernel : decode prog_14_method_61_code 17 = .ok (.iconst 1, 1))
theorem i_Md_stands_18 : iGoto M_Md_stands 18 22 := ⟨4, (by decide +kernel : decode prog_14_method_61_code 18 = .ok (.goto (4), 3)), by decide⟩
theorem i_Md_stands_21 : iIns M_Md_stands 21 (.iconst 0) 1 := (by decide +kernel : decode prog_14_method_61_code 21 = .ok (.iconst 0, 1))
theorem i_Md_stands_22 : iIns M_Md_stands 22 (.istore_n 3) 1 := (by decide +kernel : decode prog_14_method_61_code 22 = .ok (.istore_n 3, 1))
theorem i_Md_stands_23 : iIns M_Md_stands 23 (.iconst 0) 1 := (by decide +kernel : decode prog_14_method_61_code 23 = .ok (.iconst 0, 1))
theorem i_Md_stands_24 : iIns M_Md_stands 24 (.istore 4) 2 := (by decide +kernel : decode prog_14_method_61_code 24 = .ok (.istore 4, 2))
theorem i_Md_stands_26 : iIns M_Md_stands 26 (.iload 4) 2 := (by decide +kernel : decode prog_14_method_61_code 26 = .ok (.iload 4, 2))
theorem i_Md_stands_28 : iIns M_Md_stands 28 (.aload_n 0) 1 := (by decide +kernel : decode prog_14_method_61_code 28 = .ok (.aload_n 0, 1))
theorem i_Md_stands_29 : iGet M_Md_stands 29 14 1 := ⟨9, (by decide +kernel : decode prog_14_method_61_code 29 = .ok (.getfield 9, 3)), fl_Md_Md_tables⟩
theorem i_Md_stands_32 : iIns M_Md_stands 32 (.iload_n 1) 1 := (by decide +kernel : decode prog_14_method_61_code 32 = .ok (.iload_n 1, 1))
theorem i_Md_stands_33 : iIns M_Md_stands 33 .iaload 1 := (by decide +kernel : decode prog_14_method_61_code 33 = .ok (.iaload, 1))
theorem i_Md_stands_34 : iIcmp M_Md_stands 34 .ge 78 := ⟨44, (by decide +kernel : decode prog_14_method_61_code 34 = .ok (.if_icmp .ge (44), 3)), by decide⟩
theorem i_Md_stands_37 : iIns M_Md_stands 37 (.iload_n 3) 1 := (by decide +kernel : decode prog_14_method_61_code 37 = .ok (.iload_n 3, 1))
theorem i_Md_stands_38 : iIf M_Md_stands 38 .eq 78 := ⟨40, (by decide +kernel : decode prog_14_method_61_code 38 = .ok (.ifCond .eq (40), 3)), by decide⟩
theorem i_Md_stands_41 : iIns M_Md_stands 41 (.aload_n 0) 1 := (by decide +kernel : decode prog_14_method_61_code 41 = .ok (.aload_n 0, 1))
theorem i_Md_stands_42 : iGet M_Md_stands 42 14 1 := ⟨9, (by decide +kernel : decode prog_14_method_61_code 42 = .ok (.getfield 9, 3)), fl_Md_Md_tables⟩
theorem i_Md_stands_45 : iIns M_Md_stands 45 (.iload_n 1) 1 := (by decide +kernel : decode prog_14_method_61_code 45 = .ok (.iload_n 1, 1))
theorem i_Md_stands_46 : iIns M_Md_stands 46 (.iconst 1) 1 := (by decide +kernel : decode prog_14_method_61_code 46 = .ok (.iconst 1, 1))
theorem i_Md_stands_47 : iIns M_Md_stands 47 .iadd 1 := (by decide +kernel : decode prog_14_method_61_code 47 = .ok (.iadd, 1))
theorem i_Md_stands_48 : iIns M_Md_stands 48 (.iload 4) 2 := (by decide +kernel : decode prog_14_method_61_code 48 = .ok (.iload 4, 2))
theorem i_Md_stands_50 : iIns M_Md_stands 50 .iadd 1 := (by decide +kernel : decode prog_14_method_61_code 50 = .ok (.iadd, 1))
theorem i_Md_stands_51 : iIns M_Md_stands 51 .iaload 1 := (by decide +kernel : decode prog_14_method_61_code 51 = .ok (.iaload, 1))
theorem i_Md_stands_52 : iIns M_Md_stands 52 (.aload_n 0) 1 := (by decide +kernel : decode prog_14_method_61_code 52 = .ok (.aload_n 0, 1))
theorem i_Md_stands_53 : iGet M_Md_stands 53 14 3 := ⟨16, (by decide +kernel : decode prog_14_method_61_code 53 = .ok (.getfield 16, 3)), fl_Md_Md_target⟩
theorem i_Md_stands_56 : iIns M_Md_stands 56 (.iconst 1) 1 := (by decide +kernel : decode prog_14_method_61_code 56 = .ok (.iconst 1, 1))
theorem i_Md_stands_57 : iIns M_Md_stands 57 (.iload_n 2) 1 := (by decide +kernel : decode prog_14_method_61_code 57 = .ok (.iload_n 2, 1))
theorem i_Md_stands_58 : iIns M_Md_stands 58 .iadd 1 := (by decide +kernel : decode prog_14_method_61_code 58 = .ok (.iadd, 1))
theorem i_Md_stands_59 : iIns M_Md_stands 59 (.iload 4) 2 := (by decide +kernel : decode prog_14_method_61_code 59 = .ok (.iload 4, 2))
theorem i_Md_stands_61 : iIns M_Md_stands 61 .iadd 1 := (by decide +kernel : decode prog_14_method_61_code 61 = .ok (.iadd, 1))
theorem i_Md_stands_62 : iIns M_Md_stands 62 .iaload 1 := (by decide +kernel : decode prog_14_method_61_code 62 = .ok (.iaload, 1))
theorem i_Md_stands_63 : iIcmp M_Md_stands 63 .ne 70 := ⟨7, (by decide +kernel : decode prog_14_method_61_code 63 = .ok (.if_icmp .ne (7), 3)), by decide⟩
theorem i_Md_stands_66 : iIns M_Md_stands 66 (.iconst 1) 1 := (by decide +kernel : decode prog_14_method_61_code 66 = .ok (.iconst 1, 1))
theorem i_Md_stands_67 : iGoto M_Md_stands 67 71 := ⟨4, (by decide +kernel : decode prog_14_method_61_code 67 = .ok (.goto (4), 3)), by decide⟩
theorem i_Md_stands_70 : iIns M_Md_stands 70 (.iconst 0) 1 := (by decide +kernel : decode prog_14_method_61_code 70 = .ok (.iconst 0, 1))
theorem i_Md_stands_71 : iIns M_Md_stands 71 (.istore_n 3) 1 := (by decide +kernel : decode prog_14_method_61_code 71 = .ok (.istore_n 3, 1))
theorem i_Md_stands_72 : iIns M_Md_stands 72 (.iinc 4 (1)) 3 := (by decide +kernel : decode prog_14_method_61_code 72 = .ok (.iinc 4 (1), 3))
theorem i_Md_stands_75 : iGoto M_Md_stands 75 26 := ⟨-49, (by decide +kernel : decode prog_14_method_61_code 75 = .ok (.goto (-49), 3)), by decide⟩
theorem i_Md_stands_78 : iIns M_Md_stands 78 (.iload_n 3) 1 := (by decide +kernel : decode prog_14_method_61_code 78 = .ok (.iload_n 3, 1))
theorem i_Md_stands_79 : iIns M_Md_stands 79 .ireturn 1 := (by decide +kernel : decode prog_14_method_61_code 79 = .ok (.ireturn, 1))
theorem i_Md_sequenceCount_0 : iIns M_Md_sequenceCount 0 (.aload_n 0) 1 := (by decide +kernel : decode prog_14_method_66_code 0 = .ok (.aload_n 0, 1))
theorem i_Md_sequenceCount_1 : iIns M_Md_sequenceCount 1 (.iload_n 1) 1 := (by decide +kernel : decode prog_14_method_66_code 1 = .ok (.iload_n 1, 1))
theorem i_Md_sequenceCount_2 : iIns M_Md_sequenceCount 2 (.iconst 0) 1 := (by decide +kernel : decode prog_14_method_66_code 2 = .ok (.iconst 0, 1))
theorem i_Md_sequenceCount_3 : iIns M_Md_sequenceCount 3 (.iconst 5) 1 := (by decide +kernel : decode prog_14_method_66_code 3 = .ok (.iconst 5, 1))
theorem i_Md_sequenceCount_4 : iCallS M_Md_sequenceCount 4 M_Md_in 3 := ⟨⟨101, (by decide +kernel : decode prog_14_method_66_code 4 = .ok (.invokestatic 101, 3)), lw_k6 141 rfl rfl⟩, sm_Md_in, me_Md_in, pn_Md_in⟩
theorem i_Md_sequenceCount_7 : iIf M_Md_sequenceCount 7 .ne 14 := ⟨7, (by decide +kernel : decode prog_14_method_66_code 7 = .ok (.ifCond .ne (7), 3)), by decide⟩
theorem i_Md_sequenceCount_10 : iIns M_Md_sequenceCount 10 (.iconst 1) 1 := (by decide +kernel : decode prog_14_method_66_code 10 = .ok (.iconst 1, 1))
theorem i_Md_sequenceCount_11 : iGoto M_Md_sequenceCount 11 26 := ⟨15, (by decide +kernel : decode prog_14_method_66_code 11 = .ok (.goto (15), 3)), by decide⟩
theorem i_Md_sequenceCount_14 : iIns M_Md_sequenceCount 14 (.aload_n 0) 1 := (by decide +kernel : decode prog_14_method_66_code 14 = .ok (.aload_n 0, 1))
theorem i_Md_sequenceCount_15 : iCallV M_Md_sequenceCount 15 M_Md_allDeterministic 0 14 := ⟨⟨246, (by decide +kernel : decode prog_14_method_66_code 15 = .ok (.invokevirtual 246, 3)), lw_k7 138 rfl rfl⟩, vm_Md_allDeterministic, me_Md_allDeterministic, pn_Md_allDeterministic⟩
theorem i_Md_sequenceCount_18 : iIf M_Md_sequenceCount 18 .ne 25 := ⟨7, (by decide +kernel : decode prog_14_method_66_code 18 = .ok (.ifCond .ne (7), 3)), by decide⟩
theorem i_Md_sequenceCount_21 : iIns M_Md_sequenceCount 21 (.iconst 2) 1 := (by decide +kernel : decode prog_14_method_66_code 21 = .ok (.iconst 2, 1))
theorem i_Md_sequenceCount_22 : iGoto M_Md_sequenceCount 22 26 := ⟨4, (by decide +kernel : decode prog_14_method_66_code 22 = .ok (.goto (4), 3)), by decide⟩
theorem i_Md_sequenceCount_25 : iIns M_Md_sequenceCount 25 (.iconst 0) 1 := (by decide +kernel : decode prog_14_method_66_code 25 = .ok (.iconst 0, 1))
theorem i_Md_sequenceCount_26 : iPutX M_Md_sequenceCount 26 14 0 .int := ⟨97, (by decide +kernel : decode prog_14_method_66_code 26 = .ok (.putfield 97, 3)), px_Md_Md_thrown⟩
theorem i_Md_sequenceCount_29 : iIns M_Md_sequenceCount 29 (.iconst 0) 1 := (by decide +kernel : decode prog_14_method_66_code 29 = .ok (.iconst 0, 1))
theorem i_Md_sequenceCount_30 : iIns M_Md_sequenceCount 30 (.istore_n 2) 1 := (by decide +kernel : decode prog_14_method_66_code 30 = .ok (.istore_n 2, 1))
theorem i_Md_sequenceCount_31 : iIns M_Md_sequenceCount 31 (.iconst 0) 1 := (by decide +kernel : decode prog_14_method_66_code 31 = .ok (.iconst 0, 1))
theorem i_Md_sequenceCount_32 : iIns M_Md_sequenceCount 32 (.istore_n 3) 1 := (by decide +kernel : decode prog_14_method_66_code 32 = .ok (.istore_n 3, 1))
theorem i_Md_sequenceCount_33 : iIns M_Md_sequenceCount 33 (.aload_n 0) 1 := (by decide +kernel : decode prog_14_method_66_code 33 = .ok (.aload_n 0, 1))
theorem i_Md_sequenceCount_34 : iGet M_Md_sequenceCount 34 14 0 := ⟨97, (by decide +kernel : decode prog_14_method_66_code 34 = .ok (.getfield 97, 3)), fl_Md_Md_thrown⟩
theorem i_Md_sequenceCount_37 : iIf M_Md_sequenceCount 37 .ne 71 := ⟨34, (by decide +kernel : decode prog_14_method_66_code 37 = .ok (.ifCond .ne (34), 3)), by decide⟩
theorem i_Md_sequenceCount_40 : iIns M_Md_sequenceCount 40 (.iload_n 3) 1 := (by decide +kernel : decode prog_14_method_66_code 40 = .ok (.iload_n 3, 1))
theorem i_Md_sequenceCount_41 : iIns M_Md_sequenceCount 41 (.iload_n 1) 1 := (by decide +kernel : decode prog_14_method_66_code 41 = .ok (.iload_n 1, 1))
theorem i_Md_sequenceCount_42 : iCallS M_Md_sequenceCount 42 M_Md_power 1 := ⟨⟨243, (by decide +kernel : decode prog_14_method_66_code 42 = .ok (.invokestatic 243, 3)), lw_k7 142 rfl rfl⟩, sm_Md_power, me_Md_power, pn_Md_power⟩
theorem i_Md_sequenceCount_45 : iIcmp M_Md_sequenceCount 45 .ge 71 := ⟨26, (by decide +kernel : decode prog_14_method_66_code 45 = .ok (.if_icmp .ge (26), 3)), by decide⟩
theorem i_Md_sequenceCount_48 : iIns M_Md_sequenceCount 48 (.iload_n 2) 1 := (by decide +kernel : decode prog_14_method_66_code 48 = .ok (.iload_n 2, 1))
theorem i_Md_sequenceCount_49 : iIns M_Md_sequenceCount 49 (.aload_n 0) 1 := (by decide +kernel : decode prog_14_method_66_code 49 = .ok (.aload_n 0, 1))
theorem i_Md_sequenceCount_50 : iIns M_Md_sequenceCount 50 (.iload_n 3) 1 := (by decide +kernel : decode prog_14_method_66_code 50 = .ok (.iload_n 3, 1))
theorem i_Md_sequenceCount_51 : iIns M_Md_sequenceCount 51 (.iload_n 1) 1 := (by decide +kernel : decode prog_14_method_66_code 51 = .ok (.iload_n 1, 1))
theorem i_Md_sequenceCount_52 : iCallV M_Md_sequenceCount 52 M_Md_reaches 2 14 := ⟨⟨250, (by decide +kernel : decode prog_14_method_66_code 52 = .ok (.invokevirtual 250, 3)), lw_k7 145 rfl rfl⟩, vm_Md_reaches, me_Md_reaches, pn_Md_reaches⟩
theorem i_Md_sequenceCount_55 : iIf M_Md_sequenceCount 55 .eq 62 := ⟨7, (by decide +kernel : decode prog_14_method_66_code 55 = .ok (.ifCond .eq (7), 3)), by decide⟩
theorem i_Md_sequenceCount_58 : iIns M_Md_sequenceCount 58 (.iconst 1) 1 := (by decide +kernel : decode prog_14_method_66_code 58 = .ok (.iconst 1, 1))
theorem i_Md_sequenceCount_59 : iGoto M_Md_sequenceCount 59 63 := ⟨4, (by decide +kernel : decode prog_14_method_66_code 59 = .ok (.goto (4), 3)), by decide⟩
theorem i_Md_sequenceCount_62 : iIns M_Md_sequenceCount 62 (.iconst 0) 1 := (by decide +kernel : decode prog_14_method_66_code 62 = .ok (.iconst 0, 1))
theorem i_Md_sequenceCount_63 : iIns M_Md_sequenceCount 63 .iadd 1 := (by decide +kernel : decode prog_14_method_66_code 63 = .ok (.iadd, 1))
theorem i_Md_sequenceCount_64 : iIns M_Md_sequenceCount 64 (.istore_n 2) 1 := (by decide +kernel : decode prog_14_method_66_code 64 = .ok (.istore_n 2, 1))
theorem i_Md_sequenceCount_65 : iIns M_Md_sequenceCount 65 (.iinc 3 (1)) 3 := (by decide +kernel : decode prog_14_method_66_code 65 = .ok (.iinc 3 (1), 3))
theorem i_Md_sequenceCount_68 : iGoto M_Md_sequenceCount 68 33 := ⟨-35, (by decide +kernel : decode prog_14_method_66_code 68 = .ok (.goto (-35), 3)), by decide⟩
theorem i_Md_sequenceCount_71 : iIns M_Md_sequenceCount 71 (.iload_n 2) 1 := (by decide +kernel : decode prog_14_method_66_code 71 = .ok (.iload_n 2, 1))
theorem i_Md_sequenceCount_72 : iIns M_Md_sequenceCount 72 .ireturn 1 := (by decide +kernel : decode prog_14_method_66_code 72 = .ok (.ireturn, 1))
theorem i_Md_allDeterministic_0 : iIns M_Md_allDeterministic 0 (.iconst 1) 1 := (by decide +kernel : decode prog_14_method_63_code 0 = .ok (.iconst 1, 1))
theorem i_Md_allDeterministic_1 : iIns M_Md_allDeterministic 1 (.istore_n 1) 1 := (by decide +kernel : decode prog_14_method_63_code 1 = .ok (.istore_n 1, 1))
theorem i_Md_allDeterministic_2 : iIns M_Md_allDeterministic 2 (.iconst 0) 1 := (by decide +kernel : decode prog_14_method_63_code 2 = .ok (.iconst 0, 1))
theorem i_Md_allDeterministic_3 : iIns M_Md_allDeterministic 3 (.istore_n 2) 1 := (by decide +kernel : decode prog_14_method_63_code 3 = .ok (.istore_n 2, 1))
theorem i_Md_allDeterministic_4 : iIns M_Md_allDeterministic 4 (.iload_n 2) 1 := (by decide +kernel : decode prog_14_method_63_code 4 = .ok (.iload_n 2, 1))
theorem i_Md_allDeterministic_5 : iIns M_Md_allDeterministic 5 (.iconst 3) 1 := (by decide +kernel : decode prog_14_method_63_code 5 = .ok (.iconst 3, 1))
theorem i_Md_allDeterministic_6 : iIcmp M_Md_allDeterministic 6 .ge 33 := ⟨27, (by decide +kernel : decode prog_14_method_63_code 6 = .ok (.if_icmp .ge (27), 3)), by decide⟩
theorem i_Md_allDeterministic_9 : iIns M_Md_allDeterministic 9 (.iload_n 1) 1 := (by decide +kernel : decode prog_14_method_63_code 9 = .ok (.iload_n 1, 1))
theorem i_Md_allDeterministic_10 : iIf M_Md_allDeterministic 10 .eq 25 := ⟨15, (by decide +kernel : decode prog_14_method_63_code 10 = .ok (.ifCond .eq (15), 3)), by decide⟩
theorem i_Md_allDeterministic_13 : iIns M_Md_allDeterministic 13 (.aload_n 0) 1 := (by decide +kernel : decode prog_14_method_63_code 13 = .ok (.aload_n 0, 1))
theorem i_Md_allDeterministic_14 : iIns M_Md_allDeterministic 14 (.iload_n 2) 1 := (by decide +kernel : decode prog_14_method_63_code 14 = .ok (.iload_n 2, 1))
theorem i_Md_allDeterministic_15 : iCallV M_Md_allDeterministic 15 M_Md_deterministic 1 14 := ⟨⟨152, (by decide +kernel : decode prog_14_method_63_code 15 = .ok (.invokevirtual 152, 3)), lw_k6 210 rfl rfl⟩, vm_Md_deterministic, me_Md_deterministic, pn_Md_deterministic⟩
theorem i_Md_allDeterministic_18 : iIf M_Md_allDeterministic 18 .eq 25 := ⟨7, (by decide +kernel : decode prog_14_method_63_code 18 = .ok (.ifCond .eq (7), 3)), by decide⟩
theorem i_Md_allDeterministic_21 : iIns M_Md_allDeterministic 21 (.iconst 1) 1 := (by decide +kernel : decode prog_14_method_63_code 21 = .ok (.iconst 1, 1))
theorem i_Md_allDeterministic_22 : iGoto M_Md_allDeterministic 22 26 := ⟨4, (by decide +kernel : decode prog_14_method_63_code 22 = .ok (.goto (4), 3)), by decide⟩
theorem i_Md_allDeterministic_25 : iIns M_Md_allDeterministic 25 (.iconst 0) 1 := (by decide +kernel : decode prog_14_method_63_code 25 = .ok (.iconst 0, 1))
theorem i_Md_allDeterministic_26 : iIns M_Md_allDeterministic 26 (.istore_n 1) 1 := (by decide +kernel : decode prog_14_method_63_code 26 = .ok (.istore_n 1, 1))
theorem i_Md_allDeterministic_27 : iIns M_Md_allDeterministic 27 (.iinc 2 (1)) 3 := (by decide +kernel : decode prog_14_method_63_code 27 = .ok (.iinc 2 (1), 3))
theorem i_Md_allDeterministic_30 : iGoto M_Md_allDeterministic 30 4 := ⟨-26, (by decide +kernel : decode prog_14_method_63_code 30 = .ok (.goto (-26), 3)), by decide⟩
theorem i_Md_allDeterministic_33 : iIns M_Md_allDeterministic 33 (.iload_n 1) 1 := (by decide +kernel : decode prog_14_method_63_code 33 = .ok (.iload_n 1, 1))
theorem i_Md_allDeterministic_34 : iIns M_Md_allDeterministic 34 .ireturn 1 := (by decide +kernel : decode prog_14_method_63_code 34 = .ok (.ireturn, 1))
theorem i_Md_power_0 : iIns M_Md_power 0 (.iconst 1) 1 := (by decide +kernel : decode prog_14_method_64_code 0 = .ok (.iconst 1, 1))
theorem i_Md_power_1 : iIns M_Md_power 1 (.istore_n 1) 1 := (by decide +kernel : decode prog_14_method_64_code 1 = .ok (.istore_n 1, 1))
theorem i_Md_power_2 : iIns M_Md_power 2 (.iconst 0) 1 := (by decide +kernel : decode prog_14_method_64_code 2 = .ok (.iconst 0, 1))
theorem i_Md_power_3 : iIns M_Md_power 3 (.istore_n 2) 1 := (by decide +kernel : decode prog_14_method_64_code 3 = .ok (.istore_n 2, 1))
theorem i_Md_power_4 : iIns M_Md_power 4 (.iload_n 2) 1 := (by decide +kernel : decode prog_14_method_64_code 4 = .ok (.iload_n 2, 1))
theorem i_Md_power_5 : iIns M_Md_power 5 (.iload_n 0) 1 := (by decide +kernel : decode prog_14_method_64_code 5 = .ok (.iload_n 0, 1))
theorem i_Md_power_6 : iIcmp M_Md_power 6 .ge 19 := ⟨13, (by decide +kernel : decode prog_14_method_64_code 6 = .ok (.if_icmp .ge (13), 3)), by decide⟩
theorem i_Md_power_9 : iIns M_Md_power 9 (.iload_n 1) 1 := (by decide +kernel : decode prog_14_method_64_code 9 = .ok (.iload_n 1, 1))
theorem i_Md_power_10 : iIns M_Md_power 10 (.iconst 3) 1 := (by decide +kernel : decode prog_14_method_64_code 10 = .ok (.iconst 3, 1))
theorem i_Md_power_11 : iIns M_Md_power 11 .imul 1 := (by decide +kernel : decode prog_14_method_64_code 11 = .ok (.imul, 1))
theorem i_Md_power_12 : iIns M_Md_power 12 (.istore_n 1) 1 := (by decide +kernel : decode prog_14_method_64_code 12 = .ok (.istore_n 1, 1))
theorem i_Md_power_13 : iIns M_Md_power 13 (.iinc 2 (1)) 3 := (by decide +kernel : decode prog_14_method_64_code 13 = .ok (.iinc 2 (1), 3))
theorem i_Md_power_16 : iGoto M_Md_power 16 4 := ⟨-12, (by decide +kernel : decode prog_14_method_64_code 16 = .ok (.goto (-12), 3)), by decide⟩
theorem i_Md_power_19 : iIns M_Md_power 19 (.iload_n 1) 1 := (by decide +kernel : decode prog_14_method_64_code 19 = .ok (.iload_n 1, 1))
theorem i_Md_power_20 : iIns M_Md_power 20 .ireturn 1 := (by decide +kernel : decode prog_14_method_64_code 20 = .ok (.ireturn, 1))
theorem i_Md_reaches_0 : iIns M_Md_reaches 0 (.aload_n 0) 1 := (by decide +kernel : decode prog_14_method_65_code 0 = .ok (.aload_n 0, 1))
theorem i_Md_reaches_1 : iGet M_Md_reaches 1 14 2 := ⟨13, (by decide +kernel : decode prog_14_method_65_code 1 = .ok (.getfield 13, 3)), fl_Md_Md_word⟩
theorem i_Md_reaches_4 : iIns M_Md_reaches 4 (.iconst 0) 1 := (by decide +kernel : decode prog_14_method_65_code 4 = .ok (.iconst 0, 1))
theorem i_Md_reaches_5 : iIns M_Md_reaches 5 (.aload_n 0) 1 := (by decide +kernel : decode prog_14_method_65_code 5 = .ok (.aload_n 0, 1))
theorem i_Md_reaches_6 : iGet M_Md_reaches 6 14 24 := ⟨69, (by decide +kernel : decode prog_14_method_65_code 6 = .ok (.getfield 69, 3)), fl_Md_Md_trial⟩
theorem i_Md_reaches_9 : iIns M_Md_reaches 9 (.iconst 0) 1 := (by decide +kernel : decode prog_14_method_65_code 9 = .ok (.iconst 0, 1))
theorem i_Md_reaches_10 : iIns M_Md_reaches 10 (.bipush 61) 2 := (by decide +kernel : decode prog_14_method_65_code 10 = .ok (.bipush 61, 2))
theorem i_Md_reaches_12 : iCpy M_Md_reaches 12 := ⟨146, (by decide +kernel : decode prog_14_method_65_code 12 = .ok (.invokestatic 146, 3)), lw_k6 205 rfl rfl⟩
theorem i_Md_reaches_15 : iIns M_Md_reaches 15 (.iload_n 2) 1 := (by decide +kernel : decode prog_14_method_65_code 15 = .ok (.iload_n 2, 1))
theorem i_Md_reaches_16 : iIns M_Md_reaches 16 (.iconst 1) 1 := (by decide +kernel : decode prog_14_method_65_code 16 = .ok (.iconst 1, 1))
theorem i_Md_reaches_17 : iIns M_Md_reaches 17 .isub 1 := (by decide +kernel : decode prog_14_method_65_code 17 = .ok (.isub, 1))
theorem i_Md_reaches_18 : iIns M_Md_reaches 18 (.istore_n 3) 1 := (by decide +kernel : decode prog_14_method_65_code 18 = .ok (.istore_n 3, 1))
theorem i_Md_reaches_19 : iIns M_Md_reaches 19 (.iload_n 3) 1 := (by decide +kernel : decode prog_14_method_65_code 19 = .ok (.iload_n 3, 1))
theorem i_Md_reaches_20 : iIf M_Md_reaches 20 .lt 69 := ⟨49, (by decide +kernel : decode prog_14_method_65_code 20 = .ok (.ifCond .lt (49), 3)), by decide⟩
theorem i_Md_reaches_23 : iIns M_Md_reaches 23 (.aload_n 0) 1 := (by decide +kernel : decode prog_14_method_65_code 23 = .ok (.aload_n 0, 1))
theorem i_Md_reaches_24 : iIns M_Md_reaches 24 (.iload_n 1) 1 := (by decide +kernel : decode prog_14_method_65_code 24 = .ok (.iload_n 1, 1))
theorem i_Md_reaches_25 : iIns M_Md_reaches 25 (.iload_n 3) 1 := (by decide +kernel : decode prog_14_method_65_code 25 = .ok (.iload_n 3, 1))
theorem i_Md_reaches_26 : iCallS M_Md_reaches 26 M_Md_power 1 := ⟨⟨243, (by decide +kernel : decode prog_14_method_65_code 26 = .ok (.invokestatic 243, 3)), lw_k7 142 rfl rfl⟩, sm_Md_power, me_Md_power, pn_Md_power⟩
theorem i_Md_reaches_29 : iIns M_Md_reaches 29 .idiv 1 := (by decide +kernel : decode prog_14_method_65_code 29 = .ok (.idiv, 1))
theorem i_Md_reaches_30 : iIns M_Md_reaches 30 (.iconst 3) 1 := (by decide +kernel : decode prog_14_method_65_code 30 = .ok (.iconst 3, 1))
theorem i_Md_reaches_31 : iIns M_Md_reaches 31 .irem 1 := (by decide +kernel : decode prog_14_method_65_code 31 = .ok (.irem, 1))
theorem i_Md_reaches_32 : iIns M_Md_reaches 32 (.aload_n 0) 1 := (by decide +kernel : decode prog_14_method_65_code 32 = .ok (.aload_n 0, 1))
theorem i_Md_reaches_33 : iGet M_Md_reaches 33 14 24 := ⟨69, (by decide +kernel : decode prog_14_method_65_code 33 = .ok (.getfield 69, 3)), fl_Md_Md_trial⟩
theorem i_Md_reaches_36 : iIns M_Md_reaches 36 (.aload_n 0) 1 := (by decide +kernel : decode prog_14_method_65_code 36 = .ok (.aload_n 0, 1))
theorem i_Md_reaches_37 : iGet M_Md_reaches 37 14 15 := ⟨40, (by decide +kernel : decode prog_14_method_65_code 37 = .ok (.getfield 40, 3)), fl_Md_Md_next⟩
theorem i_Md_reaches_40 : iCallV M_Md_reaches 40 M_Md_step3 3 14 := ⟨⟨173, (by decide +kernel : decode prog_14_method_65_code 40 = .ok (.invokevirtual 173, 3)), lw_k7 9 rfl rfl⟩, vm_Md_step3, me_Md_step3, pn_Md_step3⟩
theorem i_Md_reaches_43 : iIf M_Md_reaches 43 .ne 48 := ⟨5, (by decide +kernel : decode prog_14_method_65_code 43 = .ok (.ifCond .ne (5), 3)), by decide⟩
theorem i_Md_reaches_46 : iIns M_Md_reaches 46 (.iconst 0) 1 := (by decide +kernel : decode prog_14_method_65_code 46 = .ok (.iconst 0, 1))
theorem i_Md_reaches_47 : iIns M_Md_reaches 47 .ireturn 1 := (by decide +kernel : decode prog_14_method_65_code 47 = .ok (.ireturn, 1))
theorem i_Md_reaches_48 : iIns M_Md_reaches 48 (.aload_n 0) 1 := (by decide +kernel : decode prog_14_method_65_code 48 = .ok (.aload_n 0, 1))
theorem i_Md_reaches_49 : iGet M_Md_reaches 49 14 15 := ⟨40, (by decide +kernel : decode prog_14_method_65_code 49 = .ok (.getfield 40, 3)), fl_Md_Md_next⟩
theorem i_Md_reaches_52 : iIns M_Md_reaches 52 (.iconst 0) 1 := (by decide +kernel : decode prog_14_method_65_code 52 = .ok (.iconst 0, 1))
theorem i_Md_reaches_53 : iIns M_Md_reaches 53 (.aload_n 0) 1 := (by decide +kernel : decode prog_14_method_65_code 53 = .ok (.aload_n 0, 1))
theorem i_Md_reaches_54 : iGet M_Md_reaches 54 14 24 := ⟨69, (by decide +kernel : decode prog_14_method_65_code 54 = .ok (.getfield 69, 3)), fl_Md_Md_trial⟩
theorem i_Md_reaches_57 : iIns M_Md_reaches 57 (.iconst 0) 1 := (by decide +kernel : decode prog_14_method_65_code 57 = .ok (.iconst 0, 1))
theorem i_Md_reaches_58 : iIns M_Md_reaches 58 (.bipush 61) 2 := (by decide +kernel : decode prog_14_method_65_code 58 = .ok (.bipush 61, 2))
theorem i_Md_reaches_60 : iCpy M_Md_reaches 60 := ⟨146, (by decide +kernel : decode prog_14_method_65_code 60 = .ok (.invokestatic 146, 3)), lw_k6 205 rfl rfl⟩
theorem i_Md_reaches_63 : iIns M_Md_reaches 63 (.iinc 3 (-1)) 3 := (by decide +kernel : decode prog_14_method_65_code 63 = .ok (.iinc 3 (-1), 3))
theorem i_Md_reaches_66 : iGoto M_Md_reaches 66 19 := ⟨-47, (by decide +kernel : decode prog_14_method_65_code 66 = .ok (.goto (-47), 3)), by decide⟩
theorem i_Md_reaches_69 : iIns M_Md_reaches 69 (.aload_n 0) 1 := (by decide +kernel : decode prog_14_method_65_code 69 = .ok (.aload_n 0, 1))
theorem i_Md_reaches_70 : iGet M_Md_reaches 70 14 24 := ⟨69, (by decide +kernel : decode prog_14_method_65_code 70 = .ok (.getfield 69, 3)), fl_Md_Md_trial⟩
theorem i_Md_reaches_73 : iIns M_Md_reaches 73 (.aload_n 0) 1 := (by decide +kernel : decode prog_14_method_65_code 73 = .ok (.aload_n 0, 1))
theorem i_Md_reaches_74 : iGet M_Md_reaches 74 14 3 := ⟨16, (by decide +kernel : decode prog_14_method_65_code 74 = .ok (.getfield 16, 3)), fl_Md_Md_target⟩
theorem i_Md_reaches_77 : iCallS M_Md_reaches 77 M_Md_same 2 := ⟨⟨161, (by decide +kernel : decode prog_14_method_65_code 77 = .ok (.invokestatic 161, 3)), lw_k7 2 rfl rfl⟩, sm_Md_same, me_Md_same, pn_Md_same⟩
theorem i_Md_reaches_80 : iIns M_Md_reaches 80 .ireturn 1 := (by decide +kernel : decode prog_14_method_65_code 80 = .ok (.ireturn, 1))
theorem i_Md_firstSequence_0 : iIns M_Md_firstSequence 0 (.aload_n 0) 1 := (by decide +kernel : decode prog_14_method_67_code 0 = .ok (.aload_n 0, 1))
theorem i_Md_firstSequence_1 : iIns M_Md_firstSequence 1 (.iload_n 1) 1 := (by decide +kernel : decode prog_14_method_67_code 1 = .ok (.iload_n 1, 1))
theorem i_Md_firstSequence_2 : iIns M_Md_firstSequence 2 (.iconst 0) 1 := (by decide +kernel : decode prog_14_method_67_code 2 = .ok (.iconst 0, 1))
theorem i_Md_firstSequence_3 : iIns M_Md_firstSequence 3 (.iconst 5) 1 := (by decide +kernel : decode prog_14_method_67_code 3 = .ok (.iconst 5, 1))
theorem i_Md_firstSequence_4 : iCallS M_Md_firstSequence 4 M_Md_in 3 := ⟨⟨101, (by decide +kernel : decode prog_14_method_67_code 4 = .ok (.invokestatic 101, 3)), lw_k6 141 rfl rfl⟩, sm_Md_in, me_Md_in, pn_Md_in⟩
theorem i_Md_firstSequence_7 : iIf M_Md_firstSequence 7 .ne 14 := ⟨7, (by decide +kernel : decode prog_14_method_67_code 7 = .ok (.ifCond .ne (7), 3)), by decide⟩
theorem i_Md_firstSequence_10 : iIns M_Md_firstSequence 10 (.iconst 1) 1 := (by decide +kernel : decode prog_14_method_67_code 10 = .ok (.iconst 1, 1))
theorem i_Md_firstSequence_11 : iGoto M_Md_firstSequence 11 26 := ⟨15, (by decide +kernel : decode prog_14_method_67_code 11 = .ok (.goto (15), 3)), by decide⟩
theorem i_Md_firstSequence_14 : iIns M_Md_firstSequence 14 (.aload_n 0) 1 := (by decide +kernel : decode prog_14_method_67_code 14 = .ok (.aload_n 0, 1))
theorem i_Md_firstSequence_15 : iCallV M_Md_firstSequence 15 M_Md_allDeterministic 0 14 := ⟨⟨246, (by decide +kernel : decode prog_14_method_67_code 15 = .ok (.invokevirtual 246, 3)), lw_k7 138 rfl rfl⟩, vm_Md_allDeterministic, me_Md_allDeterministic, pn_Md_allDeterministic⟩
theorem i_Md_firstSequence_18 : iIf M_Md_firstSequence 18 .ne 25 := ⟨7, (by decide +kernel : decode prog_14_method_67_code 18 = .ok (.ifCond .ne (7), 3)), by decide⟩
theorem i_Md_firstSequence_21 : iIns M_Md_firstSequence 21 (.iconst 2) 1 := (by decide +kernel : decode prog_14_method_67_code 21 = .ok (.iconst 2, 1))
theorem i_Md_firstSequence_22 : iGoto M_Md_firstSequence 22 26 := ⟨4, (by decide +kernel : decode prog_14_method_67_code 22 = .ok (.goto (4), 3)), by decide⟩
theorem i_Md_firstSequence_25 : iIns M_Md_firstSequence 25 (.iconst 0) 1 := (by decide +kernel : decode prog_14_method_67_code 25 = .ok (.iconst 0, 1))
theorem i_Md_firstSequence_26 : iPutX M_Md_firstSequence 26 14 0 .int := ⟨97, (by decide +kernel : decode prog_14_method_67_code 26 = .ok (.putfield 97, 3)), px_Md_Md_thrown⟩
theorem i_Md_firstSequence_29 : iIns M_Md_firstSequence 29 (.iconst 0) 1 := (by decide +kernel : decode prog_14_method_67_code 29 = .ok (.iconst 0, 1))
theorem i_Md_firstSequence_30 : iIns M_Md_firstSequence 30 (.istore_n 2) 1 := (by decide +kernel : decode prog_14_method_67_code 30 = .ok (.istore_n 2, 1))
theorem i_Md_firstSequence_31 : iIns M_Md_firstSequence 31 (.aload_n 0) 1 := (by decide +kernel : decode prog_14_method_67_code 31 = .ok (.aload_n 0, 1))
theorem i_Md_firstSequence_32 : iGet M_Md_firstSequence 32 14 0 := ⟨97, (by decide +kernel : decode prog_14_method_67_code 32 = .ok (.getfield 97, 3)), fl_Md_Md_thrown⟩
theorem i_Md_firstSequence_35 : iIf M_Md_firstSequence 35 .ne 63 := ⟨28, (by decide +kernel : decode prog_14_method_67_code 35 = .ok (.ifCond .ne (28), 3)), by decide⟩
theorem i_Md_firstSequence_38 : iIns M_Md_firstSequence 38 (.iload_n 2) 1 := (by decide +kernel : decode prog_14_method_67_code 38 = .ok (.iload_n 2, 1))
theorem i_Md_firstSequence_39 : iIns M_Md_firstSequence 39 (.iload_n 1) 1 := (by decide +kernel : decode prog_14_method_67_code 39 = .ok (.iload_n 1, 1))
theorem i_Md_firstSequence_40 : iCallS M_Md_firstSequence 40 M_Md_power 1 := ⟨⟨243, (by decide +kernel : decode prog_14_method_67_code 40 = .ok (.invokestatic 243, 3)), lw_k7 142 rfl rfl⟩, sm_Md_power, me_Md_power, pn_Md_power⟩
theorem i_Md_firstSequence_43 : iIcmp M_Md_firstSequence 43 .ge 63 := ⟨20, (by decide +kernel : decode prog_14_method_67_code 43 = .ok (.if_icmp .ge (20), 3)), by decide⟩
theorem i_Md_firstSequence_46 : iIns M_Md_firstSequence 46 (.aload_n 0) 1 := (by decide +kernel : decode prog_14_method_67_code 46 = .ok (.aload_n 0, 1))
theorem i_Md_firstSequence_47 : iIns M_Md_firstSequence 47 (.iload_n 2) 1 := (by decide +kernel : decode prog_14_method_67_code 47 = .ok (.iload_n 2, 1))
theorem i_Md_firstSequence_48 : iIns M_Md_firstSequence 48 (.iload_n 1) 1 := (by decide +kernel : decode prog_14_method_67_code 48 = .ok (.iload_n 1, 1))
theorem i_Md_firstSequence_49 : iCallV M_Md_firstSequence 49 M_Md_reaches 2 14 := ⟨⟨250, (by decide +kernel : decode prog_14_method_67_code 49 = .ok (.invokevirtual 250, 3)), lw_k7 145 rfl rfl⟩, vm_Md_reaches, me_Md_reaches, pn_Md_reaches⟩
theorem i_Md_firstSequence_52 : iIf M_Md_firstSequence 52 .eq 57 := ⟨5, (by decide +kernel : decode prog_14_method_67_code 52 = .ok (.ifCond .eq (5), 3)), by decide⟩
theorem i_Md_firstSequence_55 : iIns M_Md_firstSequence 55 (.iload_n 2) 1 := (by decide +kernel : decode prog_14_method_67_code 55 = .ok (.iload_n 2, 1))
theorem i_Md_firstSequence_56 : iIns M_Md_firstSequence 56 .ireturn 1 := (by decide +kernel : decode prog_14_method_67_code 56 = .ok (.ireturn, 1))
theorem i_Md_firstSequence_57 : iIns M_Md_firstSequence 57 (.iinc 2 (1)) 3 := (by decide +kernel : decode prog_14_method_67_code 57 = .ok (.iinc 2 (1), 3))
theorem i_Md_firstSequence_60 : iGoto M_Md_firstSequence 60 31 := ⟨-29, (by decide +kernel : decode prog_14_method_67_code 60 = .ok (.goto (-29), 3)), by decide⟩
theorem i_Md_firstSequence_63 : iIns M_Md_firstSequence 63 (.aload_n 0) 1 := (by decide +kernel : decode prog_14_method_67_code 63 = .ok (.aload_n 0, 1))
theorem i_Md_firstSequence_64 : iGet M_Md_firstSequence 64 14 0 := ⟨97, (by decide +kernel : decode prog_14_method_67_code 64 = .ok (.getfield 97, 3)), fl_Md_Md_thrown⟩
theorem i_Md_firstSequence_67 : iIf M_Md_firstSequence 67 .le 74 := ⟨7, (by decide +kernel : decode prog_14_method_67_code 67 = .ok (.ifCond .le (7), 3)), by decide⟩
theorem i_Md_firstSequence_70 : iIns M_Md_firstSequence 70 (.iconst 0) 1 := (by decide +kernel : decode prog_14_method_67_code 70 = .ok (.iconst 0, 1))
theorem i_Md_firstSequence_71 : iGoto M_Md_firstSequence 71 79 := ⟨8, (by decide +kernel : decode prog_14_method_67_code 71 = .ok (.goto (8), 3)), by decide⟩
theorem i_Md_firstSequence_74 : iIns M_Md_firstSequence 74 (.aload_n 0) 1 := (by decide +kernel : decode prog_14_method_67_code 74 = .ok (.aload_n 0, 1))
theorem i_Md_firstSequence_75 : iIns M_Md_firstSequence 75 (.iconst 3) 1 := (by decide +kernel : decode prog_14_method_67_code 75 = .ok (.iconst 3, 1))
theorem i_Md_firstSequence_76 : iCallV M_Md_firstSequence 76 M_Md_fails 1 14 := ⟨⟨105, (by decide +kernel : decode prog_14_method_67_code 76 = .ok (.invokevirtual 105, 3)), lw_k6 144 rfl rfl⟩, vm_Md_fails, me_Md_fails, pn_Md_fails⟩
theorem i_Md_firstSequence_79 : iIns M_Md_firstSequence 79 .ireturn 1 := (by decide +kernel : decode prog_14_method_67_code 79 = .ok (.ireturn, 1))
theorem i_Md_setCommand_0 : iIns M_Md_setCommand 0 (.aload_n 0) 1 := (by decide +kernel : decode prog_14_method_70_code 0 = .ok (.aload_n 0, 1))
theorem i_Md_setCommand_1 : iIns M_Md_setCommand 1 (.iload_n 1) 1 := (by decide +kernel : decode prog_14_method_70_code 1 = .ok (.iload_n 1, 1))
theorem i_Md_setCommand_2 : iCallS M_Md_setCommand 2 M_Md_isLetter 1 := ⟨⟨116, (by decide +kernel : decode prog_14_method_70_code 2 = .ok (.invokestatic 116, 3)), lw_k6 159 rfl rfl⟩, sm_Md_isLetter, me_Md_isLetter, pn_Md_isLetter⟩
theorem i_Md_setCommand_5 : iIf M_Md_setCommand 5 .ne 12 := ⟨7, (by decide +kernel : decode prog_14_method_70_code 5 = .ok (.ifCond .ne (7), 3)), by decide⟩
theorem i_Md_setCommand_8 : iIns M_Md_setCommand 8 (.iconst 1) 1 := (by decide +kernel : decode prog_14_method_70_code 8 = .ok (.iconst 1, 1))
theorem i_Md_setCommand_9 : iGoto M_Md_setCommand 9 24 := ⟨15, (by decide +kernel : decode prog_14_method_70_code 9 = .ok (.goto (15), 3)), by decide⟩
theorem i_Md_setCommand_12 : iIns M_Md_setCommand 12 (.aload_n 0) 1 := (by decide +kernel : decode prog_14_method_70_code 12 = .ok (.aload_n 0, 1))
theorem i_Md_setCommand_13 : iCallV M_Md_setCommand 13 M_Md_commandOfText 0 14 := ⟨⟨280, (by decide +kernel : decode prog_14_method_70_code 13 = .ok (.invokevirtual 280, 3)), lw_k7 157 rfl rfl⟩, vm_Md_commandOfText, me_Md_commandOfText, pn_Md_commandOfText⟩
theorem i_Md_setCommand_16 : iIf M_Md_setCommand 16 .ge 23 := ⟨7, (by decide +kernel : decode prog_14_method_70_code 16 = .ok (.ifCond .ge (7), 3)), by decide⟩
theorem i_Md_setCommand_19 : iIns M_Md_setCommand 19 (.iconst 2) 1 := (by decide +kernel : decode prog_14_method_70_code 19 = .ok (.iconst 2, 1))
theorem i_Md_setCommand_20 : iGoto M_Md_setCommand 20 24 := ⟨4, (by decide +kernel : decode prog_14_method_70_code 20 = .ok (.goto (4), 3)), by decide⟩
theorem i_Md_setCommand_23 : iIns M_Md_setCommand 23 (.iconst 0) 1 := (by decide +kernel : decode prog_14_method_70_code 23 = .ok (.iconst 0, 1))
theorem i_Md_setCommand_24 : iPutX M_Md_setCommand 24 14 0 .int := ⟨97, (by decide +kernel : decode prog_14_method_70_code 24 = .ok (.putfield 97, 3)), px_Md_Md_thrown⟩
theorem i_Md_setCommand_27 : iIns M_Md_setCommand 27 (.aload_n 0) 1 := (by decide +kernel : decode prog_14_method_70_code 27 = .ok (.aload_n 0, 1))
theorem i_Md_setCommand_28 : iGet M_Md_setCommand 28 14 0 := ⟨97, (by decide +kernel : decode prog_14_method_70_code 28 = .ok (.getfield 97, 3)), fl_Md_Md_thrown⟩
theorem i_Md_setCommand_31 : iIf M_Md_setCommand 31 .ne 44 := ⟨13, (by decide +kernel : decode prog_14_method_70_code 31 = .ok (.ifCond .ne (13), 3)), by decide⟩
theorem i_Md_setCommand_34 : iIns M_Md_setCommand 34 (.aload_n 0) 1 := (by decide +kernel : decode prog_14_method_70_code 34 = .ok (.aload_n 0, 1))
theorem i_Md_setCommand_35 : iGet M_Md_setCommand 35 14 4 := ⟨19, (by decide +kernel : decode prog_14_method_70_code 35 = .ok (.getfield 19, 3)), fl_Md_Md_commands⟩
theorem i_Md_setCommand_38 : iIns M_Md_setCommand 38 (.iload_n 1) 1 := (by decide +kernel : decode prog_14_method_70_code 38 = .ok (.iload_n 1, 1))
theorem i_Md_setCommand_39 : iIns M_Md_setCommand 39 (.aload_n 0) 1 := (by decide +kernel : decode prog_14_method_70_code 39 = .ok (.aload_n 0, 1))
theorem i_Md_setCommand_40 : iCallV M_Md_setCommand 40 M_Md_commandOfText 0 14 := ⟨⟨280, (by decide +kernel : decode prog_14_method_70_code 40 = .ok (.invokevirtual 280, 3)), lw_k7 157 rfl rfl⟩, vm_Md_commandOfText, me_Md_commandOfText, pn_Md_commandOfText⟩
theorem i_Md_setCommand_43 : iIns M_Md_setCommand 43 .iastore 1 := (by decide +kernel : decode prog_14_method_70_code 43 = .ok (.iastore, 1))
theorem i_Md_setCommand_44 : iIns M_Md_setCommand 44 .return_ 1 := (by decide +kernel : decode prog_14_method_70_code 44 = .ok (.return_, 1))
theorem i_Md_commandOfText_0 : iIns M_Md_commandOfText 0 (.aload_n 0) 1 := (by decide +kernel : decode prog_14_method_69_code 0 = .ok (.aload_n 0, 1))
theorem i_Md_commandOfText_1 : iLdcS M_Md_commandOfText 1 0 3 := ⟨262, Or.inr ⟨(by decide +kernel : decode prog_14_method_69_code 1 = .ok (.ldc_w 262, 3)), rfl⟩, by decide +kernel⟩
theorem i_Md_commandOfText_4 : iCallV M_Md_commandOfText 4 M_Md_isText 1 14 := ⟨⟨264, (by decide +kernel : decode prog_14_method_69_code 4 = .ok (.invokevirtual 264, 3)), lw_k7 162 rfl rfl⟩, vm_Md_isText, me_Md_isText, pn_Md_isText⟩
theorem i_Md_commandOfText_7 : iIf M_Md_commandOfText 7 .eq 14 := ⟨7, (by decide +kernel : decode prog_14_method_69_code 7 = .ok (.ifCond .eq (7), 3)), by decide⟩
theorem i_Md_commandOfText_10 : iIns M_Md_commandOfText 10 (.iconst 0) 1 := (by decide +kernel : decode prog_14_method_69_code 10 = .ok (.iconst 0, 1))
theorem i_Md_commandOfText_11 : iGoto M_Md_commandOfText 11 100 := ⟨89, (by decide +kernel : decode prog_14_method_69_code 11 = .ok (.goto (89), 3)), by decide⟩
theorem i_Md_commandOfText_14 : iIns M_Md_commandOfText 14 (.aload_n 0) 1 := (by decide +kernel : decode prog_14_method_69_code 14 = .ok (.aload_n 0, 1))
theorem i_Md_commandOfText_15 : iLdcS M_Md_commandOfText 15 1 3 := ⟨268, Or.inr ⟨(by decide +kernel : decode prog_14_method_69_code 15 = .ok (.ldc_w 268, 3)), rfl⟩, by decide +kernel⟩
theorem i_Md_commandOfText_18 : iCallV M_Md_commandOfText 18 M_Md_isText 1 14 := ⟨⟨264, (by decide +kernel : decode prog_14_method_69_code 18 = .ok (.invokevirtual 264, 3)), lw_k7 162 rfl rfl⟩, vm_Md_isText, me_Md_isText, pn_Md_isText⟩
theorem i_Md_commandOfText_21 : iIf M_Md_commandOfText 21 .eq 28 := ⟨7, (by decide +kernel : decode prog_14_method_69_code 21 = .ok (.ifCond .eq (7), 3)), by decide⟩
theorem i_Md_commandOfText_24 : iIns M_Md_commandOfText 24 (.iconst 1) 1 := (by decide +kernel : decode prog_14_method_69_code 24 = .ok (.iconst 1, 1))
theorem i_Md_commandOfText_25 : iGoto M_Md_commandOfText 25 100 := ⟨75, (by decide +kernel : decode prog_14_method_69_code 25 = .ok (.goto (75), 3)), by decide⟩
theorem i_Md_commandOfText_28 : iIns M_Md_commandOfText 28 (.aload_n 0) 1 := (by decide +kernel : decode prog_14_method_69_code 28 = .ok (.aload_n 0, 1))
theorem i_Md_commandOfText_29 : iLdcS M_Md_commandOfText 29 2 3 := ⟨270, Or.inr ⟨(by decide +kernel : decode prog_14_method_69_code 29 = .ok (.ldc_w 270, 3)), rfl⟩, by decide +kernel⟩
theorem i_Md_commandOfText_32 : iCallV M_Md_commandOfText 32 M_Md_isText 1 14 := ⟨⟨264, (by decide +kernel : decode prog_14_method_69_code 32 = .ok (.invokevirtual 264, 3)), lw_k7 162 rfl rfl⟩, vm_Md_isText, me_Md_isText, pn_Md_isText⟩
theorem i_Md_commandOfText_35 : iIf M_Md_commandOfText 35 .eq 42 := ⟨7, (by decide +kernel : decode prog_14_method_69_code 35 = .ok (.ifCond .eq (7), 3)), by decide⟩
theorem i_Md_commandOfText_38 : iIns M_Md_commandOfText 38 (.iconst 2) 1 := (by decide +kernel : decode prog_14_method_69_code 38 = .ok (.iconst 2, 1))
theorem i_Md_commandOfText_39 : iGoto M_Md_commandOfText 39 100 := ⟨61, (by decide +kernel : decode prog_14_method_69_code 39 = .ok (.goto (61), 3)), by decide⟩
theorem i_Md_commandOfText_42 : iIns M_Md_commandOfText 42 (.aload_n 0) 1 := (by decide +kernel : decode prog_14_method_69_code 42 = .ok (.aload_n 0, 1))
theorem i_Md_commandOfText_43 : iLdcS M_Md_commandOfText 43 3 3 := ⟨272, Or.inr ⟨(by decide +kernel : decode prog_14_method_69_code 43 = .ok (.ldc_w 272, 3)), rfl⟩, by decide +kernel⟩
theorem i_Md_commandOfText_46 : iCallV M_Md_commandOfText 46 M_Md_isText 1 14 := ⟨⟨264, (by decide +kernel : decode prog_14_method_69_code 46 = .ok (.invokevirtual 264, 3)), lw_k7 162 rfl rfl⟩, vm_Md_isText, me_Md_isText, pn_Md_isText⟩
theorem i_Md_commandOfText_49 : iIf M_Md_commandOfText 49 .eq 56 := ⟨7, (by decide +kernel : decode prog_14_method_69_code 49 = .ok (.ifCond .eq (7), 3)), by decide⟩
theorem i_Md_commandOfText_52 : iIns M_Md_commandOfText 52 (.iconst 3) 1 := (by decide +kernel : decode prog_14_method_69_code 52 = .ok (.iconst 3, 1))
theorem i_Md_commandOfText_53 : iGoto M_Md_commandOfText 53 100 := ⟨47, (by decide +kernel : decode prog_14_method_69_code 53 = .ok (.goto (47), 3)), by decide⟩
theorem i_Md_commandOfText_56 : iIns M_Md_commandOfText 56 (.aload_n 0) 1 := (by decide +kernel : decode prog_14_method_69_code 56 = .ok (.aload_n 0, 1))
theorem i_Md_commandOfText_57 : iLdcS M_Md_commandOfText 57 4 3 := ⟨274, Or.inr ⟨(by decide +kernel : decode prog_14_method_69_code 57 = .ok (.ldc_w 274, 3)), rfl⟩, by decide +kernel⟩
theorem i_Md_commandOfText_60 : iCallV M_Md_commandOfText 60 M_Md_isText 1 14 := ⟨⟨264, (by decide +kernel : decode prog_14_method_69_code 60 = .ok (.invokevirtual 264, 3)), lw_k7 162 rfl rfl⟩, vm_Md_isText, me_Md_isText, pn_Md_isText⟩
theorem i_Md_commandOfText_63 : iIf M_Md_commandOfText 63 .eq 70 := ⟨7, (by decide +kernel : decode prog_14_method_69_code 63 = .ok (.ifCond .eq (7), 3)), by decide⟩
theorem i_Md_commandOfText_66 : iIns M_Md_commandOfText 66 (.iconst 4) 1 := (by decide +kernel : decode prog_14_method_69_code 66 = .ok (.iconst 4, 1))
theorem i_Md_commandOfText_67 : iGoto M_Md_commandOfText 67 100 := ⟨33, (by decide +kernel : decode prog_14_method_69_code 67 = .ok (.goto (33), 3)), by decide⟩
theorem i_Md_commandOfText_70 : iIns M_Md_commandOfText 70 (.aload_n 0) 1 := (by decide +kernel : decode prog_14_method_69_code 70 = .ok (.aload_n 0, 1))
theorem i_Md_commandOfText_71 : iLdcS M_Md_commandOfText 71 5 3 := ⟨276, Or.inr ⟨(by decide +kernel : decode prog_14_method_69_code 71 = .ok (.ldc_w 276, 3)), rfl⟩, by decide +kernel⟩
theorem i_Md_commandOfText_74 : iCallV M_Md_commandOfText 74 M_Md_isText 1 14 := ⟨⟨264, (by decide +kernel : decode prog_14_method_69_code 74 = .ok (.invokevirtual 264, 3)), lw_k7 162 rfl rfl⟩, vm_Md_isText, me_Md_isText, pn_Md_isText⟩
theorem i_Md_commandOfText_77 : iIf M_Md_commandOfText 77 .eq 84 := ⟨7, (by decide +kernel : decode prog_14_method_69_code 77 = .ok (.ifCond .eq (7), 3)), by decide⟩
theorem i_Md_commandOfText_80 : iIns M_Md_commandOfText 80 (.iconst 5) 1 := (by decide +kernel : decode prog_14_method_69_code 80 = .ok (.iconst 5, 1))
theorem i_Md_commandOfText_81 : iGoto M_Md_commandOfText 81 100 := ⟨19, (by decide +kernel : decode prog_14_method_69_code 81 = .ok (.goto (19), 3)), by decide⟩
theorem i_Md_commandOfText_84 : iIns M_Md_commandOfText 84 (.aload_n 0) 1 := (by decide +kernel : decode prog_14_method_69_code 84 = .ok (.aload_n 0, 1))
theorem i_Md_commandOfText_85 : iLdcS M_Md_commandOfText 85 6 3 := ⟨278, Or.inr ⟨(by decide +kernel : decode prog_14_method_69_code 85 = .ok (.ldc_w 278, 3)), rfl⟩, by decide +kernel⟩
theorem i_Md_commandOfText_88 : iCallV M_Md_commandOfText 88 M_Md_isText 1 14 := ⟨⟨264, (by decide +kernel : decode prog_14_method_69_code 88 = .ok (.invokevirtual 264, 3)), lw_k7 162 rfl rfl⟩, vm_Md_isText, me_Md_isText, pn_Md_isText⟩
theorem i_Md_commandOfText_91 : iIf M_Md_commandOfText 91 .eq 99 := ⟨8, (by decide +kernel : decode prog_14_method_69_code 91 = .ok (.ifCond .eq (8), 3)), by decide⟩
theorem i_Md_commandOfText_94 : iIns M_Md_commandOfText 94 (.bipush 6) 2 := (by decide +kernel : decode prog_14_method_69_code 94 = .ok (.bipush 6, 2))
theorem i_Md_commandOfText_96 : iGoto M_Md_commandOfText 96 100 := ⟨4, (by decide +kernel : decode prog_14_method_69_code 96 = .ok (.goto (4), 3)), by decide⟩
theorem i_Md_commandOfText_99 : iIns M_Md_commandOfText 99 (.iconst (-1)) 1 := (by decide +kernel : decode prog_14_method_69_code 99 = .ok (.iconst (-1), 1))
theorem i_Md_commandOfText_100 : iIns M_Md_commandOfText 100 .ireturn 1 := (by decide +kernel : decode prog_14_method_69_code 100 = .ok (.ireturn, 1))
theorem i_Md_isText_0 : iIns M_Md_isText 0 (.aload_n 0) 1 := (by decide +kernel : decode prog_14_method_68_code 0 = .ok (.aload_n 0, 1))
theorem i_Md_isText_1 : iGet M_Md_isText 1 14 6 := ⟨109, (by decide +kernel : decode prog_14_method_68_code 1 = .ok (.getfield 109, 3)), fl_Md_Md_length⟩
theorem i_Md_isText_4 : iIns M_Md_isText 4 (.aload_n 1) 1 := (by decide +kernel : decode prog_14_method_68_code 4 = .ok (.aload_n 1, 1))
-- i_Md_isText_5: call of ('java/lang/String', 'length', '()I')
theorem i_Md_isText_8 : iIcmp M_Md_isText 8 .ne 15 := ⟨7, (by decide +kernel : decode prog_14_method_68_code 8 = .ok (.if_icmp .ne (7), 3)), by decide⟩
theorem i_Md_isText_11 : iIns M_Md_isText 11 (.iconst 1) 1 := (by decide +kernel : decode prog_14_method_68_code 11 = .ok (.iconst 1, 1))
theorem i_Md_isText_12 : iGoto M_Md_isText 12 16 := ⟨4, (by decide +kernel : decode prog_14_method_68_code 12 = .ok (.goto (4), 3)), by decide⟩
theorem i_Md_isText_15 : iIns M_Md_isText 15 (.iconst 0) 1 := (by decide +kernel : decode prog_14_method_68_code 15 = .ok (.iconst 0, 1))
theorem i_Md_isText_16 : iIns M_Md_isText 16 (.istore_n 2) 1 := (by decide +kernel : decode prog_14_method_68_code 16 = .ok (.istore_n 2, 1))
theorem i_Md_isText_17 : iIns M_Md_isText 17 (.iconst 0) 1 := (by decide +kernel : decode prog_14_method_68_code 17 = .ok (.iconst 0, 1))
theorem i_Md_isText_18 : iIns M_Md_isText 18 (.istore_n 3) 1 := (by decide +kernel : decode prog_14_method_68_code 18 = .ok (.istore_n 3, 1))
theorem i_Md_isText_19 : iIns M_Md_isText 19 (.iload_n 3) 1 := (by decide +kernel : decode prog_14_method_68_code 19 = .ok (.iload_n 3, 1))
theorem i_Md_isText_20 : iIns M_Md_isText 20 (.aload_n 0) 1 := (by decide +kernel : decode prog_14_method_68_code 20 = .ok (.aload_n 0, 1))
theorem i_Md_isText_21 : iGet M_Md_isText 21 14 6 := ⟨109, (by decide +kernel : decode prog_14_method_68_code 21 = .ok (.getfield 109, 3)), fl_Md_Md_length⟩
theorem i_Md_isText_24 : iIcmp M_Md_isText 24 .ge 57 := ⟨33, (by decide +kernel : decode prog_14_method_68_code 24 = .ok (.if_icmp .ge (33), 3)), by decide⟩
theorem i_Md_isText_27 : iIns M_Md_isText 27 (.iload_n 2) 1 := (by decide +kernel : decode prog_14_method_68_code 27 = .ok (.iload_n 2, 1))
theorem i_Md_isText_28 : iIf M_Md_isText 28 .eq 57 := ⟨29, (by decide +kernel : decode prog_14_method_68_code 28 = .ok (.ifCond .eq (29), 3)), by decide⟩
theorem i_Md_isText_31 : iIns M_Md_isText 31 (.aload_n 0) 1 := (by decide +kernel : decode prog_14_method_68_code 31 = .ok (.aload_n 0, 1))
theorem i_Md_isText_32 : iGet M_Md_isText 32 14 5 := ⟨22, (by decide +kernel : decode prog_14_method_68_code 32 = .ok (.getfield 22, 3)), fl_Md_Md_text⟩
theorem i_Md_isText_35 : iIns M_Md_isText 35 (.iload_n 3) 1 := (by decide +kernel : decode prog_14_method_68_code 35 = .ok (.iload_n 3, 1))
theorem i_Md_isText_36 : iIns M_Md_isText 36 .iaload 1 := (by decide +kernel : decode prog_14_method_68_code 36 = .ok (.iaload, 1))
theorem i_Md_isText_37 : iIns M_Md_isText 37 (.aload_n 1) 1 := (by decide +kernel : decode prog_14_method_68_code 37 = .ok (.aload_n 1, 1))
theorem i_Md_isText_38 : iIns M_Md_isText 38 (.iload_n 3) 1 := (by decide +kernel : decode prog_14_method_68_code 38 = .ok (.iload_n 3, 1))
-- i_Md_isText_39: call of ('java/lang/String', 'charAt', '(I)C')
theorem i_Md_isText_42 : iIcmp M_Md_isText 42 .ne 49 := ⟨7, (by decide +kernel : decode prog_14_method_68_code 42 = .ok (.if_icmp .ne (7), 3)), by decide⟩
theorem i_Md_isText_45 : iIns M_Md_isText 45 (.iconst 1) 1 := (by decide +kernel : decode prog_14_method_68_code 45 = .ok (.iconst 1, 1))
theorem i_Md_isText_46 : iGoto M_Md_isText 46 50 := ⟨4, (by decide +kernel : decode prog_14_method_68_code 46 = .ok (.goto (4), 3)), by decide⟩
theorem i_Md_isText_49 : iIns M_Md_isText 49 (.iconst 0) 1 := (by decide +kernel : decode prog_14_method_68_code 49 = .ok (.iconst 0, 1))
theorem i_Md_isText_50 : iIns M_Md_isText 50 (.istore_n 2) 1 := (by decide +kernel : decode prog_14_method_68_code 50 = .ok (.istore_n 2, 1))
theorem i_Md_isText_51 : iIns M_Md_isText 51 (.iinc 3 (1)) 3 := (by decide +kernel : decode prog_14_method_68_code 51 = .ok (.iinc 3 (1), 3))
theorem i_Md_isText_54 : iGoto M_Md_isText 54 19 := ⟨-35, (by decide +kernel : decode prog_14_method_68_code 54 = .ok (.goto (-35), 3)), by decide⟩
theorem i_Md_isText_57 : iIns M_Md_isText 57 (.iload_n 2) 1 := (by decide +kernel : decode prog_14_method_68_code 57 = .ok (.iload_n 2, 1))
theorem i_Md_isText_58 : iIns M_Md_isText 58 .ireturn 1 := (by decide +kernel : decode prog_14_method_68_code 58 = .ok (.ireturn, 1))
theorem i_Md_segmentCount_0 : iIns M_Md_segmentCount 0 (.aload_n 0) 1 := (by decide +kernel : decode prog_14_method_74_code 0 = .ok (.aload_n 0, 1))
theorem i_Md_segmentCount_1 : iIns M_Md_segmentCount 1 (.aload_n 0) 1 := (by decide +kernel : decode prog_14_method_74_code 1 = .ok (.aload_n 0, 1))
theorem i_Md_segmentCount_2 : iCallV M_Md_segmentCount 2 M_Md_carryOut 0 14 := ⟨⟨299, (by decide +kernel : decode prog_14_method_74_code 2 = .ok (.invokevirtual 299, 3)), lw_k7 178 rfl rfl⟩, vm_Md_carryOut, me_Md_carryOut, pn_Md_carryOut⟩
theorem i_Md_segmentCount_5 : iIf M_Md_segmentCount 5 .eq 12 := ⟨7, (by decide +kernel : decode prog_14_method_74_code 5 = .ok (.ifCond .eq (7), 3)), by decide⟩
theorem i_Md_segmentCount_8 : iIns M_Md_segmentCount 8 (.iconst 0) 1 := (by decide +kernel : decode prog_14_method_74_code 8 = .ok (.iconst 0, 1))
theorem i_Md_segmentCount_9 : iGoto M_Md_segmentCount 9 13 := ⟨4, (by decide +kernel : decode prog_14_method_74_code 9 = .ok (.goto (4), 3)), by decide⟩
theorem i_Md_segmentCount_12 : iIns M_Md_segmentCount 12 (.iconst 1) 1 := (by decide +kernel : decode prog_14_method_74_code 12 = .ok (.iconst 1, 1))
theorem i_Md_segmentCount_13 : iPutX M_Md_segmentCount 13 14 0 .int := ⟨97, (by decide +kernel : decode prog_14_method_74_code 13 = .ok (.putfield 97, 3)), px_Md_Md_thrown⟩
theorem i_Md_segmentCount_16 : iIns M_Md_segmentCount 16 (.aload_n 0) 1 := (by decide +kernel : decode prog_14_method_74_code 16 = .ok (.aload_n 0, 1))
theorem i_Md_segmentCount_17 : iGet M_Md_segmentCount 17 14 0 := ⟨97, (by decide +kernel : decode prog_14_method_74_code 17 = .ok (.getfield 97, 3)), fl_Md_Md_thrown⟩
theorem i_Md_segmentCount_20 : iIf M_Md_segmentCount 20 .le 27 := ⟨7, (by decide +kernel : decode prog_14_method_74_code 20 = .ok (.ifCond .le (7), 3)), by decide⟩
theorem i_Md_segmentCount_23 : iIns M_Md_segmentCount 23 (.iconst 0) 1 := (by decide +kernel : decode prog_14_method_74_code 23 = .ok (.iconst 0, 1))
theorem i_Md_segmentCount_24 : iGoto M_Md_segmentCount 24 31 := ⟨7, (by decide +kernel : decode prog_14_method_74_code 24 = .ok (.goto (7), 3)), by decide⟩
theorem i_Md_segmentCount_27 : iIns M_Md_segmentCount 27 (.aload_n 0) 1 := (by decide +kernel : decode prog_14_method_74_code 27 = .ok (.aload_n 0, 1))
theorem i_Md_segmentCount_28 : iGet M_Md_segmentCount 28 14 31 := ⟨283, (by decide +kernel : decode prog_14_method_74_code 28 = .ok (.getfield 283, 3)), fl_Md_Md_segmentCount⟩
theorem i_Md_segmentCount_31 : iIns M_Md_segmentCount 31 .ireturn 1 := (by decide +kernel : decode prog_14_method_74_code 31 = .ok (.ireturn, 1))
theorem i_Md_carryOut_0 : iIns M_Md_carryOut 0 (.dconst 0) 1 := (by decide +kernel : decode prog_14_method_73_code 0 = .ok (.dconst 0, 1))
theorem i_Md_carryOut_1 : iIns M_Md_carryOut 1 (.dstore_n 1) 1 := (by decide +kernel : decode prog_14_method_73_code 1 = .ok (.dstore_n 1, 1))
theorem i_Md_carryOut_2 : iIns M_Md_carryOut 2 (.dconst 0) 1 := (by decide +kernel : decode prog_14_method_73_code 2 = .ok (.dconst 0, 1))
theorem i_Md_carryOut_3 : iIns M_Md_carryOut 3 (.dstore_n 3) 1 := (by decide +kernel : decode prog_14_method_73_code 3 = .ok (.dstore_n 3, 1))
theorem i_Md_carryOut_4 : iIns M_Md_carryOut 4 (.dconst 1) 1 := (by decide +kernel : decode prog_14_method_73_code 4 = .ok (.dconst 1, 1))
theorem i_Md_carryOut_5 : iIns M_Md_carryOut 5 (.dstore 5) 2 := (by decide +kernel : decode prog_14_method_73_code 5 = .ok (.dstore 5, 2))
theorem i_Md_carryOut_7 : iIns M_Md_carryOut 7 (.iconst 0) 1 := (by decide +kernel : decode prog_14_method_73_code 7 = .ok (.iconst 0, 1))
theorem i_Md_carryOut_8 : iIns M_Md_carryOut 8 (.istore 7) 2 := (by decide +kernel : decode prog_14_method_73_code 8 = .ok (.istore 7, 2))
theorem i_Md_carryOut_10 : iIns M_Md_carryOut 10 (.iconst 0) 1 := (by decide +kernel : decode prog_14_method_73_code 10 = .ok (.iconst 0, 1))
theorem i_Md_carryOut_11 : iIns M_Md_carryOut 11 (.istore 8) 2 := (by decide +kernel : decode prog_14_method_73_code 11 = .ok (.istore 8, 2))
theorem i_Md_carryOut_13 : iIns M_Md_carryOut 13 (.aload_n 0) 1 := (by decide +kernel : decode prog_14_method_73_code 13 = .ok (.aload_n 0, 1))
theorem i_Md_carryOut_14 : iIns M_Md_carryOut 14 (.iconst 0) 1 := (by decide +kernel : decode prog_14_method_73_code 14 = .ok (.iconst 0, 1))
theorem i_Md_carryOut_15 : iPutX M_Md_carryOut 15 14 29 .int := ⟨290, (by decide +kernel : decode prog_14_method_73_code 15 = .ok (.putfield 290, 3)), px_Md_Md_most⟩
theorem i_Md_carryOut_18 : iIns M_Md_carryOut 18 (.aload_n 0) 1 := (by decide +kernel : decode prog_14_method_73_code 18 = .ok (.aload_n 0, 1))
theorem i_Md_carryOut_19 : iIns M_Md_carryOut 19 (.iconst 0) 1 := (by decide +kernel : decode prog_14_method_73_code 19 = .ok (.iconst 0, 1))
theorem i_Md_carryOut_20 : iPutX M_Md_carryOut 20 14 31 .int := ⟨283, (by decide +kernel : decode prog_14_method_73_code 20 = .ok (.putfield 283, 3)), px_Md_Md_segmentCount⟩
theorem i_Md_carryOut_23 : iIns M_Md_carryOut 23 (.aload_n 0) 1 := (by decide +kernel : decode prog_14_method_73_code 23 = .ok (.aload_n 0, 1))
theorem i_Md_carryOut_24 : iGet M_Md_carryOut 24 14 26 := ⟨75, (by decide +kernel : decode prog_14_method_73_code 24 = .ok (.getfield 75, 3)), fl_Md_Md_xs⟩
theorem i_Md_carryOut_27 : iIns M_Md_carryOut 27 (.iconst 0) 1 := (by decide +kernel : decode prog_14_method_73_code 27 = .ok (.iconst 0, 1))
theorem i_Md_carryOut_28 : iIns M_Md_carryOut 28 (.dload_n 1) 1 := (by decide +kernel : decode prog_14_method_73_code 28 = .ok (.dload_n 1, 1))
theorem i_Md_carryOut_29 : iIns M_Md_carryOut 29 .dastore 1 := (by decide +kernel : decode prog_14_method_73_code 29 = .ok (.dastore, 1))
theorem i_Md_carryOut_30 : iIns M_Md_carryOut 30 (.aload_n 0) 1 := (by decide +kernel : decode prog_14_method_73_code 30 = .ok (.aload_n 0, 1))
theorem i_Md_carryOut_31 : iGet M_Md_carryOut 31 14 27 := ⟨79, (by decide +kernel : decode prog_14_method_73_code 31 = .ok (.getfield 79, 3)), fl_Md_Md_ys⟩
theorem i_Md_carryOut_34 : iIns M_Md_carryOut 34 (.iconst 0) 1 := (by decide +kernel : decode prog_14_method_73_code 34 = .ok (.iconst 0, 1))
theorem i_Md_carryOut_35 : iIns M_Md_carryOut 35 (.dload_n 3) 1 := (by decide +kernel : decode prog_14_method_73_code 35 = .ok (.dload_n 3, 1))
theorem i_Md_carryOut_36 : iIns M_Md_carryOut 36 .dastore 1 := (by decide +kernel : decode prog_14_method_73_code 36 = .ok (.dastore, 1))
theorem i_Md_carryOut_37 : iIns M_Md_carryOut 37 (.iconst 1) 1 := (by decide +kernel : decode prog_14_method_73_code 37 = .ok (.iconst 1, 1))
theorem i_Md_carryOut_38 : iIns M_Md_carryOut 38 (.istore 9) 2 := (by decide +kernel : decode prog_14_method_73_code 38 = .ok (.istore 9, 2))
theorem i_Md_carryOut_40 : iIns M_Md_carryOut 40 (.iload 9) 2 := (by decide +kernel : decode prog_14_method_73_code 40 = .ok (.iload 9, 2))
theorem i_Md_carryOut_42 : iIns M_Md_carryOut 42 (.aload_n 0) 1 := (by decide +kernel : decode prog_14_method_73_code 42 = .ok (.aload_n 0, 1))
theorem i_Md_carryOut_43 : iGet M_Md_carryOut 43 14 2 := ⟨13, (by decide +kernel : decode prog_14_method_73_code 43 = .ok (.getfield 13, 3)), fl_Md_Md_word⟩
theorem i_Md_carryOut_46 : iIns M_Md_carryOut 46 (.iconst 0) 1 := (by decide +kernel : decode prog_14_method_73_code 46 = .ok (.iconst 0, 1))
theorem i_Md_carryOut_47 : iIns M_Md_carryOut 47 .iaload 1 := (by decide +kernel : decode prog_14_method_73_code 47 = .ok (.iaload, 1))
theorem i_Md_carryOut_48 : iIcmp M_Md_carryOut 48 .gt 371 := ⟨323, (by decide +kernel : decode prog_14_method_73_code 48 = .ok (.if_icmp .gt (323), 3)), by decide⟩
theorem i_Md_carryOut_51 : iIns M_Md_carryOut 51 (.aload_n 0) 1 := (by decide +kernel : decode prog_14_method_73_code 51 = .ok (.aload_n 0, 1))
theorem i_Md_carryOut_52 : iGet M_Md_carryOut 52 14 4 := ⟨19, (by decide +kernel : decode prog_14_method_73_code 52 = .ok (.getfield 19, 3)), fl_Md_Md_commands⟩
theorem i_Md_carryOut_55 : iIns M_Md_carryOut 55 (.aload_n 0) 1 := (by decide +kernel : decode prog_14_method_73_code 55 = .ok (.aload_n 0, 1))
theorem i_Md_carryOut_56 : iGet M_Md_carryOut 56 14 2 := ⟨13, (by decide +kernel : decode prog_14_method_73_code 56 = .ok (.getfield 13, 3)), fl_Md_Md_word⟩
theorem i_Md_carryOut_59 : iIns M_Md_carryOut 59 (.iload 9) 2 := (by decide +kernel : decode prog_14_method_73_code 59 = .ok (.iload 9, 2))
theorem i_Md_carryOut_61 : iIns M_Md_carryOut 61 .iaload 1 := (by decide +kernel : decode prog_14_method_73_code 61 = .ok (.iaload, 1))
theorem i_Md_carryOut_62 : iIns M_Md_carryOut 62 .iaload 1 := (by decide +kernel : decode prog_14_method_73_code 62 = .ok (.iaload, 1))
theorem i_Md_carryOut_63 : iIns M_Md_carryOut 63 (.istore 10) 2 := (by decide +kernel : decode prog_14_method_73_code 63 = .ok (.istore 10, 2))
theorem i_Md_carryOut_65 : iIns M_Md_carryOut 65 (.iload 10) 2 := (by decide +kernel : decode prog_14_method_73_code 65 = .ok (.iload 10, 2))
theorem i_Md_carryOut_67 : iIns M_Md_carryOut 67 (.iconst 1) 1 := (by decide +kernel : decode prog_14_method_73_code 67 = .ok (.iconst 1, 1))
theorem i_Md_carryOut_68 : iIcmp M_Md_carryOut 68 .eq 77 := ⟨9, (by decide +kernel : decode prog_14_method_73_code 68 = .ok (.if_icmp .eq (9), 3)), by decide⟩
theorem i_Md_carryOut_71 : iIns M_Md_carryOut 71 (.iload 10) 2 := (by decide +kernel : decode prog_14_method_73_code 71 = .ok (.iload 10, 2))
theorem i_Md_carryOut_73 : iIns M_Md_carryOut 73 (.iconst 2) 1 := (by decide +kernel : decode prog_14_method_73_code 73 = .ok (.iconst 2, 1))
theorem i_Md_carryOut_74 : iIcmp M_Md_carryOut 74 .ne 159 := ⟨85, (by decide +kernel : decode prog_14_method_73_code 74 = .ok (.if_icmp .ne (85), 3)), by decide⟩
theorem i_Md_carryOut_77 : iIns M_Md_carryOut 77 (.iload 7) 2 := (by decide +kernel : decode prog_14_method_73_code 77 = .ok (.iload 7, 2))
theorem i_Md_carryOut_79 : iIf M_Md_carryOut 79 .ne 89 := ⟨10, (by decide +kernel : decode prog_14_method_73_code 79 = .ok (.ifCond .ne (10), 3)), by decide⟩
theorem i_Md_carryOut_82 : iIns M_Md_carryOut 82 (.dload_n 1) 1 := (by decide +kernel : decode prog_14_method_73_code 82 = .ok (.dload_n 1, 1))
theorem i_Md_carryOut_83 : iIns M_Md_carryOut 83 (.dload 5) 2 := (by decide +kernel : decode prog_14_method_73_code 83 = .ok (.dload 5, 2))
theorem i_Md_carryOut_85 : iIns M_Md_carryOut 85 .dadd 1 := (by decide +kernel : decode prog_14_method_73_code 85 = .ok (.dadd, 1))
theorem i_Md_carryOut_86 : iGoto M_Md_carryOut 86 103 := ⟨17, (by decide +kernel : decode prog_14_method_73_code 86 = .ok (.goto (17), 3)), by decide⟩
theorem i_Md_carryOut_89 : iIns M_Md_carryOut 89 (.iload 7) 2 := (by decide +kernel : decode prog_14_method_73_code 89 = .ok (.iload 7, 2))
theorem i_Md_carryOut_91 : iIns M_Md_carryOut 91 (.iconst 2) 1 := (by decide +kernel : decode prog_14_method_73_code 91 = .ok (.iconst 2, 1))
theorem i_Md_carryOut_92 : iIcmp M_Md_carryOut 92 .ne 102 := ⟨10, (by decide +kernel : decode prog_14_method_73_code 92 = .ok (.if_icmp .ne (10), 3)), by decide⟩
theorem i_Md_carryOut_95 : iIns M_Md_carryOut 95 (.dload_n 1) 1 := (by decide +kernel : decode prog_14_method_73_code 95 = .ok (.dload_n 1, 1))
theorem i_Md_carryOut_96 : iIns M_Md_carryOut 96 (.dload 5) 2 := (by decide +kernel : decode prog_14_method_73_code 96 = .ok (.dload 5, 2))
theorem i_Md_carryOut_98 : iIns M_Md_carryOut 98 .dsub 1 := (by decide +kernel : decode prog_14_method_73_code 98 = .ok (.dsub, 1))
theorem i_Md_carryOut_99 : iGoto M_Md_carryOut 99 103 := ⟨4, (by decide +kernel : decode prog_14_method_73_code 99 = .ok (.goto (4), 3)), by decide⟩
theorem i_Md_carryOut_102 : iIns M_Md_carryOut 102 (.dload_n 1) 1 := (by decide +kernel : decode prog_14_method_73_code 102 = .ok (.dload_n 1, 1))
theorem i_Md_carryOut_103 : iIns M_Md_carryOut 103 (.dstore 11) 2 := (by decide +kernel : decode prog_14_method_73_code 103 = .ok (.dstore 11, 2))
theorem i_Md_carryOut_105 : iIns M_Md_carryOut 105 (.iload 7) 2 := (by decide +kernel : decode prog_14_method_73_code 105 = .ok (.iload 7, 2))
theorem i_Md_carryOut_107 : iIns M_Md_carryOut 107 (.iconst 1) 1 := (by decide +kernel : decode prog_14_method_73_code 107 = .ok (.iconst 1, 1))
theorem i_Md_carryOut_108 : iIcmp M_Md_carryOut 108 .ne 118 := ⟨10, (by decide +kernel : decode prog_14_method_73_code 108 = .ok (.if_icmp .ne (10), 3)), by decide⟩
theorem i_Md_carryOut_111 : iIns M_Md_carryOut 111 (.dload_n 3) 1 := (by decide +kernel : decode prog_14_method_73_code 111 = .ok (.dload_n 3, 1))
theorem i_Md_carryOut_112 : iIns M_Md_carryOut 112 (.dload 5) 2 := (by decide +kernel : decode prog_14_method_73_code 112 = .ok (.dload 5, 2))
theorem i_Md_carryOut_114 : iIns M_Md_carryOut 114 .dadd 1 := (by decide +kernel : decode prog_14_method_73_code 114 = .ok (.dadd, 1))
theorem i_Md_carryOut_115 : iGoto M_Md_carryOut 115 132 := ⟨17, (by decide +kernel : decode prog_14_method_73_code 115 = .ok (.goto (17), 3)), by decide⟩
theorem i_Md_carryOut_118 : iIns M_Md_carryOut 118 (.iload 7) 2 := (by decide +kernel : decode prog_14_method_73_code 118 = .ok (.iload 7, 2))
theorem i_Md_carryOut_120 : iIns M_Md_carryOut 120 (.iconst 3) 1 := (by decide +kernel : decode prog_14_method_73_code 120 = .ok (.iconst 3, 1))
theorem i_Md_carryOut_121 : iIcmp M_Md_carryOut 121 .ne 131 := ⟨10, (by decide +kernel : decode prog_14_method_73_code 121 = .ok (.if_icmp .ne (10), 3)), by decide⟩
theorem i_Md_carryOut_124 : iIns M_Md_carryOut 124 (.dload_n 3) 1 := (by decide +kernel : decode prog_14_method_73_code 124 = .ok (.dload_n 3, 1))
theorem i_Md_carryOut_125 : iIns M_Md_carryOut 125 (.dload 5) 2 := (by decide +kernel : decode prog_14_method_73_code 125 = .ok (.dload 5, 2))
theorem i_Md_carryOut_127 : iIns M_Md_carryOut 127 .dsub 1 := (by decide +kernel : decode prog_14_method_73_code 127 = .ok (.dsub, 1))
theorem i_Md_carryOut_128 : iGoto M_Md_carryOut 128 132 := ⟨4, (by decide +kernel : decode prog_14_method_73_code 128 = .ok (.goto (4), 3)), by decide⟩
theorem i_Md_carryOut_131 : iIns M_Md_carryOut 131 (.dload_n 3) 1 := (by decide +kernel : decode prog_14_method_73_code 131 = .ok (.dload_n 3, 1))
theorem i_Md_carryOut_132 : iIns M_Md_carryOut 132 (.dstore 13) 2 := (by decide +kernel : decode prog_14_method_73_code 132 = .ok (.dstore 13, 2))
theorem i_Md_carryOut_134 : iIns M_Md_carryOut 134 (.iload 10) 2 := (by decide +kernel : decode prog_14_method_73_code 134 = .ok (.iload 10, 2))
theorem i_Md_carryOut_136 : iIns M_Md_carryOut 136 (.iconst 1) 1 := (by decide +kernel : decode prog_14_method_73_code 136 = .ok (.iconst 1, 1))
theorem i_Md_carryOut_137 : iIcmp M_Md_carryOut 137 .ne 150 := ⟨13, (by decide +kernel : decode prog_14_method_73_code 137 = .ok (.if_icmp .ne (13), 3)), by decide⟩
theorem i_Md_carryOut_140 : iIns M_Md_carryOut 140 (.aload_n 0) 1 := (by decide +kernel : decode prog_14_method_73_code 140 = .ok (.aload_n 0, 1))
theorem i_Md_carryOut_141 : iIns M_Md_carryOut 141 (.dload_n 1) 1 := (by decide +kernel : decode prog_14_method_73_code 141 = .ok (.dload_n 1, 1))
theorem i_Md_carryOut_142 : iIns M_Md_carryOut 142 (.dload_n 3) 1 := (by decide +kernel : decode prog_14_method_73_code 142 = .ok (.dload_n 3, 1))
theorem i_Md_carryOut_143 : iIns M_Md_carryOut 143 (.dload 11) 2 := (by decide +kernel : decode prog_14_method_73_code 143 = .ok (.dload 11, 2))
theorem i_Md_carryOut_145 : iIns M_Md_carryOut 145 (.dload 13) 2 := (by decide +kernel : decode prog_14_method_73_code 145 = .ok (.dload 13, 2))
theorem i_Md_carryOut_147 : iCallV M_Md_carryOut 147 M_Md_addSegment 4 14 := ⟨⟨293, (by decide +kernel : decode prog_14_method_73_code 147 = .ok (.invokevirtual 293, 3)), lw_k7 182 rfl rfl⟩, vm_Md_addSegment, me_Md_addSegment, pn_Md_addSegment⟩
theorem i_Md_carryOut_150 : iIns M_Md_carryOut 150 (.dload 11) 2 := (by decide +kernel : decode prog_14_method_73_code 150 = .ok (.dload 11, 2))
theorem i_Md_carryOut_152 : iIns M_Md_carryOut 152 (.dstore_n 1) 1 := (by decide +kernel : decode prog_14_method_73_code 152 = .ok (.dstore_n 1, 1))
theorem i_Md_carryOut_153 : iIns M_Md_carryOut 153 (.dload 13) 2 := (by decide +kernel : decode prog_14_method_73_code 153 = .ok (.dload 13, 2))
theorem i_Md_carryOut_155 : iIns M_Md_carryOut 155 (.dstore_n 3) 1 := (by decide +kernel : decode prog_14_method_73_code 155 = .ok (.dstore_n 3, 1))
theorem i_Md_carryOut_156 : iGoto M_Md_carryOut 156 349 := ⟨193, (by decide +kernel : decode prog_14_method_73_code 156 = .ok (.goto (193), 3)), by decide⟩
theorem i_Md_carryOut_159 : iIns M_Md_carryOut 159 (.iload 10) 2 := (by decide +kernel : decode prog_14_method_73_code 159 = .ok (.iload 10, 2))
theorem i_Md_carryOut_161 : iIns M_Md_carryOut 161 (.iconst 3) 1 := (by decide +kernel : decode prog_14_method_73_code 161 = .ok (.iconst 3, 1))
theorem i_Md_carryOut_162 : iIcmp M_Md_carryOut 162 .eq 171 := ⟨9, (by decide +kernel : decode prog_14_method_73_code 162 = .ok (.if_icmp .eq (9), 3)), by decide⟩
theorem i_Md_carryOut_165 : iIns M_Md_carryOut 165 (.iload 10) 2 := (by decide +kernel : decode prog_14_method_73_code 165 = .ok (.iload 10, 2))
theorem i_Md_carryOut_167 : iIns M_Md_carryOut 167 (.iconst 4) 1 := (by decide +kernel : decode prog_14_method_73_code 167 = .ok (.iconst 4, 1))
theorem i_Md_carryOut_168 : iIcmp M_Md_carryOut 168 .ne 192 := ⟨24, (by decide +kernel : decode prog_14_method_73_code 168 = .ok (.if_icmp .ne (24), 3)), by decide⟩
theorem i_Md_carryOut_171 : iIns M_Md_carryOut 171 (.iload 7) 2 := (by decide +kernel : decode prog_14_method_73_code 171 = .ok (.iload 7, 2))
theorem i_Md_carryOut_173 : iIns M_Md_carryOut 173 (.iload 10) 2 := (by decide +kernel : decode prog_14_method_73_code 173 = .ok (.iload 10, 2))
theorem i_Md_carryOut_175 : iIns M_Md_carryOut 175 (.iconst 3) 1 := (by decide +kernel : decode prog_14_method_73_code 175 = .ok (.iconst 3, 1))
theorem i_Md_carryOut_176 : iIcmp M_Md_carryOut 176 .ne 183 := ⟨7, (by decide +kernel : decode prog_14_method_73_code 176 = .ok (.if_icmp .ne (7), 3)), by decide⟩
theorem i_Md_carryOut_179 : iIns M_Md_carryOut 179 (.iconst 1) 1 := (by decide +kernel : decode prog_14_method_73_code 179 = .ok (.iconst 1, 1))
theorem i_Md_carryOut_180 : iGoto M_Md_carryOut 180 184 := ⟨4, (by decide +kernel : decode prog_14_method_73_code 180 = .ok (.goto (4), 3)), by decide⟩
theorem i_Md_carryOut_183 : iIns M_Md_carryOut 183 (.iconst 3) 1 := (by decide +kernel : decode prog_14_method_73_code 183 = .ok (.iconst 3, 1))
theorem i_Md_carryOut_184 : iIns M_Md_carryOut 184 .iadd 1 := (by decide +kernel : decode prog_14_method_73_code 184 = .ok (.iadd, 1))
theorem i_Md_carryOut_185 : iIns M_Md_carryOut 185 (.iconst 4) 1 := (by decide +kernel : decode prog_14_method_73_code 185 = .ok (.iconst 4, 1))
theorem i_Md_carryOut_186 : iIns M_Md_carryOut 186 .irem 1 := (by decide +kernel : decode prog_14_method_73_code 186 = .ok (.irem, 1))
theorem i_Md_carryOut_187 : iIns M_Md_carryOut 187 (.istore 7) 2 := (by decide +kernel : decode prog_14_method_73_code 187 = .ok (.istore 7, 2))
theorem i_Md_carryOut_189 : iGoto M_Md_carryOut 189 349 := ⟨160, (by decide +kernel : decode prog_14_method_73_code 189 = .ok (.goto (160), 3)), by decide⟩
theorem i_Md_carryOut_192 : iIns M_Md_carryOut 192 (.iload 10) 2 := (by decide +kernel : decode prog_14_method_73_code 192 = .ok (.iload 10, 2))
theorem i_Md_carryOut_194 : iIns M_Md_carryOut 194 (.iconst 5) 1 := (by decide +kernel : decode prog_14_method_73_code 194 = .ok (.iconst 5, 1))
theorem i_Md_carryOut_195 : iIcmp M_Md_carryOut 195 .ne 283 := ⟨88, (by decide +kernel : decode prog_14_method_73_code 195 = .ok (.if_icmp .ne (88), 3)), by decide⟩
theorem i_Md_carryOut_198 : iIns M_Md_carryOut 198 (.iload 8) 2 := (by decide +kernel : decode prog_14_method_73_code 198 = .ok (.iload 8, 2))
theorem i_Md_carryOut_200 : iIns M_Md_carryOut 200 (.bipush 20) 2 := (by decide +kernel : decode prog_14_method_73_code 200 = .ok (.bipush 20, 2))
theorem i_Md_carryOut_202 : iIcmp M_Md_carryOut 202 .ne 207 := ⟨5, (by decide +kernel : decode prog_14_method_73_code 202 = .ok (.if_icmp .ne (5), 3)), by decide⟩
theorem i_Md_carryOut_205 : iIns M_Md_carryOut 205 (.iconst 0) 1 := (by decide +kernel : decode prog_14_method_73_code 205 = .ok (.iconst 0, 1))
theorem i_Md_carryOut_206 : iIns M_Md_carryOut 206 .ireturn 1 := (by decide +kernel : decode prog_14_method_73_code 206 = .ok (.ireturn, 1))
theorem i_Md_carryOut_207 : iIns M_Md_carryOut 207 (.aload_n 0) 1 := (by decide +kernel : decode prog_14_method_73_code 207 = .ok (.aload_n 0, 1))
theorem i_Md_carryOut_208 : iGet M_Md_carryOut 208 14 28 := ⟨82, (by decide +kernel : decode prog_14_method_73_code 208 = .ok (.getfield 82, 3)), fl_Md_Md_remembered⟩
theorem i_Md_carryOut_211 : iIns M_Md_carryOut 211 (.iconst 4) 1 := (by decide +kernel : decode prog_14_method_73_code 211 = .ok (.iconst 4, 1))
theorem i_Md_carryOut_212 : iIns M_Md_carryOut 212 (.iload 8) 2 := (by decide +kernel : decode prog_14_method_73_code 212 = .ok (.iload 8, 2))
theorem i_Md_carryOut_214 : iIns M_Md_carryOut 214 .imul 1 := (by decide +kernel : decode prog_14_method_73_code 214 = .ok (.imul, 1))
theorem i_Md_carryOut_215 : iIns M_Md_carryOut 215 (.dload_n 1) 1 := (by decide +kernel : decode prog_14_method_73_code 215 = .ok (.dload_n 1, 1))
theorem i_Md_carryOut_216 : iIns M_Md_carryOut 216 .dastore 1 := (by decide +kernel : decode prog_14_method_73_code 216 = .ok (.dastore, 1))
theorem i_Md_carryOut_217 : iIns M_Md_carryOut 217 (.aload_n 0) 1 := (by decide +kernel : decode prog_14_method_73_code 217 = .ok (.aload_n 0, 1))
theorem i_Md_carryOut_218 : iGet M_Md_carryOut 218 14 28 := ⟨82, (by decide +kernel : decode prog_14_method_73_code 218 = .ok (.getfield 82, 3)), fl_Md_Md_remembered⟩
theorem i_Md_carryOut_221 : iIns M_Md_carryOut 221 (.iconst 4) 1 := (by decide +kernel : decode prog_14_method_73_code 221 = .ok (.iconst 4, 1))
theorem i_Md_carryOut_222 : iIns M_Md_carryOut 222 (.iload 8) 2 := (by decide +kernel : decode prog_14_method_73_code 222 = .ok (.iload 8, 2))
theorem i_Md_carryOut_224 : iIns M_Md_carryOut 224 .imul 1 := (by decide +kernel : decode prog_14_method_73_code 224 = .ok (.imul, 1))
theorem i_Md_carryOut_225 : iIns M_Md_carryOut 225 (.iconst 1) 1 := (by decide +kernel : decode prog_14_method_73_code 225 = .ok (.iconst 1, 1))
theorem i_Md_carryOut_226 : iIns M_Md_carryOut 226 .iadd 1 := (by decide +kernel : decode prog_14_method_73_code 226 = .ok (.iadd, 1))
theorem i_Md_carryOut_227 : iIns M_Md_carryOut 227 (.dload_n 3) 1 := (by decide +kernel : decode prog_14_method_73_code 227 = .ok (.dload_n 3, 1))
theorem i_Md_carryOut_228 : iIns M_Md_carryOut 228 .dastore 1 := (by decide +kernel : decode prog_14_method_73_code 228 = .ok (.dastore, 1))
theorem i_Md_carryOut_229 : iIns M_Md_carryOut 229 (.aload_n 0) 1 := (by decide +kernel : decode prog_14_method_73_code 229 = .ok (.aload_n 0, 1))
theorem i_Md_carryOut_230 : iGet M_Md_carryOut 230 14 28 := ⟨82, (by decide +kernel : decode prog_14_method_73_code 230 = .ok (.getfield 82, 3)), fl_Md_Md_remembered⟩
theorem i_Md_carryOut_233 : iIns M_Md_carryOut 233 (.iconst 4) 1 := (by decide +kernel : decode prog_14_method_73_code 233 = .ok (.iconst 4, 1))
theorem i_Md_carryOut_234 : iIns M_Md_carryOut 234 (.iload 8) 2 := (by decide +kernel : decode prog_14_method_73_code 234 = .ok (.iload 8, 2))
theorem i_Md_carryOut_236 : iIns M_Md_carryOut 236 .imul 1 := (by decide +kernel : decode prog_14_method_73_code 236 = .ok (.imul, 1))
theorem i_Md_carryOut_237 : iIns M_Md_carryOut 237 (.iconst 2) 1 := (by decide +kernel : decode prog_14_method_73_code 237 = .ok (.iconst 2, 1))
theorem i_Md_carryOut_238 : iIns M_Md_carryOut 238 .iadd 1 := (by decide +kernel : decode prog_14_method_73_code 238 = .ok (.iadd, 1))
theorem i_Md_carryOut_239 : iIns M_Md_carryOut 239 (.iload 7) 2 := (by decide +kernel : decode prog_14_method_73_code 239 = .ok (.iload 7, 2))
theorem i_Md_carryOut_241 : iIns M_Md_carryOut 241 .i2d 1 := (by decide +kernel : decode prog_14_method_73_code 241 = .ok (.i2d, 1))
theorem i_Md_carryOut_242 : iIns M_Md_carryOut 242 .dastore 1 := (by decide +kernel : decode prog_14_method_73_code 242 = .ok (.dastore, 1))
theorem i_Md_carryOut_243 : iIns M_Md_carryOut 243 (.aload_n 0) 1 := (by decide +kernel : decode prog_14_method_73_code 243 = .ok (.aload_n 0, 1))
theorem i_Md_carryOut_244 : iGet M_Md_carryOut 244 14 28 := ⟨82, (by decide +kernel : decode prog_14_method_73_code 244 = .ok (.getfield 82, 3)), fl_Md_Md_remembered⟩
theorem i_Md_carryOut_247 : iIns M_Md_carryOut 247 (.iconst 4) 1 := (by decide +kernel : decode prog_14_method_73_code 247 = .ok (.iconst 4, 1))
theorem i_Md_carryOut_248 : iIns M_Md_carryOut 248 (.iload 8) 2 := (by decide +kernel : decode prog_14_method_73_code 248 = .ok (.iload 8, 2))
theorem i_Md_carryOut_250 : iIns M_Md_carryOut 250 .imul 1 := (by decide +kernel : decode prog_14_method_73_code 250 = .ok (.imul, 1))
theorem i_Md_carryOut_251 : iIns M_Md_carryOut 251 (.iconst 3) 1 := (by decide +kernel : decode prog_14_method_73_code 251 = .ok (.iconst 3, 1))
theorem i_Md_carryOut_252 : iIns M_Md_carryOut 252 .iadd 1 := (by decide +kernel : decode prog_14_method_73_code 252 = .ok (.iadd, 1))
theorem i_Md_carryOut_253 : iIns M_Md_carryOut 253 (.dload 5) 2 := (by decide +kernel : decode prog_14_method_73_code 253 = .ok (.dload 5, 2))
theorem i_Md_carryOut_255 : iIns M_Md_carryOut 255 .dastore 1 := (by decide +kernel : decode prog_14_method_73_code 255 = .ok (.dastore, 1))
theorem i_Md_carryOut_256 : iIns M_Md_carryOut 256 (.iinc 8 (1)) 3 := (by decide +kernel : decode prog_14_method_73_code 256 = .ok (.iinc 8 (1), 3))
theorem i_Md_carryOut_259 : iIns M_Md_carryOut 259 (.aload_n 0) 1 := (by decide +kernel : decode prog_14_method_73_code 259 = .ok (.aload_n 0, 1))
theorem i_Md_carryOut_260 : iIns M_Md_carryOut 260 (.aload_n 0) 1 := (by decide +kernel : decode prog_14_method_73_code 260 = .ok (.aload_n 0, 1))
theorem i_Md_carryOut_261 : iGet M_Md_carryOut 261 14 29 := ⟨290, (by decide +kernel : decode prog_14_method_73_code 261 = .ok (.getfield 290, 3)), fl_Md_Md_most⟩
theorem i_Md_carryOut_264 : iIns M_Md_carryOut 264 (.iload 8) 2 := (by decide +kernel : decode prog_14_method_73_code 264 = .ok (.iload 8, 2))
theorem i_Md_carryOut_266 : iCallS M_Md_carryOut 266 M_Ma_maxI 2 := ⟨⟨201, (by decide +kernel : decode prog_14_method_73_code 266 = .ok (.invokestatic 201, 3)), lw_k7 74 rfl rfl⟩, sm_Ma_maxI, me_Ma_maxI, pn_Ma_maxI⟩
theorem i_Md_carryOut_269 : iPutX M_Md_carryOut 269 14 29 .int := ⟨290, (by decide +kernel : decode prog_14_method_73_code 269 = .ok (.putfield 290, 3)), px_Md_Md_most⟩
theorem i_Md_carryOut_272 : iIns M_Md_carryOut 272 (.dload 5) 2 := (by decide +kernel : decode prog_14_method_73_code 272 = .ok (.dload 5, 2))
theorem i_Md_carryOut_274 : iLdcD M_Md_carryOut 274 4611686018427387904 := ⟨297, (by decide +kernel : decode prog_14_method_73_code 274 = .ok (.ldc2_w 297, 3)), lw_k7 190 rfl rfl⟩
theorem i_Md_carryOut_277 : iIns M_Md_carryOut 277 .ddiv 1 := (by decide +kernel : decode prog_14_method_73_code 277 = .ok (.ddiv, 1))
theorem i_Md_carryOut_278 : iIns M_Md_carryOut 278 (.dstore 5) 2 := (by decide +kernel : decode prog_14_method_73_code 278 = .ok (.dstore 5, 2))
theorem i_Md_carryOut_280 : iGoto M_Md_carryOut 280 349 := ⟨69, (by decide +kernel : decode prog_14_method_73_code 280 = .ok (.goto (69), 3)), by decide⟩
theorem i_Md_carryOut_283 : iIns M_Md_carryOut 283 (.iload 10) 2 := (by decide +kernel : decode prog_14_method_73_code 283 = .ok (.iload 10, 2))
theorem i_Md_carryOut_285 : iIns M_Md_carryOut 285 (.bipush 6) 2 := (by decide +kernel : decode prog_14_method_73_code 285 = .ok (.bipush 6, 2))
theorem i_Md_carryOut_287 : iIcmp M_Md_carryOut 287 .ne 349 := ⟨62, (by decide +kernel : decode prog_14_method_73_code 287 = .ok (.if_icmp .ne (62), 3)), by decide⟩
theorem i_Md_carryOut_290 : iIns M_Md_carryOut 290 (.iload 8) 2 := (by decide +kernel : decode prog_14_method_73_code 290 = .ok (.iload 8, 2))
theorem i_Md_carryOut_292 : iIf M_Md_carryOut 292 .ne 297 := ⟨5, (by decide +kernel : decode prog_14_method_73_code 292 = .ok (.ifCond .ne (5), 3)), by decide⟩
theorem i_Md_carryOut_295 : iIns M_Md_carryOut 295 (.iconst 0) 1 := (by decide +kernel : decode prog_14_method_73_code 295 = .ok (.iconst 0, 1))
theorem i_Md_carryOut_296 : iIns M_Md_carryOut 296 .ireturn 1 := (by decide +kernel : decode prog_14_method_73_code 296 = .ok (.ireturn, 1))
theorem i_Md_carryOut_297 : iIns M_Md_carryOut 297 (.iinc 8 (-1)) 3 := (by decide +kernel : decode prog_14_method_73_code 297 = .ok (.iinc 8 (-1), 3))
theorem i_Md_carryOut_300 : iIns M_Md_carryOut 300 (.aload_n 0) 1 := (by decide +kernel : decode prog_14_method_73_code 300 = .ok (.aload_n 0, 1))
theorem i_Md_carryOut_301 : iGet M_Md_carryOut 301 14 28 := ⟨82, (by decide +kernel : decode prog_14_method_73_code 301 = .ok (.getfield 82, 3)), fl_Md_Md_remembered⟩
theorem i_Md_carryOut_304 : iIns M_Md_carryOut 304 (.iconst 4) 1 := (by decide +kernel : decode prog_14_method_73_code 304 = .ok (.iconst 4, 1))
theorem i_Md_carryOut_305 : iIns M_Md_carryOut 305 (.iload 8) 2 := (by decide +kernel : decode prog_14_method_73_code 305 = .ok (.iload 8, 2))
theorem i_Md_carryOut_307 : iIns M_Md_carryOut 307 .imul 1 := (by decide +kernel : decode prog_14_method_73_code 307 = .ok (.imul, 1))
theorem i_Md_carryOut_308 : iIns M_Md_carryOut 308 .daload 1 := (by decide +kernel : decode prog_14_method_73_code 308 = .ok (.daload, 1))
theorem i_Md_carryOut_309 : iIns M_Md_carryOut 309 (.dstore_n 1) 1 := (by decide +kernel : decode prog_14_method_73_code 309 = .ok (.dstore_n 1, 1))
theorem i_Md_carryOut_310 : iIns M_Md_carryOut 310 (.aload_n 0) 1 := (by decide +kernel : decode prog_14_method_73_code 310 = .ok (.aload_n 0, 1))
theorem i_Md_carryOut_311 : iGet M_Md_carryOut 311 14 28 := ⟨82, (by decide +kernel : decode prog_14_method_73_code 311 = .ok (.getfield 82, 3)), fl_Md_Md_remembered⟩
theorem i_Md_carryOut_314 : iIns M_Md_carryOut 314 (.iconst 4) 1 := (by decide +kernel : decode prog_14_method_73_code 314 = .ok (.iconst 4, 1))
theorem i_Md_carryOut_315 : iIns M_Md_carryOut 315 (.iload 8) 2 := (by decide +kernel : decode prog_14_method_73_code 315 = .ok (.iload 8, 2))
theorem i_Md_carryOut_317 : iIns M_Md_carryOut 317 .imul 1 := (by decide +kernel : decode prog_14_method_73_code 317 = .ok (.imul, 1))
theorem i_Md_carryOut_318 : iIns M_Md_carryOut 318 (.iconst 1) 1 := (by decide +kernel : decode prog_14_method_73_code 318 = .ok (.iconst 1, 1))
theorem i_Md_carryOut_319 : iIns M_Md_carryOut 319 .iadd 1 := (by decide +kernel : decode prog_14_method_73_code 319 = .ok (.iadd, 1))
theorem i_Md_carryOut_320 : iIns M_Md_carryOut 320 .daload 1 := (by decide +kernel : decode prog_14_method_73_code 320 = .ok (.daload, 1))
theorem i_Md_carryOut_321 : iIns M_Md_carryOut 321 (.dstore_n 3) 1 := (by decide +kernel : decode prog_14_method_73_code 321 = .ok (.dstore_n 3, 1))
theorem i_Md_carryOut_322 : iIns M_Md_carryOut 322 (.aload_n 0) 1 := (by decide +kernel : decode prog_14_method_73_code 322 = .ok (.aload_n 0, 1))
theorem i_Md_carryOut_323 : iGet M_Md_carryOut 323 14 28 := ⟨82, (by decide +kernel : decode prog_14_method_73_code 323 = .ok (.getfield 82, 3)), fl_Md_Md_remembered⟩
theorem i_Md_carryOut_326 : iIns M_Md_carryOut 326 (.iconst 4) 1 := (by decide +kernel : decode prog_14_method_73_code 326 = .ok (.iconst 4, 1))
theorem i_Md_carryOut_327 : iIns M_Md_carryOut 327 (.iload 8) 2 := (by decide +kernel : decode prog_14_method_73_code 327 = .ok (.iload 8, 2))
theorem i_Md_carryOut_329 : iIns M_Md_carryOut 329 .imul 1 := (by decide +kernel : decode prog_14_method_73_code 329 = .ok (.imul, 1))
theorem i_Md_carryOut_330 : iIns M_Md_carryOut 330 (.iconst 2) 1 := (by decide +kernel : decode prog_14_method_73_code 330 = .ok (.iconst 2, 1))
theorem i_Md_carryOut_331 : iIns M_Md_carryOut 331 .iadd 1 := (by decide +kernel : decode prog_14_method_73_code 331 = .ok (.iadd, 1))
theorem i_Md_carryOut_332 : iIns M_Md_carryOut 332 .daload 1 := (by decide +kernel : decode prog_14_method_73_code 332 = .ok (.daload, 1))
theorem i_Md_carryOut_333 : iIns M_Md_carryOut 333 .d2i 1 := (by decide +kernel : decode prog_14_method_73_code 333 = .ok (.d2i, 1))
theorem i_Md_carryOut_334 : iIns M_Md_carryOut 334 (.istore 7) 2 := (by decide +kernel : decode prog_14_method_73_code 334 = .ok (.istore 7, 2))
theorem i_Md_carryOut_336 : iIns M_Md_carryOut 336 (.aload_n 0) 1 := (by decide +kernel : decode prog_14_method_73_code 336 = .ok (.aload_n 0, 1))
theorem i_Md_carryOut_337 : iGet M_Md_carryOut 337 14 28 := ⟨82, (by decide +kernel : decode prog_14_method_73_code 337 = .ok (.getfield 82, 3)), fl_Md_Md_remembered⟩
theorem i_Md_carryOut_340 : iIns M_Md_carryOut 340 (.iconst 4) 1 := (by decide +kernel : decode prog_14_method_73_code 340 = .ok (.iconst 4, 1))
theorem i_Md_carryOut_341 : iIns M_Md_carryOut 341 (.iload 8) 2 := (by decide +kernel : decode prog_14_method_73_code 341 = .ok (.iload 8, 2))
theorem i_Md_carryOut_343 : iIns M_Md_carryOut 343 .imul 1 := (by decide +kernel : decode prog_14_method_73_code 343 = .ok (.imul, 1))
theorem i_Md_carryOut_344 : iIns M_Md_carryOut 344 (.iconst 3) 1 := (by decide +kernel : decode prog_14_method_73_code 344 = .ok (.iconst 3, 1))
theorem i_Md_carryOut_345 : iIns M_Md_carryOut 345 .iadd 1 := (by decide +kernel : decode prog_14_method_73_code 345 = .ok (.iadd, 1))
theorem i_Md_carryOut_346 : iIns M_Md_carryOut 346 .daload 1 := (by decide +kernel : decode prog_14_method_73_code 346 = .ok (.daload, 1))
theorem i_Md_carryOut_347 : iIns M_Md_carryOut 347 (.dstore 5) 2 := (by decide +kernel : decode prog_14_method_73_code 347 = .ok (.dstore 5, 2))
theorem i_Md_carryOut_349 : iIns M_Md_carryOut 349 (.aload_n 0) 1 := (by decide +kernel : decode prog_14_method_73_code 349 = .ok (.aload_n 0, 1))
theorem i_Md_carryOut_350 : iGet M_Md_carryOut 350 14 26 := ⟨75, (by decide +kernel : decode prog_14_method_73_code 350 = .ok (.getfield 75, 3)), fl_Md_Md_xs⟩
theorem i_Md_carryOut_353 : iIns M_Md_carryOut 353 (.iload 9) 2 := (by decide +kernel : decode prog_14_method_73_code 353 = .ok (.iload 9, 2))
theorem i_Md_carryOut_355 : iIns M_Md_carryOut 355 (.dload_n 1) 1 := (by decide +kernel : decode prog_14_method_73_code 355 = .ok (.dload_n 1, 1))
theorem i_Md_carryOut_356 : iIns M_Md_carryOut 356 .dastore 1 := (by decide +kernel : decode prog_14_method_73_code 356 = .ok (.dastore, 1))
theorem i_Md_carryOut_357 : iIns M_Md_carryOut 357 (.aload_n 0) 1 := (by decide +kernel : decode prog_14_method_73_code 357 = .ok (.aload_n 0, 1))
theorem i_Md_carryOut_358 : iGet M_Md_carryOut 358 14 27 := ⟨79, (by decide +kernel : decode prog_14_method_73_code 358 = .ok (.getfield 79, 3)), fl_Md_Md_ys⟩
theorem i_Md_carryOut_361 : iIns M_Md_carryOut 361 (.iload 9) 2 := (by decide +kernel : decode prog_14_method_73_code 361 = .ok (.iload 9, 2))
theorem i_Md_carryOut_363 : iIns M_Md_carryOut 363 (.dload_n 3) 1 := (by decide +kernel : decode prog_14_method_73_code 363 = .ok (.dload_n 3, 1))
theorem i_Md_carryOut_364 : iIns M_Md_carryOut 364 .dastore 1 := (by decide +kernel : decode prog_14_method_73_code 364 = .ok (.dastore, 1))
theorem i_Md_carryOut_365 : iIns M_Md_carryOut 365 (.iinc 9 (1)) 3 := (by decide +kernel : decode prog_14_method_73_code 365 = .ok (.iinc 9 (1), 3))
theorem i_Md_carryOut_368 : iGoto M_Md_carryOut 368 40 := ⟨-328, (by decide +kernel : decode prog_14_method_73_code 368 = .ok (.goto (-328), 3)), by decide⟩
theorem i_Md_carryOut_371 : iIns M_Md_carryOut 371 (.iconst 1) 1 := (by decide +kernel : decode prog_14_method_73_code 371 = .ok (.iconst 1, 1))
theorem i_Md_carryOut_372 : iIns M_Md_carryOut 372 .ireturn 1 := (by decide +kernel : decode prog_14_method_73_code 372 = .ok (.ireturn, 1))
theorem i_Md_addSegment_0 : iIns M_Md_addSegment 0 (.aload_n 0) 1 := (by decide +kernel : decode prog_14_method_72_code 0 = .ok (.aload_n 0, 1))
theorem i_Md_addSegment_1 : iIns M_Md_addSegment 1 (.dload_n 1) 1 := (by decide +kernel : decode prog_14_method_72_code 1 = .ok (.dload_n 1, 1))
theorem i_Md_addSegment_2 : iIns M_Md_addSegment 2 (.dload_n 3) 1 := (by decide +kernel : decode prog_14_method_72_code 2 = .ok (.dload_n 3, 1))
theorem i_Md_addSegment_3 : iIns M_Md_addSegment 3 (.dload 5) 2 := (by decide +kernel : decode prog_14_method_72_code 3 = .ok (.dload 5, 2))
theorem i_Md_addSegment_5 : iIns M_Md_addSegment 5 (.dload 7) 2 := (by decide +kernel : decode prog_14_method_72_code 5 = .ok (.dload 7, 2))
theorem i_Md_addSegment_7 : iCallV M_Md_addSegment 7 M_Md_isSegment 4 14 := ⟨⟨286, (by decide +kernel : decode prog_14_method_72_code 7 = .ok (.invokevirtual 286, 3)), lw_k7 186 rfl rfl⟩, vm_Md_isSegment, me_Md_isSegment, pn_Md_isSegment⟩
theorem i_Md_addSegment_10 : iIf M_Md_addSegment 10 .ne 79 := ⟨69, (by decide +kernel : decode prog_14_method_72_code 10 = .ok (.ifCond .ne (69), 3)), by decide⟩
theorem i_Md_addSegment_13 : iIns M_Md_addSegment 13 (.aload_n 0) 1 := (by decide +kernel : decode prog_14_method_72_code 13 = .ok (.aload_n 0, 1))
theorem i_Md_addSegment_14 : iGet M_Md_addSegment 14 14 30 := ⟨85, (by decide +kernel : decode prog_14_method_72_code 14 = .ok (.getfield 85, 3)), fl_Md_Md_segments⟩
theorem i_Md_addSegment_17 : iIns M_Md_addSegment 17 (.iconst 4) 1 := (by decide +kernel : decode prog_14_method_72_code 17 = .ok (.iconst 4, 1))
theorem i_Md_addSegment_18 : iIns M_Md_addSegment 18 (.aload_n 0) 1 := (by decide +kernel : decode prog_14_method_72_code 18 = .ok (.aload_n 0, 1))
theorem i_Md_addSegment_19 : iGet M_Md_addSegment 19 14 31 := ⟨283, (by decide +kernel : decode prog_14_method_72_code 19 = .ok (.getfield 283, 3)), fl_Md_Md_segmentCount⟩
theorem i_Md_addSegment_22 : iIns M_Md_addSegment 22 .imul 1 := (by decide +kernel : decode prog_14_method_72_code 22 = .ok (.imul, 1))
theorem i_Md_addSegment_23 : iIns M_Md_addSegment 23 (.dload_n 1) 1 := (by decide +kernel : decode prog_14_method_72_code 23 = .ok (.dload_n 1, 1))
theorem i_Md_addSegment_24 : iIns M_Md_addSegment 24 .dastore 1 := (by decide +kernel : decode prog_14_method_72_code 24 = .ok (.dastore, 1))
theorem i_Md_addSegment_25 : iIns M_Md_addSegment 25 (.aload_n 0) 1 := (by decide +kernel : decode prog_14_method_72_code 25 = .ok (.aload_n 0, 1))
theorem i_Md_addSegment_26 : iGet M_Md_addSegment 26 14 30 := ⟨85, (by decide +kernel : decode prog_14_method_72_code 26 = .ok (.getfield 85, 3)), fl_Md_Md_segments⟩
theorem i_Md_addSegment_29 : iIns M_Md_addSegment 29 (.iconst 4) 1 := (by decide +kernel : decode prog_14_method_72_code 29 = .ok (.iconst 4, 1))
theorem i_Md_addSegment_30 : iIns M_Md_addSegment 30 (.aload_n 0) 1 := (by decide +kernel : decode prog_14_method_72_code 30 = .ok (.aload_n 0, 1))
theorem i_Md_addSegment_31 : iGet M_Md_addSegment 31 14 31 := ⟨283, (by decide +kernel : decode prog_14_method_72_code 31 = .ok (.getfield 283, 3)), fl_Md_Md_segmentCount⟩
theorem i_Md_addSegment_34 : iIns M_Md_addSegment 34 .imul 1 := (by decide +kernel : decode prog_14_method_72_code 34 = .ok (.imul, 1))
theorem i_Md_addSegment_35 : iIns M_Md_addSegment 35 (.iconst 1) 1 := (by decide +kernel : decode prog_14_method_72_code 35 = .ok (.iconst 1, 1))
theorem i_Md_addSegment_36 : iIns M_Md_addSegment 36 .iadd 1 := (by decide +kernel : decode prog_14_method_72_code 36 = .ok (.iadd, 1))
theorem i_Md_addSegment_37 : iIns M_Md_addSegment 37 (.dload_n 3) 1 := (by decide +kernel : decode prog_14_method_72_code 37 = .ok (.dload_n 3, 1))
theorem i_Md_addSegment_38 : iIns M_Md_addSegment 38 .dastore 1 := (by decide +kernel : decode prog_14_method_72_code 38 = .ok (.dastore, 1))
theorem i_Md_addSegment_39 : iIns M_Md_addSegment 39 (.aload_n 0) 1 := (by decide +kernel : decode prog_14_method_72_code 39 = .ok (.aload_n 0, 1))
theorem i_Md_addSegment_40 : iGet M_Md_addSegment 40 14 30 := ⟨85, (by decide +kernel : decode prog_14_method_72_code 40 = .ok (.getfield 85, 3)), fl_Md_Md_segments⟩
theorem i_Md_addSegment_43 : iIns M_Md_addSegment 43 (.iconst 4) 1 := (by decide +kernel : decode prog_14_method_72_code 43 = .ok (.iconst 4, 1))
theorem i_Md_addSegment_44 : iIns M_Md_addSegment 44 (.aload_n 0) 1 := (by decide +kernel : decode prog_14_method_72_code 44 = .ok (.aload_n 0, 1))
theorem i_Md_addSegment_45 : iGet M_Md_addSegment 45 14 31 := ⟨283, (by decide +kernel : decode prog_14_method_72_code 45 = .ok (.getfield 283, 3)), fl_Md_Md_segmentCount⟩
theorem i_Md_addSegment_48 : iIns M_Md_addSegment 48 .imul 1 := (by decide +kernel : decode prog_14_method_72_code 48 = .ok (.imul, 1))
theorem i_Md_addSegment_49 : iIns M_Md_addSegment 49 (.iconst 2) 1 := (by decide +kernel : decode prog_14_method_72_code 49 = .ok (.iconst 2, 1))
theorem i_Md_addSegment_50 : iIns M_Md_addSegment 50 .iadd 1 := (by decide +kernel : decode prog_14_method_72_code 50 = .ok (.iadd, 1))
theorem i_Md_addSegment_51 : iIns M_Md_addSegment 51 (.dload 5) 2 := (by decide +kernel : decode prog_14_method_72_code 51 = .ok (.dload 5, 2))
theorem i_Md_addSegment_53 : iIns M_Md_addSegment 53 .dastore 1 := (by decide +kernel : decode prog_14_method_72_code 53 = .ok (.dastore, 1))
theorem i_Md_addSegment_54 : iIns M_Md_addSegment 54 (.aload_n 0) 1 := (by decide +kernel : decode prog_14_method_72_code 54 = .ok (.aload_n 0, 1))
theorem i_Md_addSegment_55 : iGet M_Md_addSegment 55 14 30 := ⟨85, (by decide +kernel : decode prog_14_method_72_code 55 = .ok (.getfield 85, 3)), fl_Md_Md_segments⟩
theorem i_Md_addSegment_58 : iIns M_Md_addSegment 58 (.iconst 4) 1 := (by decide +kernel : decode prog_14_method_72_code 58 = .ok (.iconst 4, 1))
theorem i_Md_addSegment_59 : iIns M_Md_addSegment 59 (.aload_n 0) 1 := (by decide +kernel : decode prog_14_method_72_code 59 = .ok (.aload_n 0, 1))
theorem i_Md_addSegment_60 : iGet M_Md_addSegment 60 14 31 := ⟨283, (by decide +kernel : decode prog_14_method_72_code 60 = .ok (.getfield 283, 3)), fl_Md_Md_segmentCount⟩
theorem i_Md_addSegment_63 : iIns M_Md_addSegment 63 .imul 1 := (by decide +kernel : decode prog_14_method_72_code 63 = .ok (.imul, 1))
theorem i_Md_addSegment_64 : iIns M_Md_addSegment 64 (.iconst 3) 1 := (by decide +kernel : decode prog_14_method_72_code 64 = .ok (.iconst 3, 1))
theorem i_Md_addSegment_65 : iIns M_Md_addSegment 65 .iadd 1 := (by decide +kernel : decode prog_14_method_72_code 65 = .ok (.iadd, 1))
theorem i_Md_addSegment_66 : iIns M_Md_addSegment 66 (.dload 7) 2 := (by decide +kernel : decode prog_14_method_72_code 66 = .ok (.dload 7, 2))
theorem i_Md_addSegment_68 : iIns M_Md_addSegment 68 .dastore 1 := (by decide +kernel : decode prog_14_method_72_code 68 = .ok (.dastore, 1))
theorem i_Md_addSegment_69 : iIns M_Md_addSegment 69 (.aload_n 0) 1 := (by decide +kernel : decode prog_14_method_72_code 69 = .ok (.aload_n 0, 1))
theorem i_Md_addSegment_70 : iIns M_Md_addSegment 70 .dup 1 := (by decide +kernel : decode prog_14_method_72_code 70 = .ok (.dup, 1))
theorem i_Md_addSegment_71 : iGet M_Md_addSegment 71 14 31 := ⟨283, (by decide +kernel : decode prog_14_method_72_code 71 = .ok (.getfield 283, 3)), fl_Md_Md_segmentCount⟩
theorem i_Md_addSegment_74 : iIns M_Md_addSegment 74 (.iconst 1) 1 := (by decide +kernel : decode prog_14_method_72_code 74 = .ok (.iconst 1, 1))
theorem i_Md_addSegment_75 : iIns M_Md_addSegment 75 .iadd 1 := (by decide +kernel : decode prog_14_method_72_code 75 = .ok (.iadd, 1))
theorem i_Md_addSegment_76 : iPutX M_Md_addSegment 76 14 31 .int := ⟨283, (by decide +kernel : decode prog_14_method_72_code 76 = .ok (.putfield 283, 3)), px_Md_Md_segmentCount⟩
theorem i_Md_addSegment_79 : iIns M_Md_addSegment 79 .return_ 1 := (by decide +kernel : decode prog_14_method_72_code 79 = .ok (.return_, 1))
theorem i_Md_isSegment_0 : iIns M_Md_isSegment 0 (.iconst 0) 1 := (by decide +kernel : decode prog_14_method_71_code 0 = .ok (.iconst 0, 1))
theorem i_Md_isSegment_1 : iIns M_Md_isSegment 1 (.istore 9) 2 := (by decide +kernel : decode prog_14_method_71_code 1 = .ok (.istore 9, 2))
theorem i_Md_isSegment_3 : iIns M_Md_isSegment 3 (.iload 9) 2 := (by decide +kernel : decode prog_14_method_71_code 3 = .ok (.iload 9, 2))
theorem i_Md_isSegment_5 : iIns M_Md_isSegment 5 (.iconst 4) 1 := (by decide +kernel : decode prog_14_method_71_code 5 = .ok (.iconst 4, 1))
theorem i_Md_isSegment_6 : iIns M_Md_isSegment 6 (.aload_n 0) 1 := (by decide +kernel : decode prog_14_method_71_code 6 = .ok (.aload_n 0, 1))
theorem i_Md_isSegment_7 : iGet M_Md_isSegment 7 14 31 := ⟨283, (by decide +kernel : decode prog_14_method_71_code 7 = .ok (.getfield 283, 3)), fl_Md_Md_segmentCount⟩
theorem i_Md_isSegment_10 : iIns M_Md_isSegment 10 .imul 1 := (by decide +kernel : decode prog_14_method_71_code 10 = .ok (.imul, 1))
theorem i_Md_isSegment_11 : iIcmp M_Md_isSegment 11 .ge 158 := ⟨147, (by decide +kernel : decode prog_14_method_71_code 11 = .ok (.if_icmp .ge (147), 3)), by decide⟩
theorem i_Md_isSegment_14 : iIns M_Md_isSegment 14 (.aload_n 0) 1 := (by decide +kernel : decode prog_14_method_71_code 14 = .ok (.aload_n 0, 1))
theorem i_Md_isSegment_15 : iGet M_Md_isSegment 15 14 30 := ⟨85, (by decide +kernel : decode prog_14_method_71_code 15 = .ok (.getfield 85, 3)), fl_Md_Md_segments⟩
theorem i_Md_isSegment_18 : iIns M_Md_isSegment 18 (.iload 9) 2 := (by decide +kernel : decode prog_14_method_71_code 18 = .ok (.iload 9, 2))
theorem i_Md_isSegment_20 : iIns M_Md_isSegment 20 .daload 1 := (by decide +kernel : decode prog_14_method_71_code 20 = .ok (.daload, 1))
theorem i_Md_isSegment_21 : iIns M_Md_isSegment 21 (.dload_n 1) 1 := (by decide +kernel : decode prog_14_method_71_code 21 = .ok (.dload_n 1, 1))
theorem i_Md_isSegment_22 : iIns M_Md_isSegment 22 (.dcmp .l) 1 := (by decide +kernel : decode prog_14_method_71_code 22 = .ok (.dcmp .l, 1))
theorem i_Md_isSegment_23 : iIf M_Md_isSegment 23 .ne 74 := ⟨51, (by decide +kernel : decode prog_14_method_71_code 23 = .ok (.ifCond .ne (51), 3)), by decide⟩
theorem i_Md_isSegment_26 : iIns M_Md_isSegment 26 (.aload_n 0) 1 := (by decide +kernel : decode prog_14_method_71_code 26 = .ok (.aload_n 0, 1))
theorem i_Md_isSegment_27 : iGet M_Md_isSegment 27 14 30 := ⟨85, (by decide +kernel : decode prog_14_method_71_code 27 = .ok (.getfield 85, 3)), fl_Md_Md_segments⟩
theorem i_Md_isSegment_30 : iIns M_Md_isSegment 30 (.iload 9) 2 := (by decide +kernel : decode prog_14_method_71_code 30 = .ok (.iload 9, 2))
theorem i_Md_isSegment_32 : iIns M_Md_isSegment 32 (.iconst 1) 1 := (by decide +kernel : decode prog_14_method_71_code 32 = .ok (.iconst 1, 1))
theorem i_Md_isSegment_33 : iIns M_Md_isSegment 33 .iadd 1 := (by decide +kernel : decode prog_14_method_71_code 33 = .ok (.iadd, 1))
theorem i_Md_isSegment_34 : iIns M_Md_isSegment 34 .daload 1 := (by decide +kernel : decode prog_14_method_71_code 34 = .ok (.daload, 1))
theorem i_Md_isSegment_35 : iIns M_Md_isSegment 35 (.dload_n 3) 1 := (by decide +kernel : decode prog_14_method_71_code 35 = .ok (.dload_n 3, 1))
theorem i_Md_isSegment_36 : iIns M_Md_isSegment 36 (.dcmp .l) 1 := (by decide +kernel : decode prog_14_method_71_code 36 = .ok (.dcmp .l, 1))
theorem i_Md_isSegment_37 : iIf M_Md_isSegment 37 .ne 74 := ⟨37, (by decide +kernel : decode prog_14_method_71_code 37 = .ok (.ifCond .ne (37), 3)), by decide⟩
theorem i_Md_isSegment_40 : iIns M_Md_isSegment 40 (.aload_n 0) 1 := (by decide +kernel : decode prog_14_method_71_code 40 = .ok (.aload_n 0, 1))
theorem i_Md_isSegment_41 : iGet M_Md_isSegment 41 14 30 := ⟨85, (by decide +kernel : decode prog_14_method_71_code 41 = .ok (.getfield 85, 3)), fl_Md_Md_segments⟩
theorem i_Md_isSegment_44 : iIns M_Md_isSegment 44 (.iload 9) 2 := (by decide +kernel : decode prog_14_method_71_code 44 = .ok (.iload 9, 2))
theorem i_Md_isSegment_46 : iIns M_Md_isSegment 46 (.iconst 2) 1 := (by decide +kernel : decode prog_14_method_71_code 46 = .ok (.iconst 2, 1))
theorem i_Md_isSegment_47 : iIns M_Md_isSegment 47 .iadd 1 := (by decide +kernel : decode prog_14_method_71_code 47 = .ok (.iadd, 1))
theorem i_Md_isSegment_48 : iIns M_Md_isSegment 48 .daload 1 := (by decide +kernel : decode prog_14_method_71_code 48 = .ok (.daload, 1))
theorem i_Md_isSegment_49 : iIns M_Md_isSegment 49 (.dload 5) 2 := (by decide +kernel : decode prog_14_method_71_code 49 = .ok (.dload 5, 2))
theorem i_Md_isSegment_51 : iIns M_Md_isSegment 51 (.dcmp .l) 1 := (by decide +kernel : decode prog_14_method_71_code 51 = .ok (.dcmp .l, 1))
theorem i_Md_isSegment_52 : iIf M_Md_isSegment 52 .ne 74 := ⟨22, (by decide +kernel : decode prog_14_method_71_code 52 = .ok (.ifCond .ne (22), 3)), by decide⟩
theorem i_Md_isSegment_55 : iIns M_Md_isSegment 55 (.aload_n 0) 1 := (by decide +kernel : decode prog_14_method_71_code 55 = .ok (.aload_n 0, 1))
theorem i_Md_isSegment_56 : iGet M_Md_isSegment 56 14 30 := ⟨85, (by decide +kernel : decode prog_14_method_71_code 56 = .ok (.getfield 85, 3)), fl_Md_Md_segments⟩
theorem i_Md_isSegment_59 : iIns M_Md_isSegment 59 (.iload 9) 2 := (by decide +kernel : decode prog_14_method_71_code 59 = .ok (.iload 9, 2))
theorem i_Md_isSegment_61 : iIns M_Md_isSegment 61 (.iconst 3) 1 := (by decide +kernel : decode prog_14_method_71_code 61 = .ok (.iconst 3, 1))
theorem i_Md_isSegment_62 : iIns M_Md_isSegment 62 .iadd 1 := (by decide +kernel : decode prog_14_method_71_code 62 = .ok (.iadd, 1))
theorem i_Md_isSegment_63 : iIns M_Md_isSegment 63 .daload 1 := (by decide +kernel : decode prog_14_method_71_code 63 = .ok (.daload, 1))
theorem i_Md_isSegment_64 : iIns M_Md_isSegment 64 (.dload 7) 2 := (by decide +kernel : decode prog_14_method_71_code 64 = .ok (.dload 7, 2))
theorem i_Md_isSegment_66 : iIns M_Md_isSegment 66 (.dcmp .l) 1 := (by decide +kernel : decode prog_14_method_71_code 66 = .ok (.dcmp .l, 1))
theorem i_Md_isSegment_67 : iIf M_Md_isSegment 67 .ne 74 := ⟨7, (by decide +kernel : decode prog_14_method_71_code 67 = .ok (.ifCond .ne (7), 3)), by decide⟩
theorem i_Md_isSegment_70 : iIns M_Md_isSegment 70 (.iconst 1) 1 := (by decide +kernel : decode prog_14_method_71_code 70 = .ok (.iconst 1, 1))
theorem i_Md_isSegment_71 : iGoto M_Md_isSegment 71 75 := ⟨4, (by decide +kernel : decode prog_14_method_71_code 71 = .ok (.goto (4), 3)), by decide⟩
theorem i_Md_isSegment_74 : iIns M_Md_isSegment 74 (.iconst 0) 1 := (by decide +kernel : decode prog_14_method_71_code 74 = .ok (.iconst 0, 1))
theorem i_Md_isSegment_75 : iIns M_Md_isSegment 75 (.istore 10) 2 := (by decide +kernel : decode prog_14_method_71_code 75 = .ok (.istore 10, 2))
theorem i_Md_isSegment_77 : iIns M_Md_isSegment 77 (.aload_n 0) 1 := (by decide +kernel : decode prog_14_method_71_code 77 = .ok (.aload_n 0, 1))
theorem i_Md_isSegment_78 : iGet M_Md_isSegment 78 14 30 := ⟨85, (by decide +kernel : decode prog_14_method_71_code 78 = .ok (.getfield 85, 3)), fl_Md_Md_segments⟩
theorem i_Md_isSegment_81 : iIns M_Md_isSegment 81 (.iload 9) 2 := (by decide +kernel : decode prog_14_method_71_code 81 = .ok (.iload 9, 2))
theorem i_Md_isSegment_83 : iIns M_Md_isSegment 83 .daload 1 := (by decide +kernel : decode prog_14_method_71_code 83 = .ok (.daload, 1))
theorem i_Md_isSegment_84 : iIns M_Md_isSegment 84 (.dload 5) 2 := (by decide +kernel : decode prog_14_method_71_code 84 = .ok (.dload 5, 2))
theorem i_Md_isSegment_86 : iIns M_Md_isSegment 86 (.dcmp .l) 1 := (by decide +kernel : decode prog_14_method_71_code 86 = .ok (.dcmp .l, 1))
theorem i_Md_isSegment_87 : iIf M_Md_isSegment 87 .ne 137 := ⟨50, (by decide +kernel : decode prog_14_method_71_code 87 = .ok (.ifCond .ne (50), 3)), by decide⟩
theorem i_Md_isSegment_90 : iIns M_Md_isSegment 90 (.aload_n 0) 1 := (by decide +kernel : decode prog_14_method_71_code 90 = .ok (.aload_n 0, 1))
theorem i_Md_isSegment_91 : iGet M_Md_isSegment 91 14 30 := ⟨85, (by decide +kernel : decode prog_14_method_71_code 91 = .ok (.getfield 85, 3)), fl_Md_Md_segments⟩
theorem i_Md_isSegment_94 : iIns M_Md_isSegment 94 (.iload 9) 2 := (by decide +kernel : decode prog_14_method_71_code 94 = .ok (.iload 9, 2))
theorem i_Md_isSegment_96 : iIns M_Md_isSegment 96 (.iconst 1) 1 := (by decide +kernel : decode prog_14_method_71_code 96 = .ok (.iconst 1, 1))
theorem i_Md_isSegment_97 : iIns M_Md_isSegment 97 .iadd 1 := (by decide +kernel : decode prog_14_method_71_code 97 = .ok (.iadd, 1))
theorem i_Md_isSegment_98 : iIns M_Md_isSegment 98 .daload 1 := (by decide +kernel : decode prog_14_method_71_code 98 = .ok (.daload, 1))
theorem i_Md_isSegment_99 : iIns M_Md_isSegment 99 (.dload 7) 2 := (by decide +kernel : decode prog_14_method_71_code 99 = .ok (.dload 7, 2))
theorem i_Md_isSegment_101 : iIns M_Md_isSegment 101 (.dcmp .l) 1 := (by decide +kernel : decode prog_14_method_71_code 101 = .ok (.dcmp .l, 1))
theorem i_Md_isSegment_102 : iIf M_Md_isSegment 102 .ne 137 := ⟨35, (by decide +kernel : decode prog_14_method_71_code 102 = .ok (.ifCond .ne (35), 3)), by decide⟩
theorem i_Md_isSegment_105 : iIns M_Md_isSegment 105 (.aload_n 0) 1 := (by decide +kernel : decode prog_14_method_71_code 105 = .ok (.aload_n 0, 1))
theorem i_Md_isSegment_106 : iGet M_Md_isSegment 106 14 30 := ⟨85, (by decide +kernel : decode prog_14_method_71_code 106 = .ok (.getfield 85, 3)), fl_Md_Md_segments⟩
theorem i_Md_isSegment_109 : iIns M_Md_isSegment 109 (.iload 9) 2 := (by decide +kernel : decode prog_14_method_71_code 109 = .ok (.iload 9, 2))
theorem i_Md_isSegment_111 : iIns M_Md_isSegment 111 (.iconst 2) 1 := (by decide +kernel : decode prog_14_method_71_code 111 = .ok (.iconst 2, 1))
theorem i_Md_isSegment_112 : iIns M_Md_isSegment 112 .iadd 1 := (by decide +kernel : decode prog_14_method_71_code 112 = .ok (.iadd, 1))
theorem i_Md_isSegment_113 : iIns M_Md_isSegment 113 .daload 1 := (by decide +kernel : decode prog_14_method_71_code 113 = .ok (.daload, 1))
theorem i_Md_isSegment_114 : iIns M_Md_isSegment 114 (.dload_n 1) 1 := (by decide +kernel : decode prog_14_method_71_code 114 = .ok (.dload_n 1, 1))
theorem i_Md_isSegment_115 : iIns M_Md_isSegment 115 (.dcmp .l) 1 := (by decide +kernel : decode prog_14_method_71_code 115 = .ok (.dcmp .l, 1))
theorem i_Md_isSegment_116 : iIf M_Md_isSegment 116 .ne 137 := ⟨21, (by decide +kernel : decode prog_14_method_71_code 116 = .ok (.ifCond .ne (21), 3)), by decide⟩
theorem i_Md_isSegment_119 : iIns M_Md_isSegment 119 (.aload_n 0) 1 := (by decide +kernel : decode prog_14_method_71_code 119 = .ok (.aload_n 0, 1))
theorem i_Md_isSegment_120 : iGet M_Md_isSegment 120 14 30 := ⟨85, (by decide +kernel : decode prog_14_method_71_code 120 = .ok (.getfield 85, 3)), fl_Md_Md_segments⟩
theorem i_Md_isSegment_123 : iIns M_Md_isSegment 123 (.iload 9) 2 := (by decide +kernel : decode prog_14_method_71_code 123 = .ok (.iload 9, 2))
theorem i_Md_isSegment_125 : iIns M_Md_isSegment 125 (.iconst 3) 1 := (by decide +kernel : decode prog_14_method_71_code 125 = .ok (.iconst 3, 1))
theorem i_Md_isSegment_126 : iIns M_Md_isSegment 126 .iadd 1 := (by decide +kernel : decode prog_14_method_71_code 126 = .ok (.iadd, 1))
theorem i_Md_isSegment_127 : iIns M_Md_isSegment 127 .daload 1 := (by decide +kernel : decode prog_14_method_71_code 127 = .ok (.daload, 1))
theorem i_Md_isSegment_128 : iIns M_Md_isSegment 128 (.dload_n 3) 1 := (by decide +kernel : decode prog_14_method_71_code 128 = .ok (.dload_n 3, 1))
theorem i_Md_isSegment_129 : iIns M_Md_isSegment 129 (.dcmp .l) 1 := (by decide +kernel : decode prog_14_method_71_code 129 = .ok (.dcmp .l, 1))
theorem i_Md_isSegment_130 : iIf M_Md_isSegment 130 .ne 137 := ⟨7, (by decide +kernel : decode prog_14_method_71_code 130 = .ok (.ifCond .ne (7), 3)), by decide⟩
theorem i_Md_isSegment_133 : iIns M_Md_isSegment 133 (.iconst 1) 1 := (by decide +kernel : decode prog_14_method_71_code 133 = .ok (.iconst 1, 1))
theorem i_Md_isSegment_134 : iGoto M_Md_isSegment 134 138 := ⟨4, (by decide +kernel : decode prog_14_method_71_code 134 = .ok (.goto (4), 3)), by decide⟩
theorem i_Md_isSegment_137 : iIns M_Md_isSegment 137 (.iconst 0) 1 := (by decide +kernel : decode prog_14_method_71_code 137 = .ok (.iconst 0, 1))
theorem i_Md_isSegment_138 : iIns M_Md_isSegment 138 (.istore 11) 2 := (by decide +kernel : decode prog_14_method_71_code 138 = .ok (.istore 11, 2))
theorem i_Md_isSegment_140 : iIns M_Md_isSegment 140 (.iload 10) 2 := (by decide +kernel : decode prog_14_method_71_code 140 = .ok (.iload 10, 2))
theorem i_Md_isSegment_142 : iIf M_Md_isSegment 142 .ne 150 := ⟨8, (by decide +kernel : decode prog_14_method_71_code 142 = .ok (.ifCond .ne (8), 3)), by decide⟩
theorem i_Md_isSegment_145 : iIns M_Md_isSegment 145 (.iload 11) 2 := (by decide +kernel : decode prog_14_method_71_code 145 = .ok (.iload 11, 2))
theorem i_Md_isSegment_147 : iIf M_Md_isSegment 147 .eq 152 := ⟨5, (by decide +kernel : decode prog_14_method_71_code 147 = .ok (.ifCond .eq (5), 3)), by decide⟩
theorem i_Md_isSegment_150 : iIns M_Md_isSegment 150 (.iconst 1) 1 := (by decide +kernel : decode prog_14_method_71_code 150 = .ok (.iconst 1, 1))
theorem i_Md_isSegment_151 : iIns M_Md_isSegment 151 .ireturn 1 := (by decide +kernel : decode prog_14_method_71_code 151 = .ok (.ireturn, 1))
theorem i_Md_isSegment_152 : iIns M_Md_isSegment 152 (.iinc 9 (4)) 3 := (by decide +kernel : decode prog_14_method_71_code 152 = .ok (.iinc 9 (4), 3))
theorem i_Md_isSegment_155 : iGoto M_Md_isSegment 155 3 := ⟨-152, (by decide +kernel : decode prog_14_method_71_code 155 = .ok (.goto (-152), 3)), by decide⟩
theorem i_Md_isSegment_158 : iIns M_Md_isSegment 158 (.iconst 0) 1 := (by decide +kernel : decode prog_14_method_71_code 158 = .ok (.iconst 0, 1))
theorem i_Md_isSegment_159 : iIns M_Md_isSegment 159 .ireturn 1 := (by decide +kernel : decode prog_14_method_71_code 159 = .ok (.ireturn, 1))
theorem i_Md_inkLength_0 : iIns M_Md_inkLength 0 (.aload_n 0) 1 := (by decide +kernel : decode prog_14_method_75_code 0 = .ok (.aload_n 0, 1))
theorem i_Md_inkLength_1 : iIns M_Md_inkLength 1 (.aload_n 0) 1 := (by decide +kernel : decode prog_14_method_75_code 1 = .ok (.aload_n 0, 1))
theorem i_Md_inkLength_2 : iCallV M_Md_inkLength 2 M_Md_carryOut 0 14 := ⟨⟨299, (by decide +kernel : decode prog_14_method_75_code 2 = .ok (.invokevirtual 299, 3)), lw_k7 178 rfl rfl⟩, vm_Md_carryOut, me_Md_carryOut, pn_Md_carryOut⟩
theorem i_Md_inkLength_5 : iIf M_Md_inkLength 5 .eq 12 := ⟨7, (by decide +kernel : decode prog_14_method_75_code 5 = .ok (.ifCond .eq (7), 3)), by decide⟩
theorem i_Md_inkLength_8 : iIns M_Md_inkLength 8 (.iconst 0) 1 := (by decide +kernel : decode prog_14_method_75_code 8 = .ok (.iconst 0, 1))
theorem i_Md_inkLength_9 : iGoto M_Md_inkLength 9 13 := ⟨4, (by decide +kernel : decode prog_14_method_75_code 9 = .ok (.goto (4), 3)), by decide⟩
theorem i_Md_inkLength_12 : iIns M_Md_inkLength 12 (.iconst 1) 1 := (by decide +kernel : decode prog_14_method_75_code 12 = .ok (.iconst 1, 1))
theorem i_Md_inkLength_13 : iPutX M_Md_inkLength 13 14 0 .int := ⟨97, (by decide +kernel : decode prog_14_method_75_code 13 = .ok (.putfield 97, 3)), px_Md_Md_thrown⟩
theorem i_Md_inkLength_16 : iIns M_Md_inkLength 16 (.dconst 0) 1 := (by decide +kernel : decode prog_14_method_75_code 16 = .ok (.dconst 0, 1))
theorem i_Md_inkLength_17 : iIns M_Md_inkLength 17 (.dstore_n 1) 1 := (by decide +kernel : decode prog_14_method_75_code 17 = .ok (.dstore_n 1, 1))
theorem i_Md_inkLength_18 : iIns M_Md_inkLength 18 (.iconst 0) 1 := (by decide +kernel : decode prog_14_method_75_code 18 = .ok (.iconst 0, 1))
theorem i_Md_inkLength_19 : iIns M_Md_inkLength 19 (.istore_n 3) 1 := (by decide +kernel : decode prog_14_method_75_code 19 = .ok (.istore_n 3, 1))
theorem i_Md_inkLength_20 : iIns M_Md_inkLength 20 (.aload_n 0) 1 := (by decide +kernel : decode prog_14_method_75_code 20 = .ok (.aload_n 0, 1))
theorem i_Md_inkLength_21 : iGet M_Md_inkLength 21 14 0 := ⟨97, (by decide +kernel : decode prog_14_method_75_code 21 = .ok (.getfield 97, 3)), fl_Md_Md_thrown⟩
theorem i_Md_inkLength_24 : iIf M_Md_inkLength 24 .ne 85 := ⟨61, (by decide +kernel : decode prog_14_method_75_code 24 = .ok (.ifCond .ne (61), 3)), by decide⟩
theorem i_Md_inkLength_27 : iIns M_Md_inkLength 27 (.iload_n 3) 1 := (by decide +kernel : decode prog_14_method_75_code 27 = .ok (.iload_n 3, 1))
theorem i_Md_inkLength_28 : iIns M_Md_inkLength 28 (.iconst 4) 1 := (by decide +kernel : decode prog_14_method_75_code 28 = .ok (.iconst 4, 1))
theorem i_Md_inkLength_29 : iIns M_Md_inkLength 29 (.aload_n 0) 1 := (by decide +kernel : decode prog_14_method_75_code 29 = .ok (.aload_n 0, 1))
theorem i_Md_inkLength_30 : iGet M_Md_inkLength 30 14 31 := ⟨283, (by decide +kernel : decode prog_14_method_75_code 30 = .ok (.getfield 283, 3)), fl_Md_Md_segmentCount⟩
theorem i_Md_inkLength_33 : iIns M_Md_inkLength 33 .imul 1 := (by decide +kernel : decode prog_14_method_75_code 33 = .ok (.imul, 1))
theorem i_Md_inkLength_34 : iIcmp M_Md_inkLength 34 .ge 85 := ⟨51, (by decide +kernel : decode prog_14_method_75_code 34 = .ok (.if_icmp .ge (51), 3)), by decide⟩
theorem i_Md_inkLength_37 : iIns M_Md_inkLength 37 (.dload_n 1) 1 := (by decide +kernel : decode prog_14_method_75_code 37 = .ok (.dload_n 1, 1))
theorem i_Md_inkLength_38 : iIns M_Md_inkLength 38 (.aload_n 0) 1 := (by decide +kernel : decode prog_14_method_75_code 38 = .ok (.aload_n 0, 1))
theorem i_Md_inkLength_39 : iGet M_Md_inkLength 39 14 30 := ⟨85, (by decide +kernel : decode prog_14_method_75_code 39 = .ok (.getfield 85, 3)), fl_Md_Md_segments⟩
theorem i_Md_inkLength_42 : iIns M_Md_inkLength 42 (.iload_n 3) 1 := (by decide +kernel : decode prog_14_method_75_code 42 = .ok (.iload_n 3, 1))
theorem i_Md_inkLength_43 : iIns M_Md_inkLength 43 .daload 1 := (by decide +kernel : decode prog_14_method_75_code 43 = .ok (.daload, 1))
theorem i_Md_inkLength_44 : iIns M_Md_inkLength 44 (.aload_n 0) 1 := (by decide +kernel : decode prog_14_method_75_code 44 = .ok (.aload_n 0, 1))
theorem i_Md_inkLength_45 : iGet M_Md_inkLength 45 14 30 := ⟨85, (by decide +kernel : decode prog_14_method_75_code 45 = .ok (.getfield 85, 3)), fl_Md_Md_segments⟩
theorem i_Md_inkLength_48 : iIns M_Md_inkLength 48 (.iload_n 3) 1 := (by decide +kernel : decode prog_14_method_75_code 48 = .ok (.iload_n 3, 1))
theorem i_Md_inkLength_49 : iIns M_Md_inkLength 49 (.iconst 2) 1 := (by decide +kernel : decode prog_14_method_75_code 49 = .ok (.iconst 2, 1))
theorem i_Md_inkLength_50 : iIns M_Md_inkLength 50 .iadd 1 := (by decide +kernel : decode prog_14_method_75_code 50 = .ok (.iadd, 1))
theorem i_Md_inkLength_51 : iIns M_Md_inkLength 51 .daload 1 := (by decide +kernel : decode prog_14_method_75_code 51 = .ok (.daload, 1))
theorem i_Md_inkLength_52 : iIns M_Md_inkLength 52 .dsub 1 := (by decide +kernel : decode prog_14_method_75_code 52 = .ok (.dsub, 1))
theorem i_Md_inkLength_53 : iCallS M_Md_inkLength 53 M_Ma_absD 1 := ⟨⟨302, (by decide +kernel : decode prog_14_method_75_code 53 = .ok (.invokestatic 302, 3)), lw_k7 195 rfl rfl⟩, sm_Ma_absD, me_Ma_absD, pn_Ma_absD⟩
theorem i_Md_inkLength_56 : iIns M_Md_inkLength 56 (.aload_n 0) 1 := (by decide +kernel : decode prog_14_method_75_code 56 = .ok (.aload_n 0, 1))
theorem i_Md_inkLength_57 : iGet M_Md_inkLength 57 14 30 := ⟨85, (by decide +kernel : decode prog_14_method_75_code 57 = .ok (.getfield 85, 3)), fl_Md_Md_segments⟩
theorem i_Md_inkLength_60 : iIns M_Md_inkLength 60 (.iload_n 3) 1 := (by decide +kernel : decode prog_14_method_75_code 60 = .ok (.iload_n 3, 1))
theorem i_Md_inkLength_61 : iIns M_Md_inkLength 61 (.iconst 1) 1 := (by decide +kernel : decode prog_14_method_75_code 61 = .ok (.iconst 1, 1))
theorem i_Md_inkLength_62 : iIns M_Md_inkLength 62 .iadd 1 := (by decide +kernel : decode prog_14_method_75_code 62 = .ok (.iadd, 1))
theorem i_Md_inkLength_63 : iIns M_Md_inkLength 63 .daload 1 := (by decide +kernel : decode prog_14_method_75_code 63 = .ok (.daload, 1))
theorem i_Md_inkLength_64 : iIns M_Md_inkLength 64 (.aload_n 0) 1 := (by decide +kernel : decode prog_14_method_75_code 64 = .ok (.aload_n 0, 1))
theorem i_Md_inkLength_65 : iGet M_Md_inkLength 65 14 30 := ⟨85, (by decide +kernel : decode prog_14_method_75_code 65 = .ok (.getfield 85, 3)), fl_Md_Md_segments⟩
theorem i_Md_inkLength_68 : iIns M_Md_inkLength 68 (.iload_n 3) 1 := (by decide +kernel : decode prog_14_method_75_code 68 = .ok (.iload_n 3, 1))
theorem i_Md_inkLength_69 : iIns M_Md_inkLength 69 (.iconst 3) 1 := (by decide +kernel : decode prog_14_method_75_code 69 = .ok (.iconst 3, 1))
theorem i_Md_inkLength_70 : iIns M_Md_inkLength 70 .iadd 1 := (by decide +kernel : decode prog_14_method_75_code 70 = .ok (.iadd, 1))
theorem i_Md_inkLength_71 : iIns M_Md_inkLength 71 .daload 1 := (by decide +kernel : decode prog_14_method_75_code 71 = .ok (.daload, 1))
theorem i_Md_inkLength_72 : iIns M_Md_inkLength 72 .dsub 1 := (by decide +kernel : decode prog_14_method_75_code 72 = .ok (.dsub, 1))
theorem i_Md_inkLength_73 : iCallS M_Md_inkLength 73 M_Ma_absD 1 := ⟨⟨302, (by decide +kernel : decode prog_14_method_75_code 73 = .ok (.invokestatic 302, 3)), lw_k7 195 rfl rfl⟩, sm_Ma_absD, me_Ma_absD, pn_Ma_absD⟩
theorem i_Md_inkLength_76 : iIns M_Md_inkLength 76 .dadd 1 := (by decide +kernel : decode prog_14_method_75_code 76 = .ok (.dadd, 1))
theorem i_Md_inkLength_77 : iIns M_Md_inkLength 77 .dadd 1 := (by decide +kernel : decode prog_14_method_75_code 77 = .ok (.dadd, 1))
theorem i_Md_inkLength_78 : iIns M_Md_inkLength 78 (.dstore_n 1) 1 := (by decide +kernel : decode prog_14_method_75_code 78 = .ok (.dstore_n 1, 1))
theorem i_Md_inkLength_79 : iIns M_Md_inkLength 79 (.iinc 3 (4)) 3 := (by decide +kernel : decode prog_14_method_75_code 79 = .ok (.iinc 3 (4), 3))
theorem i_Md_inkLength_82 : iGoto M_Md_inkLength 82 20 := ⟨-62, (by decide +kernel : decode prog_14_method_75_code 82 = .ok (.goto (-62), 3)), by decide⟩
theorem i_Md_inkLength_85 : iIns M_Md_inkLength 85 (.dload_n 1) 1 := (by decide +kernel : decode prog_14_method_75_code 85 = .ok (.dload_n 1, 1))
theorem i_Md_inkLength_86 : iIns M_Md_inkLength 86 .dreturn 1 := (by decide +kernel : decode prog_14_method_75_code 86 = .ok (.dreturn, 1))
theorem i_Md_extent_0 : iIns M_Md_extent 0 (.aload_n 0) 1 := (by decide +kernel : decode prog_14_method_76_code 0 = .ok (.aload_n 0, 1))
theorem i_Md_extent_1 : iIns M_Md_extent 1 (.iload_n 1) 1 := (by decide +kernel : decode prog_14_method_76_code 1 = .ok (.iload_n 1, 1))
theorem i_Md_extent_2 : iIns M_Md_extent 2 (.iconst 0) 1 := (by decide +kernel : decode prog_14_method_76_code 2 = .ok (.iconst 0, 1))
theorem i_Md_extent_3 : iIns M_Md_extent 3 (.iconst 3) 1 := (by decide +kernel : decode prog_14_method_76_code 3 = .ok (.iconst 3, 1))
theorem i_Md_extent_4 : iCallS M_Md_extent 4 M_Md_in 3 := ⟨⟨101, (by decide +kernel : decode prog_14_method_76_code 4 = .ok (.invokestatic 101, 3)), lw_k6 141 rfl rfl⟩, sm_Md_in, me_Md_in, pn_Md_in⟩
theorem i_Md_extent_7 : iIf M_Md_extent 7 .ne 14 := ⟨7, (by decide +kernel : decode prog_14_method_76_code 7 = .ok (.ifCond .ne (7), 3)), by decide⟩
theorem i_Md_extent_10 : iIns M_Md_extent 10 (.iconst 1) 1 := (by decide +kernel : decode prog_14_method_76_code 10 = .ok (.iconst 1, 1))
theorem i_Md_extent_11 : iGoto M_Md_extent 11 26 := ⟨15, (by decide +kernel : decode prog_14_method_76_code 11 = .ok (.goto (15), 3)), by decide⟩
theorem i_Md_extent_14 : iIns M_Md_extent 14 (.aload_n 0) 1 := (by decide +kernel : decode prog_14_method_76_code 14 = .ok (.aload_n 0, 1))
theorem i_Md_extent_15 : iCallV M_Md_extent 15 M_Md_carryOut 0 14 := ⟨⟨299, (by decide +kernel : decode prog_14_method_76_code 15 = .ok (.invokevirtual 299, 3)), lw_k7 178 rfl rfl⟩, vm_Md_carryOut, me_Md_carryOut, pn_Md_carryOut⟩
theorem i_Md_extent_18 : iIf M_Md_extent 18 .ne 25 := ⟨7, (by decide +kernel : decode prog_14_method_76_code 18 = .ok (.ifCond .ne (7), 3)), by decide⟩
theorem i_Md_extent_21 : iIns M_Md_extent 21 (.iconst 2) 1 := (by decide +kernel : decode prog_14_method_76_code 21 = .ok (.iconst 2, 1))
theorem i_Md_extent_22 : iGoto M_Md_extent 22 26 := ⟨4, (by decide +kernel : decode prog_14_method_76_code 22 = .ok (.goto (4), 3)), by decide⟩
theorem i_Md_extent_25 : iIns M_Md_extent 25 (.iconst 0) 1 := (by decide +kernel : decode prog_14_method_76_code 25 = .ok (.iconst 0, 1))
theorem i_Md_extent_26 : iPutX M_Md_extent 26 14 0 .int := ⟨97, (by decide +kernel : decode prog_14_method_76_code 26 = .ok (.putfield 97, 3)), px_Md_Md_thrown⟩
theorem i_Md_extent_29 : iIns M_Md_extent 29 (.dconst 0) 1 := (by decide +kernel : decode prog_14_method_76_code 29 = .ok (.dconst 0, 1))
theorem i_Md_extent_30 : iIns M_Md_extent 30 (.dstore_n 2) 1 := (by decide +kernel : decode prog_14_method_76_code 30 = .ok (.dstore_n 2, 1))
theorem i_Md_extent_31 : iIns M_Md_extent 31 (.iconst 0) 1 := (by decide +kernel : decode prog_14_method_76_code 31 = .ok (.iconst 0, 1))
theorem i_Md_extent_32 : iIns M_Md_extent 32 (.istore 4) 2 := (by decide +kernel : decode prog_14_method_76_code 32 = .ok (.istore 4, 2))
theorem i_Md_extent_34 : iIns M_Md_extent 34 (.aload_n 0) 1 := (by decide +kernel : decode prog_14_method_76_code 34 = .ok (.aload_n 0, 1))
theorem i_Md_extent_35 : iGet M_Md_extent 35 14 0 := ⟨97, (by decide +kernel : decode prog_14_method_76_code 35 = .ok (.getfield 97, 3)), fl_Md_Md_thrown⟩
theorem i_Md_extent_38 : iIf M_Md_extent 38 .ne 104 := ⟨66, (by decide +kernel : decode prog_14_method_76_code 38 = .ok (.ifCond .ne (66), 3)), by decide⟩
theorem i_Md_extent_41 : iIns M_Md_extent 41 (.iload 4) 2 := (by decide +kernel : decode prog_14_method_76_code 41 = .ok (.iload 4, 2))
theorem i_Md_extent_43 : iIns M_Md_extent 43 (.aload_n 0) 1 := (by decide +kernel : decode prog_14_method_76_code 43 = .ok (.aload_n 0, 1))
theorem i_Md_extent_44 : iGet M_Md_extent 44 14 2 := ⟨13, (by decide +kernel : decode prog_14_method_76_code 44 = .ok (.getfield 13, 3)), fl_Md_Md_word⟩
theorem i_Md_extent_47 : iIns M_Md_extent 47 (.iconst 0) 1 := (by decide +kernel : decode prog_14_method_76_code 47 = .ok (.iconst 0, 1))
theorem i_Md_extent_48 : iIns M_Md_extent 48 .iaload 1 := (by decide +kernel : decode prog_14_method_76_code 48 = .ok (.iaload, 1))
theorem i_Md_extent_49 : iIcmp M_Md_extent 49 .gt 104 := ⟨55, (by decide +kernel : decode prog_14_method_76_code 49 = .ok (.if_icmp .gt (55), 3)), by decide⟩
theorem i_Md_extent_52 : iIns M_Md_extent 52 (.iload_n 1) 1 := (by decide +kernel : decode prog_14_method_76_code 52 = .ok (.iload_n 1, 1))
theorem i_Md_extent_53 : iIns M_Md_extent 53 (.iconst 2) 1 := (by decide +kernel : decode prog_14_method_76_code 53 = .ok (.iconst 2, 1))
theorem i_Md_extent_54 : iIcmp M_Md_extent 54 .ge 67 := ⟨13, (by decide +kernel : decode prog_14_method_76_code 54 = .ok (.if_icmp .ge (13), 3)), by decide⟩
theorem i_Md_extent_57 : iIns M_Md_extent 57 (.aload_n 0) 1 := (by decide +kernel : decode prog_14_method_76_code 57 = .ok (.aload_n 0, 1))
theorem i_Md_extent_58 : iGet M_Md_extent 58 14 26 := ⟨75, (by decide +kernel : decode prog_14_method_76_code 58 = .ok (.getfield 75, 3)), fl_Md_Md_xs⟩
theorem i_Md_extent_61 : iIns M_Md_extent 61 (.iload 4) 2 := (by decide +kernel : decode prog_14_method_76_code 61 = .ok (.iload 4, 2))
theorem i_Md_extent_63 : iIns M_Md_extent 63 .daload 1 := (by decide +kernel : decode prog_14_method_76_code 63 = .ok (.daload, 1))
theorem i_Md_extent_64 : iGoto M_Md_extent 64 74 := ⟨10, (by decide +kernel : decode prog_14_method_76_code 64 = .ok (.goto (10), 3)), by decide⟩
theorem i_Md_extent_67 : iIns M_Md_extent 67 (.aload_n 0) 1 := (by decide +kernel : decode prog_14_method_76_code 67 = .ok (.aload_n 0, 1))
theorem i_Md_extent_68 : iGet M_Md_extent 68 14 27 := ⟨79, (by decide +kernel : decode prog_14_method_76_code 68 = .ok (.getfield 79, 3)), fl_Md_Md_ys⟩
theorem i_Md_extent_71 : iIns M_Md_extent 71 (.iload 4) 2 := (by decide +kernel : decode prog_14_method_76_code 71 = .ok (.iload 4, 2))
theorem i_Md_extent_73 : iIns M_Md_extent 73 .daload 1 := (by decide +kernel : decode prog_14_method_76_code 73 = .ok (.daload, 1))
theorem i_Md_extent_74 : iIns M_Md_extent 74 (.dstore 5) 2 := (by decide +kernel : decode prog_14_method_76_code 74 = .ok (.dstore 5, 2))
theorem i_Md_extent_76 : iIns M_Md_extent 76 (.iload_n 1) 1 := (by decide +kernel : decode prog_14_method_76_code 76 = .ok (.iload_n 1, 1))
theorem i_Md_extent_77 : iIns M_Md_extent 77 (.iconst 2) 1 := (by decide +kernel : decode prog_14_method_76_code 77 = .ok (.iconst 2, 1))
theorem i_Md_extent_78 : iIns M_Md_extent 78 .irem 1 := (by decide +kernel : decode prog_14_method_76_code 78 = .ok (.irem, 1))
theorem i_Md_extent_79 : iIf M_Md_extent 79 .ne 91 := ⟨12, (by decide +kernel : decode prog_14_method_76_code 79 = .ok (.ifCond .ne (12), 3)), by decide⟩
theorem i_Md_extent_82 : iIns M_Md_extent 82 (.dload_n 2) 1 := (by decide +kernel : decode prog_14_method_76_code 82 = .ok (.dload_n 2, 1))
theorem i_Md_extent_83 : iIns M_Md_extent 83 (.dload 5) 2 := (by decide +kernel : decode prog_14_method_76_code 83 = .ok (.dload 5, 2))
theorem i_Md_extent_85 : iCallS M_Md_extent 85 M_Ma_minD 2 := ⟨⟨306, (by decide +kernel : decode prog_14_method_76_code 85 = .ok (.invokestatic 306, 3)), lw_k7 209 rfl rfl⟩, sm_Ma_minD, me_Ma_minD, pn_Ma_minD⟩
theorem i_Md_extent_88 : iGoto M_Md_extent 88 97 := ⟨9, (by decide +kernel : decode prog_14_method_76_code 88 = .ok (.goto (9), 3)), by decide⟩
theorem i_Md_extent_91 : iIns M_Md_extent 91 (.dload_n 2) 1 := (by decide +kernel : decode prog_14_method_76_code 91 = .ok (.dload_n 2, 1))
theorem i_Md_extent_92 : iIns M_Md_extent 92 (.dload 5) 2 := (by decide +kernel : decode prog_14_method_76_code 92 = .ok (.dload 5, 2))
theorem i_Md_extent_94 : iCallS M_Md_extent 94 M_Ma_maxD 2 := ⟨⟨310, (by decide +kernel : decode prog_14_method_76_code 94 = .ok (.invokestatic 310, 3)), lw_k7 214 rfl rfl⟩, sm_Ma_maxD, me_Ma_maxD, pn_Ma_maxD⟩
theorem i_Md_extent_97 : iIns M_Md_extent 97 (.dstore_n 2) 1 := (by decide +kernel : decode prog_14_method_76_code 97 = .ok (.dstore_n 2, 1))
theorem i_Md_extent_98 : iIns M_Md_extent 98 (.iinc 4 (1)) 3 := (by decide +kernel : decode prog_14_method_76_code 98 = .ok (.iinc 4 (1), 3))
theorem i_Md_extent_101 : iGoto M_Md_extent 101 34 := ⟨-67, (by decide +kernel : decode prog_14_method_76_code 101 = .ok (.goto (-67), 3)), by decide⟩
theorem i_Md_extent_104 : iIns M_Md_extent 104 (.dload_n 2) 1 := (by decide +kernel : decode prog_14_method_76_code 104 = .ok (.dload_n 2, 1))
theorem i_Md_extent_105 : iIns M_Md_extent 105 .dreturn 1 := (by decide +kernel : decode prog_14_method_76_code 105 = .ok (.dreturn, 1))
theorem i_Md_openDepth_0 : iIns M_Md_openDepth 0 (.aload_n 0) 1 := (by decide +kernel : decode prog_14_method_77_code 0 = .ok (.aload_n 0, 1))
theorem i_Md_openDepth_1 : iIns M_Md_openDepth 1 (.aload_n 0) 1 := (by decide +kernel : decode prog_14_method_77_code 1 = .ok (.aload_n 0, 1))
theorem i_Md_openDepth_2 : iCallV M_Md_openDepth 2 M_Md_carryOut 0 14 := ⟨⟨299, (by decide +kernel : decode prog_14_method_77_code 2 = .ok (.invokevirtual 299, 3)), lw_k7 178 rfl rfl⟩, vm_Md_carryOut, me_Md_carryOut, pn_Md_carryOut⟩
theorem i_Md_openDepth_5 : iIf M_Md_openDepth 5 .eq 12 := ⟨7, (by decide +kernel : decode prog_14_method_77_code 5 = .ok (.ifCond .eq (7), 3)), by decide⟩
theorem i_Md_openDepth_8 : iIns M_Md_openDepth 8 (.iconst 0) 1 := (by decide +kernel : decode prog_14_method_77_code 8 = .ok (.iconst 0, 1))
theorem i_Md_openDepth_9 : iGoto M_Md_openDepth 9 13 := ⟨4, (by decide +kernel : decode prog_14_method_77_code 9 = .ok (.goto (4), 3)), by decide⟩
theorem i_Md_openDepth_12 : iIns M_Md_openDepth 12 (.iconst 1) 1 := (by decide +kernel : decode prog_14_method_77_code 12 = .ok (.iconst 1, 1))
theorem i_Md_openDepth_13 : iPutX M_Md_openDepth 13 14 0 .int := ⟨97, (by decide +kernel : decode prog_14_method_77_code 13 = .ok (.putfield 97, 3)), px_Md_Md_thrown⟩
theorem i_Md_openDepth_16 : iIns M_Md_openDepth 16 (.aload_n 0) 1 := (by decide +kernel : decode prog_14_method_77_code 16 = .ok (.aload_n 0, 1))
theorem i_Md_openDepth_17 : iGet M_Md_openDepth 17 14 0 := ⟨97, (by decide +kernel : decode prog_14_method_77_code 17 = .ok (.getfield 97, 3)), fl_Md_Md_thrown⟩
theorem i_Md_openDepth_20 : iIf M_Md_openDepth 20 .le 27 := ⟨7, (by decide +kernel : decode prog_14_method_77_code 20 = .ok (.ifCond .le (7), 3)), by decide⟩
theorem i_Md_openDepth_23 : iIns M_Md_openDepth 23 (.iconst 0) 1 := (by decide +kernel : decode prog_14_method_77_code 23 = .ok (.iconst 0, 1))
theorem i_Md_openDepth_24 : iGoto M_Md_openDepth 24 31 := ⟨7, (by decide +kernel : decode prog_14_method_77_code 24 = .ok (.goto (7), 3)), by decide⟩
theorem i_Md_openDepth_27 : iIns M_Md_openDepth 27 (.aload_n 0) 1 := (by decide +kernel : decode prog_14_method_77_code 27 = .ok (.aload_n 0, 1))
theorem i_Md_openDepth_28 : iGet M_Md_openDepth 28 14 29 := ⟨290, (by decide +kernel : decode prog_14_method_77_code 28 = .ok (.getfield 290, 3)), fl_Md_Md_most⟩
theorem i_Md_openDepth_31 : iIns M_Md_openDepth 31 .ireturn 1 := (by decide +kernel : decode prog_14_method_77_code 31 = .ok (.ireturn, 1))
theorem i_Md_keepPoints_0 : iIns M_Md_keepPoints 0 (.aload_n 0) 1 := (by decide +kernel : decode prog_14_method_78_code 0 = .ok (.aload_n 0, 1))
theorem i_Md_keepPoints_1 : iIns M_Md_keepPoints 1 (.iload_n 1) 1 := (by decide +kernel : decode prog_14_method_78_code 1 = .ok (.iload_n 1, 1))
theorem i_Md_keepPoints_2 : iIns M_Md_keepPoints 2 (.iconst 0) 1 := (by decide +kernel : decode prog_14_method_78_code 2 = .ok (.iconst 0, 1))
theorem i_Md_keepPoints_3 : iIns M_Md_keepPoints 3 (.iconst 1) 1 := (by decide +kernel : decode prog_14_method_78_code 3 = .ok (.iconst 1, 1))
theorem i_Md_keepPoints_4 : iCallS M_Md_keepPoints 4 M_Md_in 3 := ⟨⟨101, (by decide +kernel : decode prog_14_method_78_code 4 = .ok (.invokestatic 101, 3)), lw_k6 141 rfl rfl⟩, sm_Md_in, me_Md_in, pn_Md_in⟩
theorem i_Md_keepPoints_7 : iIf M_Md_keepPoints 7 .ne 14 := ⟨7, (by decide +kernel : decode prog_14_method_78_code 7 = .ok (.ifCond .ne (7), 3)), by decide⟩
theorem i_Md_keepPoints_10 : iIns M_Md_keepPoints 10 (.iconst 1) 1 := (by decide +kernel : decode prog_14_method_78_code 10 = .ok (.iconst 1, 1))
theorem i_Md_keepPoints_11 : iGoto M_Md_keepPoints 11 26 := ⟨15, (by decide +kernel : decode prog_14_method_78_code 11 = .ok (.goto (15), 3)), by decide⟩
theorem i_Md_keepPoints_14 : iIns M_Md_keepPoints 14 (.aload_n 0) 1 := (by decide +kernel : decode prog_14_method_78_code 14 = .ok (.aload_n 0, 1))
theorem i_Md_keepPoints_15 : iCallV M_Md_keepPoints 15 M_Md_carryOut 0 14 := ⟨⟨299, (by decide +kernel : decode prog_14_method_78_code 15 = .ok (.invokevirtual 299, 3)), lw_k7 178 rfl rfl⟩, vm_Md_carryOut, me_Md_carryOut, pn_Md_carryOut⟩
theorem i_Md_keepPoints_18 : iIf M_Md_keepPoints 18 .ne 25 := ⟨7, (by decide +kernel : decode prog_14_method_78_code 18 = .ok (.ifCond .ne (7), 3)), by decide⟩
theorem i_Md_keepPoints_21 : iIns M_Md_keepPoints 21 (.iconst 2) 1 := (by decide +kernel : decode prog_14_method_78_code 21 = .ok (.iconst 2, 1))
theorem i_Md_keepPoints_22 : iGoto M_Md_keepPoints 22 26 := ⟨4, (by decide +kernel : decode prog_14_method_78_code 22 = .ok (.goto (4), 3)), by decide⟩
theorem i_Md_keepPoints_25 : iIns M_Md_keepPoints 25 (.iconst 0) 1 := (by decide +kernel : decode prog_14_method_78_code 25 = .ok (.iconst 0, 1))
theorem i_Md_keepPoints_26 : iPutX M_Md_keepPoints 26 14 0 .int := ⟨97, (by decide +kernel : decode prog_14_method_78_code 26 = .ok (.putfield 97, 3)), px_Md_Md_thrown⟩
theorem i_Md_keepPoints_29 : iIns M_Md_keepPoints 29 (.aload_n 0) 1 := (by decide +kernel : decode prog_14_method_78_code 29 = .ok (.aload_n 0, 1))
theorem i_Md_keepPoints_30 : iGet M_Md_keepPoints 30 14 0 := ⟨97, (by decide +kernel : decode prog_14_method_78_code 30 = .ok (.getfield 97, 3)), fl_Md_Md_thrown⟩
theorem i_Md_keepPoints_33 : iIf M_Md_keepPoints 33 .le 38 := ⟨5, (by decide +kernel : decode prog_14_method_78_code 33 = .ok (.ifCond .le (5), 3)), by decide⟩
theorem i_Md_keepPoints_36 : iIns M_Md_keepPoints 36 (.iconst 0) 1 := (by decide +kernel : decode prog_14_method_78_code 36 = .ok (.iconst 0, 1))
theorem i_Md_keepPoints_37 : iIns M_Md_keepPoints 37 .ireturn 1 := (by decide +kernel : decode prog_14_method_78_code 37 = .ok (.ireturn, 1))
theorem i_Md_keepPoints_38 : iIns M_Md_keepPoints 38 (.iconst 0) 1 := (by decide +kernel : decode prog_14_method_78_code 38 = .ok (.iconst 0, 1))
theorem i_Md_keepPoints_39 : iIns M_Md_keepPoints 39 (.istore_n 3) 1 := (by decide +kernel : decode prog_14_method_78_code 39 = .ok (.istore_n 3, 1))
theorem i_Md_keepPoints_40 : iIns M_Md_keepPoints 40 (.iload_n 3) 1 := (by decide +kernel : decode prog_14_method_78_code 40 = .ok (.iload_n 3, 1))
theorem i_Md_keepPoints_41 : iIns M_Md_keepPoints 41 (.aload_n 0) 1 := (by decide +kernel : decode prog_14_method_78_code 41 = .ok (.aload_n 0, 1))
theorem i_Md_keepPoints_42 : iGet M_Md_keepPoints 42 14 2 := ⟨13, (by decide +kernel : decode prog_14_method_78_code 42 = .ok (.getfield 13, 3)), fl_Md_Md_word⟩
theorem i_Md_keepPoints_45 : iIns M_Md_keepPoints 45 (.iconst 0) 1 := (by decide +kernel : decode prog_14_method_78_code 45 = .ok (.iconst 0, 1))
theorem i_Md_keepPoints_46 : iIns M_Md_keepPoints 46 .iaload 1 := (by decide +kernel : decode prog_14_method_78_code 46 = .ok (.iaload, 1))
theorem i_Md_keepPoints_47 : iIcmp M_Md_keepPoints 47 .gt 126 := ⟨79, (by decide +kernel : decode prog_14_method_78_code 47 = .ok (.if_icmp .gt (79), 3)), by decide⟩
theorem i_Md_keepPoints_50 : iIns M_Md_keepPoints 50 (.aload_n 0) 1 := (by decide +kernel : decode prog_14_method_78_code 50 = .ok (.aload_n 0, 1))
theorem i_Md_keepPoints_51 : iGet M_Md_keepPoints 51 14 34 := ⟨94, (by decide +kernel : decode prog_14_method_78_code 51 = .ok (.getfield 94, 3)), fl_Md_Md_elements⟩
theorem i_Md_keepPoints_54 : iIns M_Md_keepPoints 54 (.bipush 122) 2 := (by decide +kernel : decode prog_14_method_78_code 54 = .ok (.bipush 122, 2))
theorem i_Md_keepPoints_56 : iIns M_Md_keepPoints 56 (.iload_n 1) 1 := (by decide +kernel : decode prog_14_method_78_code 56 = .ok (.iload_n 1, 1))
theorem i_Md_keepPoints_57 : iIns M_Md_keepPoints 57 .imul 1 := (by decide +kernel : decode prog_14_method_78_code 57 = .ok (.imul, 1))
theorem i_Md_keepPoints_58 : iIns M_Md_keepPoints 58 (.iconst 2) 1 := (by decide +kernel : decode prog_14_method_78_code 58 = .ok (.iconst 2, 1))
theorem i_Md_keepPoints_59 : iIns M_Md_keepPoints 59 (.iload_n 3) 1 := (by decide +kernel : decode prog_14_method_78_code 59 = .ok (.iload_n 3, 1))
theorem i_Md_keepPoints_60 : iIns M_Md_keepPoints 60 .imul 1 := (by decide +kernel : decode prog_14_method_78_code 60 = .ok (.imul, 1))
theorem i_Md_keepPoints_61 : iIns M_Md_keepPoints 61 .iadd 1 := (by decide +kernel : decode prog_14_method_78_code 61 = .ok (.iadd, 1))
theorem i_Md_keepPoints_62 : iIns M_Md_keepPoints 62 (.iload_n 2) 1 := (by decide +kernel : decode prog_14_method_78_code 62 = .ok (.iload_n 2, 1))
theorem i_Md_keepPoints_63 : iIf M_Md_keepPoints 63 .eq 77 := ⟨14, (by decide +kernel : decode prog_14_method_78_code 63 = .ok (.ifCond .eq (14), 3)), by decide⟩
theorem i_Md_keepPoints_66 : iIns M_Md_keepPoints 66 (.aload_n 0) 1 := (by decide +kernel : decode prog_14_method_78_code 66 = .ok (.aload_n 0, 1))
theorem i_Md_keepPoints_67 : iGet M_Md_keepPoints 67 14 26 := ⟨75, (by decide +kernel : decode prog_14_method_78_code 67 = .ok (.getfield 75, 3)), fl_Md_Md_xs⟩
theorem i_Md_keepPoints_70 : iIns M_Md_keepPoints 70 (.iload_n 3) 1 := (by decide +kernel : decode prog_14_method_78_code 70 = .ok (.iload_n 3, 1))
theorem i_Md_keepPoints_71 : iIns M_Md_keepPoints 71 .daload 1 := (by decide +kernel : decode prog_14_method_78_code 71 = .ok (.daload, 1))
theorem i_Md_keepPoints_72 : iIns M_Md_keepPoints 72 .d2f 1 := (by decide +kernel : decode prog_14_method_78_code 72 = .ok (.d2f, 1))
theorem i_Md_keepPoints_73 : iIns M_Md_keepPoints 73 .f2d 1 := (by decide +kernel : decode prog_14_method_78_code 73 = .ok (.f2d, 1))
theorem i_Md_keepPoints_74 : iGoto M_Md_keepPoints 74 83 := ⟨9, (by decide +kernel : decode prog_14_method_78_code 74 = .ok (.goto (9), 3)), by decide⟩
theorem i_Md_keepPoints_77 : iIns M_Md_keepPoints 77 (.aload_n 0) 1 := (by decide +kernel : decode prog_14_method_78_code 77 = .ok (.aload_n 0, 1))
theorem i_Md_keepPoints_78 : iGet M_Md_keepPoints 78 14 26 := ⟨75, (by decide +kernel : decode prog_14_method_78_code 78 = .ok (.getfield 75, 3)), fl_Md_Md_xs⟩
theorem i_Md_keepPoints_81 : iIns M_Md_keepPoints 81 (.iload_n 3) 1 := (by decide +kernel : decode prog_14_method_78_code 81 = .ok (.iload_n 3, 1))
theorem i_Md_keepPoints_82 : iIns M_Md_keepPoints 82 .daload 1 := (by decide +kernel : decode prog_14_method_78_code 82 = .ok (.daload, 1))
theorem i_Md_keepPoints_83 : iIns M_Md_keepPoints 83 .dastore 1 := (by decide +kernel : decode prog_14_method_78_code 83 = .ok (.dastore, 1))
theorem i_Md_keepPoints_84 : iIns M_Md_keepPoints 84 (.aload_n 0) 1 := (by decide +kernel : decode prog_14_method_78_code 84 = .ok (.aload_n 0, 1))
theorem i_Md_keepPoints_85 : iGet M_Md_keepPoints 85 14 34 := ⟨94, (by decide +kernel : decode prog_14_method_78_code 85 = .ok (.getfield 94, 3)), fl_Md_Md_elements⟩
theorem i_Md_keepPoints_88 : iIns M_Md_keepPoints 88 (.bipush 122) 2 := (by decide +kernel : decode prog_14_method_78_code 88 = .ok (.bipush 122, 2))
theorem i_Md_keepPoints_90 : iIns M_Md_keepPoints 90 (.iload_n 1) 1 := (by decide +kernel : decode prog_14_method_78_code 90 = .ok (.iload_n 1, 1))
theorem i_Md_keepPoints_91 : iIns M_Md_keepPoints 91 .imul 1 := (by decide +kernel : decode prog_14_method_78_code 91 = .ok (.imul, 1))
theorem i_Md_keepPoints_92 : iIns M_Md_keepPoints 92 (.iconst 2) 1 := (by decide +kernel : decode prog_14_method_78_code 92 = .ok (.iconst 2, 1))
theorem i_Md_keepPoints_93 : iIns M_Md_keepPoints 93 (.iload_n 3) 1 := (by decide +kernel : decode prog_14_method_78_code 93 = .ok (.iload_n 3, 1))
theorem i_Md_keepPoints_94 : iIns M_Md_keepPoints 94 .imul 1 := (by decide +kernel : decode prog_14_method_78_code 94 = .ok (.imul, 1))
theorem i_Md_keepPoints_95 : iIns M_Md_keepPoints 95 .iadd 1 := (by decide +kernel : decode prog_14_method_78_code 95 = .ok (.iadd, 1))
theorem i_Md_keepPoints_96 : iIns M_Md_keepPoints 96 (.iconst 1) 1 := (by decide +kernel : decode prog_14_method_78_code 96 = .ok (.iconst 1, 1))
theorem i_Md_keepPoints_97 : iIns M_Md_keepPoints 97 .iadd 1 := (by decide +kernel : decode prog_14_method_78_code 97 = .ok (.iadd, 1))
theorem i_Md_keepPoints_98 : iIns M_Md_keepPoints 98 (.iload_n 2) 1 := (by decide +kernel : decode prog_14_method_78_code 98 = .ok (.iload_n 2, 1))
theorem i_Md_keepPoints_99 : iIf M_Md_keepPoints 99 .eq 113 := ⟨14, (by decide +kernel : decode prog_14_method_78_code 99 = .ok (.ifCond .eq (14), 3)), by decide⟩
theorem i_Md_keepPoints_102 : iIns M_Md_keepPoints 102 (.aload_n 0) 1 := (by decide +kernel : decode prog_14_method_78_code 102 = .ok (.aload_n 0, 1))
theorem i_Md_keepPoints_103 : iGet M_Md_keepPoints 103 14 27 := ⟨79, (by decide +kernel : decode prog_14_method_78_code 103 = .ok (.getfield 79, 3)), fl_Md_Md_ys⟩
theorem i_Md_keepPoints_106 : iIns M_Md_keepPoints 106 (.iload_n 3) 1 := (by decide +kernel : decode prog_14_method_78_code 106 = .ok (.iload_n 3, 1))
theorem i_Md_keepPoints_107 : iIns M_Md_keepPoints 107 .daload 1 := (by decide +kernel : decode prog_14_method_78_code 107 = .ok (.daload, 1))
theorem i_Md_keepPoints_108 : iIns M_Md_keepPoints 108 .d2f 1 := (by decide +kernel : decode prog_14_method_78_code 108 = .ok (.d2f, 1))
theorem i_Md_keepPoints_109 : iIns M_Md_keepPoints 109 .f2d 1 := (by decide +kernel : decode prog_14_method_78_code 109 = .ok (.f2d, 1))
theorem i_Md_keepPoints_110 : iGoto M_Md_keepPoints 110 119 := ⟨9, (by decide +kernel : decode prog_14_method_78_code 110 = .ok (.goto (9), 3)), by decide⟩
theorem i_Md_keepPoints_113 : iIns M_Md_keepPoints 113 (.aload_n 0) 1 := (by decide +kernel : decode prog_14_method_78_code 113 = .ok (.aload_n 0, 1))
theorem i_Md_keepPoints_114 : iGet M_Md_keepPoints 114 14 27 := ⟨79, (by decide +kernel : decode prog_14_method_78_code 114 = .ok (.getfield 79, 3)), fl_Md_Md_ys⟩
theorem i_Md_keepPoints_117 : iIns M_Md_keepPoints 117 (.iload_n 3) 1 := (by decide +kernel : decode prog_14_method_78_code 117 = .ok (.iload_n 3, 1))
theorem i_Md_keepPoints_118 : iIns M_Md_keepPoints 118 .daload 1 := (by decide +kernel : decode prog_14_method_78_code 118 = .ok (.daload, 1))
theorem i_Md_keepPoints_119 : iIns M_Md_keepPoints 119 .dastore 1 := (by decide +kernel : decode prog_14_method_78_code 119 = .ok (.dastore, 1))
theorem i_Md_keepPoints_120 : iIns M_Md_keepPoints 120 (.iinc 3 (1)) 3 := (by decide +kernel : decode prog_14_method_78_code 120 = .ok (.iinc 3 (1), 3))
theorem i_Md_keepPoints_123 : iGoto M_Md_keepPoints 123 40 := ⟨-83, (by decide +kernel : decode prog_14_method_78_code 123 = .ok (.goto (-83), 3)), by decide⟩
theorem i_Md_keepPoints_126 : iIns M_Md_keepPoints 126 (.aload_n 0) 1 := (by decide +kernel : decode prog_14_method_78_code 126 = .ok (.aload_n 0, 1))
theorem i_Md_keepPoints_127 : iGet M_Md_keepPoints 127 14 33 := ⟨91, (by decide +kernel : decode prog_14_method_78_code 127 = .ok (.getfield 91, 3)), fl_Md_Md_isSingle⟩
theorem i_Md_keepPoints_130 : iIns M_Md_keepPoints 130 (.iload_n 1) 1 := (by decide +kernel : decode prog_14_method_78_code 130 = .ok (.iload_n 1, 1))
theorem i_Md_keepPoints_131 : iIns M_Md_keepPoints 131 (.iload_n 2) 1 := (by decide +kernel : decode prog_14_method_78_code 131 = .ok (.iload_n 2, 1))
theorem i_Md_keepPoints_132 : iIns M_Md_keepPoints 132 .bastore 1 := (by decide +kernel : decode prog_14_method_78_code 132 = .ok (.bastore, 1))
theorem i_Md_keepPoints_133 : iIns M_Md_keepPoints 133 (.aload_n 0) 1 := (by decide +kernel : decode prog_14_method_78_code 133 = .ok (.aload_n 0, 1))
theorem i_Md_keepPoints_134 : iGet M_Md_keepPoints 134 14 32 := ⟨88, (by decide +kernel : decode prog_14_method_78_code 134 = .ok (.getfield 88, 3)), fl_Md_Md_sizes⟩
theorem i_Md_keepPoints_137 : iIns M_Md_keepPoints 137 (.iload_n 1) 1 := (by decide +kernel : decode prog_14_method_78_code 137 = .ok (.iload_n 1, 1))
theorem i_Md_keepPoints_138 : iIns M_Md_keepPoints 138 (.iconst 2) 1 := (by decide +kernel : decode prog_14_method_78_code 138 = .ok (.iconst 2, 1))
theorem i_Md_keepPoints_139 : iIns M_Md_keepPoints 139 (.aload_n 0) 1 := (by decide +kernel : decode prog_14_method_78_code 139 = .ok (.aload_n 0, 1))
theorem i_Md_keepPoints_140 : iGet M_Md_keepPoints 140 14 2 := ⟨13, (by decide +kernel : decode prog_14_method_78_code 140 = .ok (.getfield 13, 3)), fl_Md_Md_word⟩
theorem i_Md_keepPoints_143 : iIns M_Md_keepPoints 143 (.iconst 0) 1 := (by decide +kernel : decode prog_14_method_78_code 143 = .ok (.iconst 0, 1))
theorem i_Md_keepPoints_144 : iIns M_Md_keepPoints 144 .iaload 1 := (by decide +kernel : decode prog_14_method_78_code 144 = .ok (.iaload, 1))
theorem i_Md_keepPoints_145 : iIns M_Md_keepPoints 145 (.iconst 1) 1 := (by decide +kernel : decode prog_14_method_78_code 145 = .ok (.iconst 1, 1))
theorem i_Md_keepPoints_146 : iIns M_Md_keepPoints 146 .iadd 1 := (by decide +kernel : decode prog_14_method_78_code 146 = .ok (.iadd, 1))
theorem i_Md_keepPoints_147 : iIns M_Md_keepPoints 147 .imul 1 := (by decide +kernel : decode prog_14_method_78_code 147 = .ok (.imul, 1))
theorem i_Md_keepPoints_148 : iIns M_Md_keepPoints 148 .iastore 1 := (by decide +kernel : decode prog_14_method_78_code 148 = .ok (.iastore, 1))
theorem i_Md_keepPoints_149 : iIns M_Md_keepPoints 149 (.aload_n 0) 1 := (by decide +kernel : decode prog_14_method_78_code 149 = .ok (.aload_n 0, 1))
theorem i_Md_keepPoints_150 : iGet M_Md_keepPoints 150 14 32 := ⟨88, (by decide +kernel : decode prog_14_method_78_code 150 = .ok (.getfield 88, 3)), fl_Md_Md_sizes⟩
theorem i_Md_keepPoints_153 : iIns M_Md_keepPoints 153 (.iload_n 1) 1 := (by decide +kernel : decode prog_14_method_78_code 153 = .ok (.iload_n 1, 1))
theorem i_Md_keepPoints_154 : iIns M_Md_keepPoints 154 .iaload 1 := (by decide +kernel : decode prog_14_method_78_code 154 = .ok (.iaload, 1))
theorem i_Md_keepPoints_155 : iIns M_Md_keepPoints 155 .ireturn 1 := (by decide +kernel : decode prog_14_method_78_code 155 = .ok (.ireturn, 1))
theorem i_Md_remainder_0 : iIns M_Md_remainder 0 (.aload_n 0) 1 := (by decide +kernel : decode prog_14_method_79_code 0 = .ok (.aload_n 0, 1))
theorem i_Md_remainder_1 : iIns M_Md_remainder 1 (.iload_n 1) 1 := (by decide +kernel : decode prog_14_method_79_code 1 = .ok (.iload_n 1, 1))
theorem i_Md_remainder_2 : iIns M_Md_remainder 2 (.iconst 0) 1 := (by decide +kernel : decode prog_14_method_79_code 2 = .ok (.iconst 0, 1))
theorem i_Md_remainder_3 : iIns M_Md_remainder 3 (.iconst 1) 1 := (by decide +kernel : decode prog_14_method_79_code 3 = .ok (.iconst 1, 1))
theorem i_Md_remainder_4 : iCallS M_Md_remainder 4 M_Md_in 3 := ⟨⟨101, (by decide +kernel : decode prog_14_method_79_code 4 = .ok (.invokestatic 101, 3)), lw_k6 141 rfl rfl⟩, sm_Md_in, me_Md_in, pn_Md_in⟩
theorem i_Md_remainder_7 : iIf M_Md_remainder 7 .ne 14 := ⟨7, (by decide +kernel : decode prog_14_method_79_code 7 = .ok (.ifCond .ne (7), 3)), by decide⟩
theorem i_Md_remainder_10 : iIns M_Md_remainder 10 (.iconst 1) 1 := (by decide +kernel : decode prog_14_method_79_code 10 = .ok (.iconst 1, 1))
theorem i_Md_remainder_11 : iGoto M_Md_remainder 11 84 := ⟨73, (by decide +kernel : decode prog_14_method_79_code 11 = .ok (.goto (73), 3)), by decide⟩
theorem i_Md_remainder_14 : iIns M_Md_remainder 14 (.aload_n 0) 1 := (by decide +kernel : decode prog_14_method_79_code 14 = .ok (.aload_n 0, 1))
theorem i_Md_remainder_15 : iGet M_Md_remainder 15 14 32 := ⟨88, (by decide +kernel : decode prog_14_method_79_code 15 = .ok (.getfield 88, 3)), fl_Md_Md_sizes⟩
theorem i_Md_remainder_18 : iIns M_Md_remainder 18 (.iload_n 1) 1 := (by decide +kernel : decode prog_14_method_79_code 18 = .ok (.iload_n 1, 1))
theorem i_Md_remainder_19 : iIns M_Md_remainder 19 .iaload 1 := (by decide +kernel : decode prog_14_method_79_code 19 = .ok (.iaload, 1))
theorem i_Md_remainder_20 : iIf M_Md_remainder 20 .ge 27 := ⟨7, (by decide +kernel : decode prog_14_method_79_code 20 = .ok (.ifCond .ge (7), 3)), by decide⟩
theorem i_Md_remainder_23 : iIns M_Md_remainder 23 (.iconst 2) 1 := (by decide +kernel : decode prog_14_method_79_code 23 = .ok (.iconst 2, 1))
theorem i_Md_remainder_24 : iGoto M_Md_remainder 24 84 := ⟨60, (by decide +kernel : decode prog_14_method_79_code 24 = .ok (.goto (60), 3)), by decide⟩
theorem i_Md_remainder_27 : iIns M_Md_remainder 27 (.iload_n 2) 1 := (by decide +kernel : decode prog_14_method_79_code 27 = .ok (.iload_n 2, 1))
theorem i_Md_remainder_28 : iIns M_Md_remainder 28 (.iconst 0) 1 := (by decide +kernel : decode prog_14_method_79_code 28 = .ok (.iconst 0, 1))
theorem i_Md_remainder_29 : iIns M_Md_remainder 29 (.aload_n 0) 1 := (by decide +kernel : decode prog_14_method_79_code 29 = .ok (.aload_n 0, 1))
theorem i_Md_remainder_30 : iGet M_Md_remainder 30 14 32 := ⟨88, (by decide +kernel : decode prog_14_method_79_code 30 = .ok (.getfield 88, 3)), fl_Md_Md_sizes⟩
theorem i_Md_remainder_33 : iIns M_Md_remainder 33 (.iload_n 1) 1 := (by decide +kernel : decode prog_14_method_79_code 33 = .ok (.iload_n 1, 1))
theorem i_Md_remainder_34 : iIns M_Md_remainder 34 .iaload 1 := (by decide +kernel : decode prog_14_method_79_code 34 = .ok (.iaload, 1))
theorem i_Md_remainder_35 : iIns M_Md_remainder 35 (.iconst 1) 1 := (by decide +kernel : decode prog_14_method_79_code 35 = .ok (.iconst 1, 1))
theorem i_Md_remainder_36 : iIns M_Md_remainder 36 .isub 1 := (by decide +kernel : decode prog_14_method_79_code 36 = .ok (.isub, 1))
theorem i_Md_remainder_37 : iCallS M_Md_remainder 37 M_Md_in 3 := ⟨⟨101, (by decide +kernel : decode prog_14_method_79_code 37 = .ok (.invokestatic 101, 3)), lw_k6 141 rfl rfl⟩, sm_Md_in, me_Md_in, pn_Md_in⟩
theorem i_Md_remainder_40 : iIf M_Md_remainder 40 .eq 59 := ⟨19, (by decide +kernel : decode prog_14_method_79_code 40 = .ok (.ifCond .eq (19), 3)), by decide⟩
theorem i_Md_remainder_43 : iIns M_Md_remainder 43 (.iload_n 3) 1 := (by decide +kernel : decode prog_14_method_79_code 43 = .ok (.iload_n 3, 1))
theorem i_Md_remainder_44 : iIns M_Md_remainder 44 (.iconst 0) 1 := (by decide +kernel : decode prog_14_method_79_code 44 = .ok (.iconst 0, 1))
theorem i_Md_remainder_45 : iIns M_Md_remainder 45 (.aload_n 0) 1 := (by decide +kernel : decode prog_14_method_79_code 45 = .ok (.aload_n 0, 1))
theorem i_Md_remainder_46 : iGet M_Md_remainder 46 14 32 := ⟨88, (by decide +kernel : decode prog_14_method_79_code 46 = .ok (.getfield 88, 3)), fl_Md_Md_sizes⟩
theorem i_Md_remainder_49 : iIns M_Md_remainder 49 (.iload_n 1) 1 := (by decide +kernel : decode prog_14_method_79_code 49 = .ok (.iload_n 1, 1))
theorem i_Md_remainder_50 : iIns M_Md_remainder 50 .iaload 1 := (by decide +kernel : decode prog_14_method_79_code 50 = .ok (.iaload, 1))
theorem i_Md_remainder_51 : iIns M_Md_remainder 51 (.iconst 1) 1 := (by decide +kernel : decode prog_14_method_79_code 51 = .ok (.iconst 1, 1))
theorem i_Md_remainder_52 : iIns M_Md_remainder 52 .isub 1 := (by decide +kernel : decode prog_14_method_79_code 52 = .ok (.isub, 1))
theorem i_Md_remainder_53 : iCallS M_Md_remainder 53 M_Md_in 3 := ⟨⟨101, (by decide +kernel : decode prog_14_method_79_code 53 = .ok (.invokestatic 101, 3)), lw_k6 141 rfl rfl⟩, sm_Md_in, me_Md_in, pn_Md_in⟩
theorem i_Md_remainder_56 : iIf M_Md_remainder 56 .ne 63 := ⟨7, (by decide +kernel : decode prog_14_method_79_code 56 = .ok (.ifCond .ne (7), 3)), by decide⟩
theorem i_Md_remainder_59 : iIns M_Md_remainder 59 (.iconst 3) 1 := (by decide +kernel : decode prog_14_method_79_code 59 = .ok (.iconst 3, 1))
theorem i_Md_remainder_60 : iGoto M_Md_remainder 60 84 := ⟨24, (by decide +kernel : decode prog_14_method_79_code 60 = .ok (.goto (24), 3)), by decide⟩
theorem i_Md_remainder_63 : iIns M_Md_remainder 63 (.aload_n 0) 1 := (by decide +kernel : decode prog_14_method_79_code 63 = .ok (.aload_n 0, 1))
theorem i_Md_remainder_64 : iGet M_Md_remainder 64 14 34 := ⟨94, (by decide +kernel : decode prog_14_method_79_code 64 = .ok (.getfield 94, 3)), fl_Md_Md_elements⟩
theorem i_Md_remainder_67 : iIns M_Md_remainder 67 (.bipush 122) 2 := (by decide +kernel : decode prog_14_method_79_code 67 = .ok (.bipush 122, 2))
theorem i_Md_remainder_69 : iIns M_Md_remainder 69 (.iload_n 1) 1 := (by decide +kernel : decode prog_14_method_79_code 69 = .ok (.iload_n 1, 1))
theorem i_Md_remainder_70 : iIns M_Md_remainder 70 .imul 1 := (by decide +kernel : decode prog_14_method_79_code 70 = .ok (.imul, 1))
theorem i_Md_remainder_71 : iIns M_Md_remainder 71 (.iload_n 3) 1 := (by decide +kernel : decode prog_14_method_79_code 71 = .ok (.iload_n 3, 1))
theorem i_Md_remainder_72 : iIns M_Md_remainder 72 .iadd 1 := (by decide +kernel : decode prog_14_method_79_code 72 = .ok (.iadd, 1))
theorem i_Md_remainder_73 : iIns M_Md_remainder 73 .daload 1 := (by decide +kernel : decode prog_14_method_79_code 73 = .ok (.daload, 1))
theorem i_Md_remainder_74 : iIns M_Md_remainder 74 (.dconst 0) 1 := (by decide +kernel : decode prog_14_method_79_code 74 = .ok (.dconst 0, 1))
theorem i_Md_remainder_75 : iIns M_Md_remainder 75 (.dcmp .l) 1 := (by decide +kernel : decode prog_14_method_79_code 75 = .ok (.dcmp .l, 1))
theorem i_Md_remainder_76 : iIf M_Md_remainder 76 .ne 83 := ⟨7, (by decide +kernel : decode prog_14_method_79_code 76 = .ok (.ifCond .ne (7), 3)), by decide⟩
theorem i_Md_remainder_79 : iIns M_Md_remainder 79 (.iconst 4) 1 := (by decide +kernel : decode prog_14_method_79_code 79 = .ok (.iconst 4, 1))
theorem i_Md_remainder_80 : iGoto M_Md_remainder 80 84 := ⟨4, (by decide +kernel : decode prog_14_method_79_code 80 = .ok (.goto (4), 3)), by decide⟩
theorem i_Md_remainder_83 : iIns M_Md_remainder 83 (.iconst 0) 1 := (by decide +kernel : decode prog_14_method_79_code 83 = .ok (.iconst 0, 1))
theorem i_Md_remainder_84 : iPutX M_Md_remainder 84 14 0 .int := ⟨97, (by decide +kernel : decode prog_14_method_79_code 84 = .ok (.putfield 97, 3)), px_Md_Md_thrown⟩
theorem i_Md_remainder_87 : iIns M_Md_remainder 87 (.aload_n 0) 1 := (by decide +kernel : decode prog_14_method_79_code 87 = .ok (.aload_n 0, 1))
theorem i_Md_remainder_88 : iGet M_Md_remainder 88 14 0 := ⟨97, (by decide +kernel : decode prog_14_method_79_code 88 = .ok (.getfield 97, 3)), fl_Md_Md_thrown⟩
theorem i_Md_remainder_91 : iIf M_Md_remainder 91 .le 96 := ⟨5, (by decide +kernel : decode prog_14_method_79_code 91 = .ok (.ifCond .le (5), 3)), by decide⟩
theorem i_Md_remainder_94 : iIns M_Md_remainder 94 (.dconst 0) 1 := (by decide +kernel : decode prog_14_method_79_code 94 = .ok (.dconst 0, 1))
theorem i_Md_remainder_95 : iIns M_Md_remainder 95 .dreturn 1 := (by decide +kernel : decode prog_14_method_79_code 95 = .ok (.dreturn, 1))
theorem i_Md_remainder_96 : iIns M_Md_remainder 96 (.aload_n 0) 1 := (by decide +kernel : decode prog_14_method_79_code 96 = .ok (.aload_n 0, 1))
theorem i_Md_remainder_97 : iGet M_Md_remainder 97 14 34 := ⟨94, (by decide +kernel : decode prog_14_method_79_code 97 = .ok (.getfield 94, 3)), fl_Md_Md_elements⟩
theorem i_Md_remainder_100 : iIns M_Md_remainder 100 (.bipush 122) 2 := (by decide +kernel : decode prog_14_method_79_code 100 = .ok (.bipush 122, 2))
theorem i_Md_remainder_102 : iIns M_Md_remainder 102 (.iload_n 1) 1 := (by decide +kernel : decode prog_14_method_79_code 102 = .ok (.iload_n 1, 1))
theorem i_Md_remainder_103 : iIns M_Md_remainder 103 .imul 1 := (by decide +kernel : decode prog_14_method_79_code 103 = .ok (.imul, 1))
theorem i_Md_remainder_104 : iIns M_Md_remainder 104 (.iload_n 2) 1 := (by decide +kernel : decode prog_14_method_79_code 104 = .ok (.iload_n 2, 1))
theorem i_Md_remainder_105 : iIns M_Md_remainder 105 .iadd 1 := (by decide +kernel : decode prog_14_method_79_code 105 = .ok (.iadd, 1))
theorem i_Md_remainder_106 : iIns M_Md_remainder 106 .daload 1 := (by decide +kernel : decode prog_14_method_79_code 106 = .ok (.daload, 1))
theorem i_Md_remainder_107 : iIns M_Md_remainder 107 (.dstore 4) 2 := (by decide +kernel : decode prog_14_method_79_code 107 = .ok (.dstore 4, 2))
theorem i_Md_remainder_109 : iIns M_Md_remainder 109 (.aload_n 0) 1 := (by decide +kernel : decode prog_14_method_79_code 109 = .ok (.aload_n 0, 1))
theorem i_Md_remainder_110 : iGet M_Md_remainder 110 14 34 := ⟨94, (by decide +kernel : decode prog_14_method_79_code 110 = .ok (.getfield 94, 3)), fl_Md_Md_elements⟩
theorem i_Md_remainder_113 : iIns M_Md_remainder 113 (.bipush 122) 2 := (by decide +kernel : decode prog_14_method_79_code 113 = .ok (.bipush 122, 2))
theorem i_Md_remainder_115 : iIns M_Md_remainder 115 (.iload_n 1) 1 := (by decide +kernel : decode prog_14_method_79_code 115 = .ok (.iload_n 1, 1))
theorem i_Md_remainder_116 : iIns M_Md_remainder 116 .imul 1 := (by decide +kernel : decode prog_14_method_79_code 116 = .ok (.imul, 1))
theorem i_Md_remainder_117 : iIns M_Md_remainder 117 (.iload_n 3) 1 := (by decide +kernel : decode prog_14_method_79_code 117 = .ok (.iload_n 3, 1))
theorem i_Md_remainder_118 : iIns M_Md_remainder 118 .iadd 1 := (by decide +kernel : decode prog_14_method_79_code 118 = .ok (.iadd, 1))
theorem i_Md_remainder_119 : iIns M_Md_remainder 119 .daload 1 := (by decide +kernel : decode prog_14_method_79_code 119 = .ok (.daload, 1))
theorem i_Md_remainder_120 : iIns M_Md_remainder 120 (.dstore 6) 2 := (by decide +kernel : decode prog_14_method_79_code 120 = .ok (.dstore 6, 2))
theorem i_Md_remainder_122 : iIns M_Md_remainder 122 (.aload_n 0) 1 := (by decide +kernel : decode prog_14_method_79_code 122 = .ok (.aload_n 0, 1))
theorem i_Md_remainder_123 : iGet M_Md_remainder 123 14 33 := ⟨91, (by decide +kernel : decode prog_14_method_79_code 123 = .ok (.getfield 91, 3)), fl_Md_Md_isSingle⟩
theorem i_Md_remainder_126 : iIns M_Md_remainder 126 (.iload_n 1) 1 := (by decide +kernel : decode prog_14_method_79_code 126 = .ok (.iload_n 1, 1))
theorem i_Md_remainder_127 : iIns M_Md_remainder 127 .baload 1 := (by decide +kernel : decode prog_14_method_79_code 127 = .ok (.baload, 1))
theorem i_Md_remainder_128 : iIf M_Md_remainder 128 .eq 142 := ⟨14, (by decide +kernel : decode prog_14_method_79_code 128 = .ok (.ifCond .eq (14), 3)), by decide⟩
theorem i_Md_remainder_131 : iIns M_Md_remainder 131 (.dload 4) 2 := (by decide +kernel : decode prog_14_method_79_code 131 = .ok (.dload 4, 2))
theorem i_Md_remainder_133 : iIns M_Md_remainder 133 .d2f 1 := (by decide +kernel : decode prog_14_method_79_code 133 = .ok (.d2f, 1))
theorem i_Md_remainder_134 : iIns M_Md_remainder 134 (.dload 6) 2 := (by decide +kernel : decode prog_14_method_79_code 134 = .ok (.dload 6, 2))
theorem i_Md_remainder_136 : iIns M_Md_remainder 136 .d2f 1 := (by decide +kernel : decode prog_14_method_79_code 136 = .ok (.d2f, 1))
theorem i_Md_remainder_137 : iIns M_Md_remainder 137 .frem 1 := (by decide +kernel : decode prog_14_method_79_code 137 = .ok (.frem, 1))
theorem i_Md_remainder_138 : iIns M_Md_remainder 138 .f2d 1 := (by decide +kernel : decode prog_14_method_79_code 138 = .ok (.f2d, 1))
theorem i_Md_remainder_139 : iGoto M_Md_remainder 139 147 := ⟨8, (by decide +kernel : decode prog_14_method_79_code 139 = .ok (.goto (8), 3)), by decide⟩
theorem i_Md_remainder_142 : iIns M_Md_remainder 142 (.dload 4) 2 := (by decide +kernel : decode prog_14_method_79_code 142 = .ok (.dload 4, 2))
theorem i_Md_remainder_144 : iIns M_Md_remainder 144 (.dload 6) 2 := (by decide +kernel : decode prog_14_method_79_code 144 = .ok (.dload 6, 2))
theorem i_Md_remainder_146 : iIns M_Md_remainder 146 .drem 1 := (by decide +kernel : decode prog_14_method_79_code 146 = .ok (.drem, 1))
theorem i_Md_remainder_147 : iIns M_Md_remainder 147 .dreturn 1 := (by decide +kernel : decode prog_14_method_79_code 147 = .ok (.dreturn, 1))
theorem i_Md_save_0 : iIns M_Md_save 0 (.aload_n 0) 1 := (by decide +kernel : decode prog_14_method_80_code 0 = .ok (.aload_n 0, 1))
theorem i_Md_save_1 : iIns M_Md_save 1 (.iconst 0) 1 := (by decide +kernel : decode prog_14_method_80_code 1 = .ok (.iconst 0, 1))
theorem i_Md_save_2 : iPutX M_Md_save 2 14 0 .int := ⟨97, (by decide +kernel : decode prog_14_method_80_code 2 = .ok (.putfield 97, 3)), px_Md_Md_thrown⟩
theorem i_Md_save_5 : iIns M_Md_save 5 (.aload_n 0) 1 := (by decide +kernel : decode prog_14_method_80_code 5 = .ok (.aload_n 0, 1))
theorem i_Md_save_6 : iGet M_Md_save 6 14 1 := ⟨9, (by decide +kernel : decode prog_14_method_80_code 6 = .ok (.getfield 9, 3)), fl_Md_Md_tables⟩
theorem i_Md_save_9 : iIns M_Md_save 9 (.iconst 0) 1 := (by decide +kernel : decode prog_14_method_80_code 9 = .ok (.iconst 0, 1))
theorem i_Md_save_10 : iIns M_Md_save 10 (.aload_n 0) 1 := (by decide +kernel : decode prog_14_method_80_code 10 = .ok (.aload_n 0, 1))
theorem i_Md_save_11 : iGet M_Md_save 11 14 10 := ⟨28, (by decide +kernel : decode prog_14_method_80_code 11 = .ok (.getfield 28, 3)), fl_Md_Md_savedTables⟩
theorem i_Md_save_14 : iIns M_Md_save 14 (.iconst 0) 1 := (by decide +kernel : decode prog_14_method_80_code 14 = .ok (.iconst 0, 1))
theorem i_Md_save_15 : iIns M_Md_save 15 (.sipush 417) 3 := (by decide +kernel : decode prog_14_method_80_code 15 = .ok (.sipush 417, 3))
theorem i_Md_save_18 : iCpy M_Md_save 18 := ⟨146, (by decide +kernel : decode prog_14_method_80_code 18 = .ok (.invokestatic 146, 3)), lw_k6 205 rfl rfl⟩
theorem i_Md_save_21 : iIns M_Md_save 21 (.aload_n 0) 1 := (by decide +kernel : decode prog_14_method_80_code 21 = .ok (.aload_n 0, 1))
theorem i_Md_save_22 : iGet M_Md_save 22 14 2 := ⟨13, (by decide +kernel : decode prog_14_method_80_code 22 = .ok (.getfield 13, 3)), fl_Md_Md_word⟩
theorem i_Md_save_25 : iIns M_Md_save 25 (.iconst 0) 1 := (by decide +kernel : decode prog_14_method_80_code 25 = .ok (.iconst 0, 1))
theorem i_Md_save_26 : iIns M_Md_save 26 (.aload_n 0) 1 := (by decide +kernel : decode prog_14_method_80_code 26 = .ok (.aload_n 0, 1))
theorem i_Md_save_27 : iGet M_Md_save 27 14 11 := ⟨31, (by decide +kernel : decode prog_14_method_80_code 27 = .ok (.getfield 31, 3)), fl_Md_Md_savedWord⟩
theorem i_Md_save_30 : iIns M_Md_save 30 (.iconst 0) 1 := (by decide +kernel : decode prog_14_method_80_code 30 = .ok (.iconst 0, 1))
theorem i_Md_save_31 : iIns M_Md_save 31 (.bipush 61) 2 := (by decide +kernel : decode prog_14_method_80_code 31 = .ok (.bipush 61, 2))
theorem i_Md_save_33 : iCpy M_Md_save 33 := ⟨146, (by decide +kernel : decode prog_14_method_80_code 33 = .ok (.invokestatic 146, 3)), lw_k6 205 rfl rfl⟩
theorem i_Md_save_36 : iIns M_Md_save 36 (.aload_n 0) 1 := (by decide +kernel : decode prog_14_method_80_code 36 = .ok (.aload_n 0, 1))
theorem i_Md_save_37 : iGet M_Md_save 37 14 3 := ⟨16, (by decide +kernel : decode prog_14_method_80_code 37 = .ok (.getfield 16, 3)), fl_Md_Md_target⟩
theorem i_Md_save_40 : iIns M_Md_save 40 (.iconst 0) 1 := (by decide +kernel : decode prog_14_method_80_code 40 = .ok (.iconst 0, 1))
theorem i_Md_save_41 : iIns M_Md_save 41 (.aload_n 0) 1 := (by decide +kernel : decode prog_14_method_80_code 41 = .ok (.aload_n 0, 1))
theorem i_Md_save_42 : iGet M_Md_save 42 14 12 := ⟨34, (by decide +kernel : decode prog_14_method_80_code 42 = .ok (.getfield 34, 3)), fl_Md_Md_savedTarget⟩
theorem i_Md_save_45 : iIns M_Md_save 45 (.iconst 0) 1 := (by decide +kernel : decode prog_14_method_80_code 45 = .ok (.iconst 0, 1))
theorem i_Md_save_46 : iIns M_Md_save 46 (.bipush 61) 2 := (by decide +kernel : decode prog_14_method_80_code 46 = .ok (.bipush 61, 2))
theorem i_Md_save_48 : iCpy M_Md_save 48 := ⟨146, (by decide +kernel : decode prog_14_method_80_code 48 = .ok (.invokestatic 146, 3)), lw_k6 205 rfl rfl⟩
theorem i_Md_save_51 : iIns M_Md_save 51 (.aload_n 0) 1 := (by decide +kernel : decode prog_14_method_80_code 51 = .ok (.aload_n 0, 1))
theorem i_Md_save_52 : iGet M_Md_save 52 14 4 := ⟨19, (by decide +kernel : decode prog_14_method_80_code 52 = .ok (.getfield 19, 3)), fl_Md_Md_commands⟩
theorem i_Md_save_55 : iIns M_Md_save 55 (.iconst 0) 1 := (by decide +kernel : decode prog_14_method_80_code 55 = .ok (.iconst 0, 1))
theorem i_Md_save_56 : iIns M_Md_save 56 (.aload_n 0) 1 := (by decide +kernel : decode prog_14_method_80_code 56 = .ok (.aload_n 0, 1))
theorem i_Md_save_57 : iGet M_Md_save 57 14 13 := ⟨37, (by decide +kernel : decode prog_14_method_80_code 57 = .ok (.getfield 37, 3)), fl_Md_Md_savedCommands⟩
theorem i_Md_save_60 : iIns M_Md_save 60 (.iconst 0) 1 := (by decide +kernel : decode prog_14_method_80_code 60 = .ok (.iconst 0, 1))
theorem i_Md_save_61 : iIns M_Md_save 61 (.bipush 6) 2 := (by decide +kernel : decode prog_14_method_80_code 61 = .ok (.bipush 6, 2))
theorem i_Md_save_63 : iCpy M_Md_save 63 := ⟨146, (by decide +kernel : decode prog_14_method_80_code 63 = .ok (.invokestatic 146, 3)), lw_k6 205 rfl rfl⟩
theorem i_Md_save_66 : iIns M_Md_save 66 (.aload_n 0) 1 := (by decide +kernel : decode prog_14_method_80_code 66 = .ok (.aload_n 0, 1))
theorem i_Md_save_67 : iIns M_Md_save 67 (.iconst 1) 1 := (by decide +kernel : decode prog_14_method_80_code 67 = .ok (.iconst 1, 1))
theorem i_Md_save_68 : iPutX M_Md_save 68 14 9 .boolean := ⟨312, (by decide +kernel : decode prog_14_method_80_code 68 = .ok (.putfield 312, 3)), px_Md_Md_hasSaved⟩
theorem i_Md_save_71 : iIns M_Md_save 71 .return_ 1 := (by decide +kernel : decode prog_14_method_80_code 71 = .ok (.return_, 1))
theorem i_Md_restore_0 : iIns M_Md_restore 0 (.aload_n 0) 1 := (by decide +kernel : decode prog_14_method_81_code 0 = .ok (.aload_n 0, 1))
theorem i_Md_restore_1 : iIns M_Md_restore 1 (.aload_n 0) 1 := (by decide +kernel : decode prog_14_method_81_code 1 = .ok (.aload_n 0, 1))
theorem i_Md_restore_2 : iGet M_Md_restore 2 14 9 := ⟨312, (by decide +kernel : decode prog_14_method_81_code 2 = .ok (.getfield 312, 3)), fl_Md_Md_hasSaved⟩
theorem i_Md_restore_5 : iIf M_Md_restore 5 .eq 12 := ⟨7, (by decide +kernel : decode prog_14_method_81_code 5 = .ok (.ifCond .eq (7), 3)), by decide⟩
theorem i_Md_restore_8 : iIns M_Md_restore 8 (.iconst 0) 1 := (by decide +kernel : decode prog_14_method_81_code 8 = .ok (.iconst 0, 1))
theorem i_Md_restore_9 : iGoto M_Md_restore 9 13 := ⟨4, (by decide +kernel : decode prog_14_method_81_code 9 = .ok (.goto (4), 3)), by decide⟩
theorem i_Md_restore_12 : iIns M_Md_restore 12 (.iconst 1) 1 := (by decide +kernel : decode prog_14_method_81_code 12 = .ok (.iconst 1, 1))
theorem i_Md_restore_13 : iPutX M_Md_restore 13 14 0 .int := ⟨97, (by decide +kernel : decode prog_14_method_81_code 13 = .ok (.putfield 97, 3)), px_Md_Md_thrown⟩
theorem i_Md_restore_16 : iIns M_Md_restore 16 (.aload_n 0) 1 := (by decide +kernel : decode prog_14_method_81_code 16 = .ok (.aload_n 0, 1))
theorem i_Md_restore_17 : iGet M_Md_restore 17 14 0 := ⟨97, (by decide +kernel : decode prog_14_method_81_code 17 = .ok (.getfield 97, 3)), fl_Md_Md_thrown⟩
theorem i_Md_restore_20 : iIf M_Md_restore 20 .ne 89 := ⟨69, (by decide +kernel : decode prog_14_method_81_code 20 = .ok (.ifCond .ne (69), 3)), by decide⟩
theorem i_Md_restore_23 : iIns M_Md_restore 23 (.aload_n 0) 1 := (by decide +kernel : decode prog_14_method_81_code 23 = .ok (.aload_n 0, 1))
theorem i_Md_restore_24 : iGet M_Md_restore 24 14 10 := ⟨28, (by decide +kernel : decode prog_14_method_81_code 24 = .ok (.getfield 28, 3)), fl_Md_Md_savedTables⟩
theorem i_Md_restore_27 : iIns M_Md_restore 27 (.iconst 0) 1 := (by decide +kernel : decode prog_14_method_81_code 27 = .ok (.iconst 0, 1))
theorem i_Md_restore_28 : iIns M_Md_restore 28 (.aload_n 0) 1 := (by decide +kernel : decode prog_14_method_81_code 28 = .ok (.aload_n 0, 1))
theorem i_Md_restore_29 : iGet M_Md_restore 29 14 1 := ⟨9, (by decide +kernel : decode prog_14_method_81_code 29 = .ok (.getfield 9, 3)), fl_Md_Md_tables⟩
theorem i_Md_restore_32 : iIns M_Md_restore 32 (.iconst 0) 1 := (by decide +kernel : decode prog_14_method_81_code 32 = .ok (.iconst 0, 1))
theorem i_Md_restore_33 : iIns M_Md_restore 33 (.sipush 417) 3 := (by decide +kernel : decode prog_14_method_81_code 33 = .ok (.sipush 417, 3))
theorem i_Md_restore_36 : iCpy M_Md_restore 36 := ⟨146, (by decide +kernel : decode prog_14_method_81_code 36 = .ok (.invokestatic 146, 3)), lw_k6 205 rfl rfl⟩
theorem i_Md_restore_39 : iIns M_Md_restore 39 (.aload_n 0) 1 := (by decide +kernel : decode prog_14_method_81_code 39 = .ok (.aload_n 0, 1))
theorem i_Md_restore_40 : iGet M_Md_restore 40 14 11 := ⟨31, (by decide +kernel : decode prog_14_method_81_code 40 = .ok (.getfield 31, 3)), fl_Md_Md_savedWord⟩
theorem i_Md_restore_43 : iIns M_Md_restore 43 (.iconst 0) 1 := (by decide +kernel : decode prog_14_method_81_code 43 = .ok (.iconst 0, 1))
theorem i_Md_restore_44 : iIns M_Md_restore 44 (.aload_n 0) 1 := (by decide +kernel : decode prog_14_method_81_code 44 = .ok (.aload_n 0, 1))
theorem i_Md_restore_45 : iGet M_Md_restore 45 14 2 := ⟨13, (by decide +kernel : decode prog_14_method_81_code 45 = .ok (.getfield 13, 3)), fl_Md_Md_word⟩
theorem i_Md_restore_48 : iIns M_Md_restore 48 (.iconst 0) 1 := (by decide +kernel : decode prog_14_method_81_code 48 = .ok (.iconst 0, 1))
theorem i_Md_restore_49 : iIns M_Md_restore 49 (.bipush 61) 2 := (by decide +kernel : decode prog_14_method_81_code 49 = .ok (.bipush 61, 2))
theorem i_Md_restore_51 : iCpy M_Md_restore 51 := ⟨146, (by decide +kernel : decode prog_14_method_81_code 51 = .ok (.invokestatic 146, 3)), lw_k6 205 rfl rfl⟩
theorem i_Md_restore_54 : iIns M_Md_restore 54 (.aload_n 0) 1 := (by decide +kernel : decode prog_14_method_81_code 54 = .ok (.aload_n 0, 1))
theorem i_Md_restore_55 : iGet M_Md_restore 55 14 12 := ⟨34, (by decide +kernel : decode prog_14_method_81_code 55 = .ok (.getfield 34, 3)), fl_Md_Md_savedTarget⟩
theorem i_Md_restore_58 : iIns M_Md_restore 58 (.iconst 0) 1 := (by decide +kernel : decode prog_14_method_81_code 58 = .ok (.iconst 0, 1))
theorem i_Md_restore_59 : iIns M_Md_restore 59 (.aload_n 0) 1 := (by decide +kernel : decode prog_14_method_81_code 59 = .ok (.aload_n 0, 1))
theorem i_Md_restore_60 : iGet M_Md_restore 60 14 3 := ⟨16, (by decide +kernel : decode prog_14_method_81_code 60 = .ok (.getfield 16, 3)), fl_Md_Md_target⟩
theorem i_Md_restore_63 : iIns M_Md_restore 63 (.iconst 0) 1 := (by decide +kernel : decode prog_14_method_81_code 63 = .ok (.iconst 0, 1))
theorem i_Md_restore_64 : iIns M_Md_restore 64 (.bipush 61) 2 := (by decide +kernel : decode prog_14_method_81_code 64 = .ok (.bipush 61, 2))
theorem i_Md_restore_66 : iCpy M_Md_restore 66 := ⟨146, (by decide +kernel : decode prog_14_method_81_code 66 = .ok (.invokestatic 146, 3)), lw_k6 205 rfl rfl⟩
theorem i_Md_restore_69 : iIns M_Md_restore 69 (.aload_n 0) 1 := (by decide +kernel : decode prog_14_method_81_code 69 = .ok (.aload_n 0, 1))
theorem i_Md_restore_70 : iGet M_Md_restore 70 14 13 := ⟨37, (by decide +kernel : decode prog_14_method_81_code 70 = .ok (.getfield 37, 3)), fl_Md_Md_savedCommands⟩
theorem i_Md_restore_73 : iIns M_Md_restore 73 (.iconst 0) 1 := (by decide +kernel : decode prog_14_method_81_code 73 = .ok (.iconst 0, 1))
theorem i_Md_restore_74 : iIns M_Md_restore 74 (.aload_n 0) 1 := (by decide +kernel : decode prog_14_method_81_code 74 = .ok (.aload_n 0, 1))
theorem i_Md_restore_75 : iGet M_Md_restore 75 14 4 := ⟨19, (by decide +kernel : decode prog_14_method_81_code 75 = .ok (.getfield 19, 3)), fl_Md_Md_commands⟩
theorem i_Md_restore_78 : iIns M_Md_restore 78 (.iconst 0) 1 := (by decide +kernel : decode prog_14_method_81_code 78 = .ok (.iconst 0, 1))
theorem i_Md_restore_79 : iIns M_Md_restore 79 (.bipush 6) 2 := (by decide +kernel : decode prog_14_method_81_code 79 = .ok (.bipush 6, 2))
theorem i_Md_restore_81 : iCpy M_Md_restore 81 := ⟨146, (by decide +kernel : decode prog_14_method_81_code 81 = .ok (.invokestatic 146, 3)), lw_k6 205 rfl rfl⟩
theorem i_Md_restore_84 : iIns M_Md_restore 84 (.aload_n 0) 1 := (by decide +kernel : decode prog_14_method_81_code 84 = .ok (.aload_n 0, 1))
theorem i_Md_restore_85 : iIns M_Md_restore 85 (.iconst 0) 1 := (by decide +kernel : decode prog_14_method_81_code 85 = .ok (.iconst 0, 1))
theorem i_Md_restore_86 : iPutX M_Md_restore 86 14 8 .int := ⟨158, (by decide +kernel : decode prog_14_method_81_code 86 = .ok (.putfield 158, 3)), px_Md_Md_steps⟩
theorem i_Md_restore_89 : iIns M_Md_restore 89 .return_ 1 := (by decide +kernel : decode prog_14_method_81_code 89 = .ok (.return_, 1))

/-! instructions: by program (wip/whole/gen12.py) -/
theorem i_Pr_init_0 : iIns M_Pr_init 0 (.aload_n 0) 1 := (by decide +kernel : decode prog_1_method_1_code 0 = .ok (.aload_n 0, 1))
theorem i_Pr_init_1 : iObjI M_Pr_init 1 := ⟨3, (by decide +kernel : decode prog_1_method_1_code 1 = .ok (.invokespecial 3, 3)), lw_k1 37 rfl rfl⟩
theorem i_Pr_init_4 : iIns M_Pr_init 4 (.aload_n 0) 1 := (by decide +kernel : decode prog_1_method_1_code 4 = .ok (.aload_n 0, 1))
theorem i_Pr_init_5 : iNew M_Pr_init 5 10 [.null, .int 0] := ⟨9, (by decide +kernel : decode prog_1_method_1_code 5 = .ok (.new 9, 3)), RX8, TX8, 2, tyX8, rfl, uw_Tx, tyX8_ok, lw_k1 40 rfl rfl, lw_k1 41 rfl rfl, lw_k1 2 rfl rfl, by decide +kernel, rfl⟩
theorem i_Pr_init_8 : iIns M_Pr_init 8 .dup 1 := (by decide +kernel : decode prog_1_method_1_code 8 = .ok (.dup, 1))
theorem i_Pr_init_9 : iCallI M_Pr_init 9 M_Tx_init 0 := ⟨⟨11, (by decide +kernel : decode prog_1_method_1_code 9 = .ok (.invokespecial 11, 3)), lw_k1 42 rfl rfl⟩, im_Tx_init, me_Tx_init, pn_Tx_init⟩
theorem i_Pr_init_12 : iPutF M_Pr_init 12 13 0 (.object "ParallelRewriting$Text") := ⟨12, (by decide +kernel : decode prog_1_method_1_code 12 = .ok (.putfield 12, 3)), pf_Pr_Pr_text, rfl⟩
theorem i_Pr_init_15 : iIns M_Pr_init 15 (.aload_n 0) 1 := (by decide +kernel : decode prog_1_method_1_code 15 = .ok (.aload_n 0, 1))
theorem i_Pr_init_16 : iNew M_Pr_init 16 8 [.null, .null, .null, .null] := ⟨16, (by decide +kernel : decode prog_1_method_1_code 16 = .ok (.new 16, 3)), RX6, TX6, 4, tyX6, rfl, uw_St, tyX6_ok, lw_k1 57 rfl rfl, lw_k1 58 rfl rfl, lw_k1 3 rfl rfl, by decide +kernel, rfl⟩
theorem i_Pr_init_19 : iIns M_Pr_init 19 .dup 1 := (by decide +kernel : decode prog_1_method_1_code 19 = .ok (.dup, 1))
theorem i_Pr_init_20 : iCallI M_Pr_init 20 M_St_init 0 := ⟨⟨18, (by decide +kernel : decode prog_1_method_1_code 20 = .ok (.invokespecial 18, 3)), lw_k1 59 rfl rfl⟩, im_St_init, me_St_init, pn_St_init⟩
theorem i_Pr_init_23 : iPutF M_Pr_init 23 13 1 (.object "ParallelRewriting$State") := ⟨19, (by decide +kernel : decode prog_1_method_1_code 23 = .ok (.putfield 19, 3)), pf_Pr_Pr_live, rfl⟩
theorem i_Pr_init_26 : iIns M_Pr_init 26 (.aload_n 0) 1 := (by decide +kernel : decode prog_1_method_1_code 26 = .ok (.aload_n 0, 1))
theorem i_Pr_init_27 : iNew M_Pr_init 27 8 [.null, .null, .null, .null] := ⟨16, (by decide +kernel : decode prog_1_method_1_code 27 = .ok (.new 16, 3)), RX6, TX6, 4, tyX6, rfl, uw_St, tyX6_ok, lw_k1 57 rfl rfl, lw_k1 58 rfl rfl, lw_k1 3 rfl rfl, by decide +kernel, rfl⟩
theorem i_Pr_init_30 : iIns M_Pr_init 30 .dup 1 := (by decide +kernel : decode prog_1_method_1_code 30 = .ok (.dup, 1))
theorem i_Pr_init_31 : iCallI M_Pr_init 31 M_St_init 0 := ⟨⟨18, (by decide +kernel : decode prog_1_method_1_code 31 = .ok (.invokespecial 18, 3)), lw_k1 59 rfl rfl⟩, im_St_init, me_St_init, pn_St_init⟩
theorem i_Pr_init_34 : iPutF M_Pr_init 34 13 2 (.object "ParallelRewriting$State") := ⟨23, (by decide +kernel : decode prog_1_method_1_code 34 = .ok (.putfield 23, 3)), pf_Pr_Pr_saved, rfl⟩
theorem i_Pr_init_37 : iIns M_Pr_init 37 (.aload_n 0) 1 := (by decide +kernel : decode prog_1_method_1_code 37 = .ok (.aload_n 0, 1))
theorem i_Pr_init_38 : iNew M_Pr_init 38 5 [.null, .int 0, .int 0] := ⟨26, (by decide +kernel : decode prog_1_method_1_code 38 = .ok (.new 26, 3)), RX3, TX3, 3, tyX3, rfl, uw_Hi, tyX3_ok, lw_k1 144 rfl rfl, lw_k1 145 rfl rfl, lw_k1 7 rfl rfl, by decide +kernel, rfl⟩
theorem i_Pr_init_41 : iIns M_Pr_init 41 .dup 1 := (by decide +kernel : decode prog_1_method_1_code 41 = .ok (.dup, 1))
theorem i_Pr_init_42 : iCallI M_Pr_init 42 M_Hi_init 0 := ⟨⟨28, (by decide +kernel : decode prog_1_method_1_code 42 = .ok (.invokespecial 28, 3)), lw_k1 146 rfl rfl⟩, im_Hi_init, me_Hi_init, pn_Hi_init⟩
theorem i_Pr_init_45 : iPutF M_Pr_init 45 13 3 (.object "ParallelRewriting$History") := ⟨29, (by decide +kernel : decode prog_1_method_1_code 45 = .ok (.putfield 29, 3)), pf_Pr_Pr_history, rfl⟩
theorem i_Pr_init_48 : iIns M_Pr_init 48 (.aload_n 0) 1 := (by decide +kernel : decode prog_1_method_1_code 48 = .ok (.aload_n 0, 1))
theorem i_Pr_init_49 : iNew M_Pr_init 49 12 [.null, .int 0] := ⟨33, (by decide +kernel : decode prog_1_method_1_code 49 = .ok (.new 33, 3)), RX10, TX10, 2, tyX10, rfl, uw_Wd, tyX10_ok, lw_k1 163 rfl rfl, lw_k1 97 rfl rfl, lw_k1 6 rfl rfl, by decide +kernel, rfl⟩
theorem i_Pr_init_52 : iIns M_Pr_init 52 .dup 1 := (by decide +kernel : decode prog_1_method_1_code 52 = .ok (.dup, 1))
theorem i_Pr_init_53 : iCallI M_Pr_init 53 M_Wd_init 0 := ⟨⟨35, (by decide +kernel : decode prog_1_method_1_code 53 = .ok (.invokespecial 35, 3)), lw_k1 164 rfl rfl⟩, im_Wd_init, me_Wd_init, pn_Wd_init⟩
theorem i_Pr_init_56 : iPutF M_Pr_init 56 13 4 (.object "ParallelRewriting$Word") := ⟨36, (by decide +kernel : decode prog_1_method_1_code 56 = .ok (.putfield 36, 3)), pf_Pr_Pr_result, rfl⟩
theorem i_Pr_init_59 : iIns M_Pr_init 59 (.aload_n 0) 1 := (by decide +kernel : decode prog_1_method_1_code 59 = .ok (.aload_n 0, 1))
theorem i_Pr_init_60 : iNew M_Pr_init 60 4 [.null, .null, .long 0, .null, .null] := ⟨40, (by decide +kernel : decode prog_1_method_1_code 60 = .ok (.new 40, 3)), RX2, TX2, 5, tyX2, rfl, uw_Gr, tyX2_ok, lw_k1 165 rfl rfl, lw_k1 166 rfl rfl, lw_k1 8 rfl rfl, by decide +kernel, rfl⟩
theorem i_Pr_init_63 : iIns M_Pr_init 63 .dup 1 := (by decide +kernel : decode prog_1_method_1_code 63 = .ok (.dup, 1))
theorem i_Pr_init_64 : iCallI M_Pr_init 64 M_Gr_init 0 := ⟨⟨42, (by decide +kernel : decode prog_1_method_1_code 64 = .ok (.invokespecial 42, 3)), lw_k1 167 rfl rfl⟩, im_Gr_init, me_Gr_init, pn_Gr_init⟩
theorem i_Pr_init_67 : iPutF M_Pr_init 67 13 5 (.object "ParallelRewriting$Growth") := ⟨43, (by decide +kernel : decode prog_1_method_1_code 67 = .ok (.putfield 43, 3)), pf_Pr_Pr_growth, rfl⟩
theorem i_Pr_init_70 : iIns M_Pr_init 70 (.aload_n 0) 1 := (by decide +kernel : decode prog_1_method_1_code 70 = .ok (.aload_n 0, 1))
theorem i_Pr_init_71 : iNew M_Pr_init 71 6 [.null, .null, .null, .null, .null, .null, .int 0, .int 0, .int 0] := ⟨47, (by decide +kernel : decode prog_1_method_1_code 71 = .ok (.new 47, 3)), RX4, TX4, 9, tyX4, rfl, uw_Re, tyX4_ok, lw_k1 190 rfl rfl, lw_k1 191 rfl rfl, lw_k1 9 rfl rfl, by decide +kernel, rfl⟩
theorem i_Pr_init_74 : iIns M_Pr_init 74 .dup 1 := (by decide +kernel : decode prog_1_method_1_code 74 = .ok (.dup, 1))
theorem i_Pr_init_75 : iCallI M_Pr_init 75 M_Re_init 0 := ⟨⟨49, (by decide +kernel : decode prog_1_method_1_code 75 = .ok (.invokespecial 49, 3)), lw_k1 192 rfl rfl⟩, im_Re_init, me_Re_init, pn_Re_init⟩
theorem i_Pr_init_78 : iPutF M_Pr_init 78 13 6 (.object "ParallelRewriting$Recurrence") := ⟨50, (by decide +kernel : decode prog_1_method_1_code 78 = .ok (.putfield 50, 3)), pf_Pr_Pr_recurrence, rfl⟩
theorem i_Pr_init_81 : iIns M_Pr_init 81 (.aload_n 0) 1 := (by decide +kernel : decode prog_1_method_1_code 81 = .ok (.aload_n 0, 1))
theorem i_Pr_init_82 : iNew M_Pr_init 82 2 [.null, .null] := ⟨54, (by decide +kernel : decode prog_1_method_1_code 82 = .ok (.new 54, 3)), RX0, TX0, 2, tyX0, rfl, uw_Ad, tyX0_ok, lw_k1 225 rfl rfl, lw_k1 226 rfl rfl, lw_k1 10 rfl rfl, by decide +kernel, rfl⟩
theorem i_Pr_init_85 : iIns M_Pr_init 85 .dup 1 := (by decide +kernel : decode prog_1_method_1_code 85 = .ok (.dup, 1))
theorem i_Pr_init_86 : iCallI M_Pr_init 86 M_Ad_init 0 := ⟨⟨56, (by decide +kernel : decode prog_1_method_1_code 86 = .ok (.invokespecial 56, 3)), lw_k1 227 rfl rfl⟩, im_Ad_init, me_Ad_init, pn_Ad_init⟩
theorem i_Pr_init_89 : iPutF M_Pr_init 89 13 7 (.object "ParallelRewriting$Adults") := ⟨57, (by decide +kernel : decode prog_1_method_1_code 89 = .ok (.putfield 57, 3)), pf_Pr_Pr_adults, rfl⟩
theorem i_Pr_init_92 : iIns M_Pr_init 92 (.aload_n 0) 1 := (by decide +kernel : decode prog_1_method_1_code 92 = .ok (.aload_n 0, 1))
theorem i_Pr_init_93 : iNew M_Pr_init 93 11 [.null, .null] := ⟨61, (by decide +kernel : decode prog_1_method_1_code 93 = .ok (.new 61, 3)), RX9, TX9, 2, tyX9, rfl, uw_Wy, tyX9_ok, lw_k2 0 rfl rfl, lw_k2 1 rfl rfl, lw_k1 11 rfl rfl, by decide +kernel, rfl⟩
theorem i_Pr_init_96 : iIns M_Pr_init 96 .dup 1 := (by decide +kernel : decode prog_1_method_1_code 96 = .ok (.dup, 1))
theorem i_Pr_init_97 : iCallI M_Pr_init 97 M_Wy_init 0 := ⟨⟨63, (by decide +kernel : decode prog_1_method_1_code 97 = .ok (.invokespecial 63, 3)), lw_k2 2 rfl rfl⟩, im_Wy_init, me_Wy_init, pn_Wy_init⟩
theorem i_Pr_init_100 : iPutF M_Pr_init 100 13 8 (.object "ParallelRewriting$WayCounter") := ⟨64, (by decide +kernel : decode prog_1_method_1_code 100 = .ok (.putfield 64, 3)), pf_Pr_Pr_wayCounter, rfl⟩
theorem i_Pr_init_103 : iIns M_Pr_init 103 (.aload_n 0) 1 := (by decide +kernel : decode prog_1_method_1_code 103 = .ok (.aload_n 0, 1))
theorem i_Pr_init_104 : iNew M_Pr_init 104 7 [.null, .int 0, .int 0] := ⟨68, (by decide +kernel : decode prog_1_method_1_code 104 = .ok (.new 68, 3)), RX5, TX5, 3, tyX5, rfl, uw_Sq, tyX5_ok, lw_k2 13 rfl rfl, lw_k2 14 rfl rfl, lw_k1 12 rfl rfl, by decide +kernel, rfl⟩
theorem i_Pr_init_107 : iIns M_Pr_init 107 .dup 1 := (by decide +kernel : decode prog_1_method_1_code 107 = .ok (.dup, 1))
theorem i_Pr_init_108 : iCallI M_Pr_init 108 M_Sq_init 0 := ⟨⟨70, (by decide +kernel : decode prog_1_method_1_code 108 = .ok (.invokespecial 70, 3)), lw_k2 15 rfl rfl⟩, im_Sq_init, me_Sq_init, pn_Sq_init⟩
theorem i_Pr_init_111 : iPutF M_Pr_init 111 13 9 (.object "ParallelRewriting$SequenceSearch") := ⟨71, (by decide +kernel : decode prog_1_method_1_code 111 = .ok (.putfield 71, 3)), pf_Pr_Pr_search, rfl⟩
theorem i_Pr_init_114 : iIns M_Pr_init 114 (.aload_n 0) 1 := (by decide +kernel : decode prog_1_method_1_code 114 = .ok (.aload_n 0, 1))
theorem i_Pr_init_115 : iNew M_Pr_init 115 3 [.null, .null, .int 0, .null, .int 0, .double 0, .null, .null, .int 0, .int 0, .double 0, .double 0, .double 0, .int 0] := ⟨75, (by decide +kernel : decode prog_1_method_1_code 115 = .ok (.new 75, 3)), RX1, TX1, 14, tyX1, rfl, uw_Fi, tyX1_ok, lw_k2 33 rfl rfl, lw_k2 34 rfl rfl, lw_k1 13 rfl rfl, by decide +kernel, rfl⟩
theorem i_Pr_init_118 : iIns M_Pr_init 118 .dup 1 := (by decide +kernel : decode prog_1_method_1_code 118 = .ok (.dup, 1))
theorem i_Pr_init_119 : iCallI M_Pr_init 119 M_Fi_init 0 := ⟨⟨77, (by decide +kernel : decode prog_1_method_1_code 119 = .ok (.invokespecial 77, 3)), lw_k2 35 rfl rfl⟩, im_Fi_init, me_Fi_init, pn_Fi_init⟩
theorem i_Pr_init_122 : iPutF M_Pr_init 122 13 10 (.object "ParallelRewriting$Figure") := ⟨78, (by decide +kernel : decode prog_1_method_1_code 122 = .ok (.putfield 78, 3)), pf_Pr_Pr_figure, rfl⟩
theorem i_Pr_init_125 : iIns M_Pr_init 125 (.aload_n 0) 1 := (by decide +kernel : decode prog_1_method_1_code 125 = .ok (.aload_n 0, 1))
theorem i_Pr_init_126 : iIns M_Pr_init 126 (.iconst 2) 1 := (by decide +kernel : decode prog_1_method_1_code 126 = .ok (.iconst 2, 1))
theorem i_Pr_init_127 : iIns M_Pr_init 127 (.bipush 122) 2 := (by decide +kernel : decode prog_1_method_1_code 127 = .ok (.bipush 122, 2))
-- i_Pr_init_129: multianewarray (82, 2)
theorem i_Pr_init_133 : iPutF M_Pr_init 133 13 11 (.array (.array .double)) := ⟨84, (by decide +kernel : decode prog_1_method_1_code 133 = .ok (.putfield 84, 3)), pf_Pr_Pr_rows, rfl⟩
theorem i_Pr_init_136 : iIns M_Pr_init 136 (.aload_n 0) 1 := (by decide +kernel : decode prog_1_method_1_code 136 = .ok (.aload_n 0, 1))
theorem i_Pr_init_137 : iIns M_Pr_init 137 (.iconst 2) 1 := (by decide +kernel : decode prog_1_method_1_code 137 = .ok (.iconst 2, 1))
theorem i_Pr_init_138 : iNewA M_Pr_init 138 .int := ⟨(by decide +kernel : decode prog_1_method_1_code 138 = .ok (.newarray .int, 2)), lw_k1 95 rfl rfl⟩
theorem i_Pr_init_140 : iPutF M_Pr_init 140 13 12 (.array .int) := ⟨87, (by decide +kernel : decode prog_1_method_1_code 140 = .ok (.putfield 87, 3)), pf_Pr_Pr_rowSizes, rfl⟩
theorem i_Pr_init_143 : iIns M_Pr_init 143 .return_ 1 := (by decide +kernel : decode prog_1_method_1_code 143 = .ok (.return_, 1))
theorem i_Pr_clearText_0 : iIns M_Pr_clearText 0 (.aload_n 0) 1 := (by decide +kernel : decode prog_1_method_3_code 0 = .ok (.aload_n 0, 1))
theorem i_Pr_clearText_1 : iGet M_Pr_clearText 1 13 0 := ⟨12, (by decide +kernel : decode prog_1_method_3_code 1 = .ok (.getfield 12, 3)), fl_Pr_Pr_text⟩
theorem i_Pr_clearText_4 : iGet M_Pr_clearText 4 10 1 := ⟨107, (by decide +kernel : decode prog_1_method_3_code 4 = .ok (.getfield 107, 3)), fl_Pr_Tx_length⟩
theorem i_Pr_clearText_7 : iIns M_Pr_clearText 7 (.istore_n 1) 1 := (by decide +kernel : decode prog_1_method_3_code 7 = .ok (.istore_n 1, 1))
theorem i_Pr_clearText_8 : iIns M_Pr_clearText 8 (.aload_n 0) 1 := (by decide +kernel : decode prog_1_method_3_code 8 = .ok (.aload_n 0, 1))
theorem i_Pr_clearText_9 : iGet M_Pr_clearText 9 13 0 := ⟨12, (by decide +kernel : decode prog_1_method_3_code 9 = .ok (.getfield 12, 3)), fl_Pr_Pr_text⟩
theorem i_Pr_clearText_12 : iIns M_Pr_clearText 12 (.iconst 0) 1 := (by decide +kernel : decode prog_1_method_3_code 12 = .ok (.iconst 0, 1))
theorem i_Pr_clearText_13 : iPutX M_Pr_clearText 13 10 1 .int := ⟨107, (by decide +kernel : decode prog_1_method_3_code 13 = .ok (.putfield 107, 3)), px_Pr_Tx_length⟩
theorem i_Pr_clearText_16 : iIns M_Pr_clearText 16 (.iload_n 1) 1 := (by decide +kernel : decode prog_1_method_3_code 16 = .ok (.iload_n 1, 1))
theorem i_Pr_clearText_17 : iIns M_Pr_clearText 17 .ireturn 1 := (by decide +kernel : decode prog_1_method_3_code 17 = .ok (.ireturn, 1))
theorem i_Pr_wordLength_0 : iIns M_Pr_wordLength 0 (.aload_n 0) 1 := (by decide +kernel : decode prog_1_method_13_code 0 = .ok (.aload_n 0, 1))
theorem i_Pr_wordLength_1 : iGet M_Pr_wordLength 1 13 1 := ⟨19, (by decide +kernel : decode prog_1_method_13_code 1 = .ok (.getfield 19, 3)), fl_Pr_Pr_live⟩
theorem i_Pr_wordLength_4 : iGet M_Pr_wordLength 4 8 1 := ⟨157, (by decide +kernel : decode prog_1_method_13_code 4 = .ok (.getfield 157, 3)), fl_Pr_St_current⟩
theorem i_Pr_wordLength_7 : iGet M_Pr_wordLength 7 12 1 := ⟨167, (by decide +kernel : decode prog_1_method_13_code 7 = .ok (.getfield 167, 3)), fl_Pr_Wd_length⟩
theorem i_Pr_wordLength_10 : iIns M_Pr_wordLength 10 .ireturn 1 := (by decide +kernel : decode prog_1_method_13_code 10 = .ok (.ireturn, 1))
theorem i_Pr_isTarget_0 : iIns M_Pr_isTarget 0 (.aload_n 0) 1 := (by decide +kernel : decode prog_1_method_15_code 0 = .ok (.aload_n 0, 1))
theorem i_Pr_isTarget_1 : iGet M_Pr_isTarget 1 13 1 := ⟨19, (by decide +kernel : decode prog_1_method_15_code 1 = .ok (.getfield 19, 3)), fl_Pr_Pr_live⟩
theorem i_Pr_isTarget_4 : iGet M_Pr_isTarget 4 8 1 := ⟨157, (by decide +kernel : decode prog_1_method_15_code 4 = .ok (.getfield 157, 3)), fl_Pr_St_current⟩
theorem i_Pr_isTarget_7 : iIns M_Pr_isTarget 7 (.aload_n 0) 1 := (by decide +kernel : decode prog_1_method_15_code 7 = .ok (.aload_n 0, 1))
theorem i_Pr_isTarget_8 : iGet M_Pr_isTarget 8 13 1 := ⟨19, (by decide +kernel : decode prog_1_method_15_code 8 = .ok (.getfield 19, 3)), fl_Pr_Pr_live⟩
theorem i_Pr_isTarget_11 : iGet M_Pr_isTarget 11 8 2 := ⟨168, (by decide +kernel : decode prog_1_method_15_code 11 = .ok (.getfield 168, 3)), fl_Pr_St_target⟩
theorem i_Pr_isTarget_14 : iCallV M_Pr_isTarget 14 M_Wd_sameAs 1 12 := ⟨⟨179, (by decide +kernel : decode prog_1_method_15_code 14 = .ok (.invokevirtual 179, 3)), lw_k2 146 rfl rfl⟩, vm_Wd_sameAs, me_Wd_sameAs, pn_Wd_sameAs⟩
theorem i_Pr_isTarget_17 : iIns M_Pr_isTarget 17 .ireturn 1 := (by decide +kernel : decode prog_1_method_15_code 17 = .ok (.ireturn, 1))
theorem i_Pr_undo_0 : iIns M_Pr_undo 0 (.aload_n 0) 1 := (by decide +kernel : decode prog_1_method_17_code 0 = .ok (.aload_n 0, 1))
theorem i_Pr_undo_1 : iGet M_Pr_undo 1 13 3 := ⟨29, (by decide +kernel : decode prog_1_method_17_code 1 = .ok (.getfield 29, 3)), fl_Pr_Pr_history⟩
theorem i_Pr_undo_4 : iIns M_Pr_undo 4 (.aload_n 0) 1 := (by decide +kernel : decode prog_1_method_17_code 4 = .ok (.aload_n 0, 1))
theorem i_Pr_undo_5 : iGet M_Pr_undo 5 13 1 := ⟨19, (by decide +kernel : decode prog_1_method_17_code 5 = .ok (.getfield 19, 3)), fl_Pr_Pr_live⟩
theorem i_Pr_undo_8 : iGet M_Pr_undo 8 8 1 := ⟨157, (by decide +kernel : decode prog_1_method_17_code 8 = .ok (.getfield 157, 3)), fl_Pr_St_current⟩
theorem i_Pr_undo_11 : iCallV M_Pr_undo 11 M_Hi_takeBack 1 5 := ⟨⟨196, (by decide +kernel : decode prog_1_method_17_code 11 = .ok (.invokevirtual 196, 3)), lw_k2 161 rfl rfl⟩, vm_Hi_takeBack, me_Hi_takeBack, pn_Hi_takeBack⟩
theorem i_Pr_undo_14 : iIns M_Pr_undo 14 .ireturn 1 := (by decide +kernel : decode prog_1_method_17_code 14 = .ok (.ireturn, 1))
theorem i_Pr_save_0 : iIns M_Pr_save 0 (.aload_n 0) 1 := (by decide +kernel : decode prog_1_method_37_code 0 = .ok (.aload_n 0, 1))
theorem i_Pr_save_1 : iGet M_Pr_save 1 13 2 := ⟨23, (by decide +kernel : decode prog_1_method_37_code 1 = .ok (.getfield 23, 3)), fl_Pr_Pr_saved⟩
theorem i_Pr_save_4 : iIns M_Pr_save 4 (.aload_n 0) 1 := (by decide +kernel : decode prog_1_method_37_code 4 = .ok (.aload_n 0, 1))
theorem i_Pr_save_5 : iGet M_Pr_save 5 13 1 := ⟨19, (by decide +kernel : decode prog_1_method_37_code 5 = .ok (.getfield 19, 3)), fl_Pr_Pr_live⟩
theorem i_Pr_save_8 : iCallV M_Pr_save 8 M_St_copy 1 8 := ⟨⟨351, (by decide +kernel : decode prog_1_method_37_code 8 = .ok (.invokevirtual 351, 3)), lw_k2 176 rfl rfl⟩, vm_St_copy, me_St_copy, pn_St_copy⟩
theorem i_Pr_save_11 : iIns M_Pr_save 11 (.aload_n 0) 1 := (by decide +kernel : decode prog_1_method_37_code 11 = .ok (.aload_n 0, 1))
theorem i_Pr_save_12 : iIns M_Pr_save 12 (.iconst 1) 1 := (by decide +kernel : decode prog_1_method_37_code 12 = .ok (.iconst 1, 1))
theorem i_Pr_save_13 : iPutX M_Pr_save 13 13 13 .boolean := ⟨354, (by decide +kernel : decode prog_1_method_37_code 13 = .ok (.putfield 354, 3)), px_Pr_Pr_hasSaved⟩
theorem i_Pr_save_16 : iIns M_Pr_save 16 .return_ 1 := (by decide +kernel : decode prog_1_method_37_code 16 = .ok (.return_, 1))
theorem i_Pr_appendCharacter_0 : iIns M_Pr_appendCharacter 0 (.iload_n 1) 1 := (by decide +kernel : decode prog_1_method_2_code 0 = .ok (.iload_n 1, 1))
theorem i_Pr_appendCharacter_1 : iIns M_Pr_appendCharacter 1 (.bipush 32) 2 := (by decide +kernel : decode prog_1_method_2_code 1 = .ok (.bipush 32, 2))
theorem i_Pr_appendCharacter_3 : iIcmp M_Pr_appendCharacter 3 .lt 12 := ⟨9, (by decide +kernel : decode prog_1_method_2_code 3 = .ok (.if_icmp .lt (9), 3)), by decide⟩
theorem i_Pr_appendCharacter_6 : iIns M_Pr_appendCharacter 6 (.iload_n 1) 1 := (by decide +kernel : decode prog_1_method_2_code 6 = .ok (.iload_n 1, 1))
theorem i_Pr_appendCharacter_7 : iIns M_Pr_appendCharacter 7 (.bipush 126) 2 := (by decide +kernel : decode prog_1_method_2_code 7 = .ok (.bipush 126, 2))
theorem i_Pr_appendCharacter_9 : iIcmp M_Pr_appendCharacter 9 .le 22 := ⟨13, (by decide +kernel : decode prog_1_method_2_code 9 = .ok (.if_icmp .le (13), 3)), by decide⟩
theorem i_Pr_appendCharacter_12 : iThrow M_Pr_appendCharacter 12 xIae := ⟨91, 93, 95, "character is not from 32 to 126", ⟨lw_k2 196 rfl rfl, lw_k3 1 rfl rfl, by decide +kernel⟩, (by decide +kernel : decode prog_1_method_2_code 12 = .ok (.new 91, 3)), (by decide +kernel : decode prog_1_method_2_code 15 = .ok (.dup, 1)), Or.inl ⟨(by decide +kernel : decode prog_1_method_2_code 16 = .ok (.ldc 93, 2)), (by decide +kernel : decode prog_1_method_2_code 18 = .ok (.invokespecial 95, 3)), (by decide +kernel : decode prog_1_method_2_code 21 = .ok (.athrow, 1))⟩⟩
theorem i_Pr_appendCharacter_22 : iIns M_Pr_appendCharacter 22 (.aload_n 0) 1 := (by decide +kernel : decode prog_1_method_2_code 22 = .ok (.aload_n 0, 1))
theorem i_Pr_appendCharacter_23 : iGet M_Pr_appendCharacter 23 13 0 := ⟨12, (by decide +kernel : decode prog_1_method_2_code 23 = .ok (.getfield 12, 3)), fl_Pr_Pr_text⟩
theorem i_Pr_appendCharacter_26 : iIns M_Pr_appendCharacter 26 (.iload_n 1) 1 := (by decide +kernel : decode prog_1_method_2_code 26 = .ok (.iload_n 1, 1))
theorem i_Pr_appendCharacter_27 : iIns M_Pr_appendCharacter 27 .i2c 1 := (by decide +kernel : decode prog_1_method_2_code 27 = .ok (.i2c, 1))
theorem i_Pr_appendCharacter_28 : iCallV M_Pr_appendCharacter 28 M_Tx_append 1 10 := ⟨⟨98, (by decide +kernel : decode prog_1_method_2_code 28 = .ok (.invokevirtual 98, 3)), lw_k3 27 rfl rfl⟩, vm_Tx_append, me_Tx_append, pn_Tx_append⟩
theorem i_Pr_appendCharacter_31 : iIf M_Pr_appendCharacter 31 .ne 44 := ⟨13, (by decide +kernel : decode prog_1_method_2_code 31 = .ok (.ifCond .ne (13), 3)), by decide⟩
theorem i_Pr_appendCharacter_34 : iThrow M_Pr_appendCharacter 34 xIse := ⟨102, 104, 106, "the text is full", ⟨lw_k3 31 rfl rfl, lw_k3 41 rfl rfl, by decide +kernel⟩, (by decide +kernel : decode prog_1_method_2_code 34 = .ok (.new 102, 3)), (by decide +kernel : decode prog_1_method_2_code 37 = .ok (.dup, 1)), Or.inl ⟨(by decide +kernel : decode prog_1_method_2_code 38 = .ok (.ldc 104, 2)), (by decide +kernel : decode prog_1_method_2_code 40 = .ok (.invokespecial 106, 3)), (by decide +kernel : decode prog_1_method_2_code 43 = .ok (.athrow, 1))⟩⟩
theorem i_Pr_appendCharacter_44 : iIns M_Pr_appendCharacter 44 (.aload_n 0) 1 := (by decide +kernel : decode prog_1_method_2_code 44 = .ok (.aload_n 0, 1))
theorem i_Pr_appendCharacter_45 : iGet M_Pr_appendCharacter 45 13 0 := ⟨12, (by decide +kernel : decode prog_1_method_2_code 45 = .ok (.getfield 12, 3)), fl_Pr_Pr_text⟩
theorem i_Pr_appendCharacter_48 : iGet M_Pr_appendCharacter 48 10 1 := ⟨107, (by decide +kernel : decode prog_1_method_2_code 48 = .ok (.getfield 107, 3)), fl_Pr_Tx_length⟩
theorem i_Pr_appendCharacter_51 : iIns M_Pr_appendCharacter 51 .ireturn 1 := (by decide +kernel : decode prog_1_method_2_code 51 = .ok (.ireturn, 1))
theorem i_Pr_setProduction_0 : iIns M_Pr_setProduction 0 (.aload_n 0) 1 := (by decide +kernel : decode prog_1_method_4_code 0 = .ok (.aload_n 0, 1))
theorem i_Pr_setProduction_1 : iIns M_Pr_setProduction 1 (.iload_n 1) 1 := (by decide +kernel : decode prog_1_method_4_code 1 = .ok (.iload_n 1, 1))
theorem i_Pr_setProduction_2 : iCallV M_Pr_setProduction 2 M_Pr_tableAt 1 13 := ⟨⟨111, (by decide +kernel : decode prog_1_method_4_code 2 = .ok (.invokevirtual 111, 3)), lw_k3 78 rfl rfl⟩, vm_Pr_tableAt, me_Pr_tableAt, pn_Pr_tableAt⟩
theorem i_Pr_setProduction_5 : iIns M_Pr_setProduction 5 (.astore_n 3) 1 := (by decide +kernel : decode prog_1_method_4_code 5 = .ok (.astore_n 3, 1))
theorem i_Pr_setProduction_6 : iIns M_Pr_setProduction 6 (.iload_n 2) 1 := (by decide +kernel : decode prog_1_method_4_code 6 = .ok (.iload_n 2, 1))
theorem i_Pr_setProduction_7 : iCallS M_Pr_setProduction 7 M_Pr_checkLetter 1 := ⟨⟨115, (by decide +kernel : decode prog_1_method_4_code 7 = .ok (.invokestatic 115, 3)), lw_k3 95 rfl rfl⟩, sm_Pr_checkLetter, me_Pr_checkLetter, pn_Pr_checkLetter⟩
theorem i_Pr_setProduction_10 : iIns M_Pr_setProduction 10 (.aload_n 0) 1 := (by decide +kernel : decode prog_1_method_4_code 10 = .ok (.aload_n 0, 1))
theorem i_Pr_setProduction_11 : iIns M_Pr_setProduction 11 (.iconst 4) 1 := (by decide +kernel : decode prog_1_method_4_code 11 = .ok (.iconst 4, 1))
theorem i_Pr_setProduction_12 : iCallV M_Pr_setProduction 12 M_Pr_checkWordInText 1 13 := ⟨⟨119, (by decide +kernel : decode prog_1_method_4_code 12 = .ok (.invokevirtual 119, 3)), lw_k3 99 rfl rfl⟩, vm_Pr_checkWordInText, me_Pr_checkWordInText, pn_Pr_checkWordInText⟩
theorem i_Pr_setProduction_15 : iIns M_Pr_setProduction 15 (.aload_n 3) 1 := (by decide +kernel : decode prog_1_method_4_code 15 = .ok (.aload_n 3, 1))
theorem i_Pr_setProduction_16 : iIns M_Pr_setProduction 16 (.iload_n 2) 1 := (by decide +kernel : decode prog_1_method_4_code 16 = .ok (.iload_n 2, 1))
theorem i_Pr_setProduction_17 : iIns M_Pr_setProduction 17 (.aload_n 0) 1 := (by decide +kernel : decode prog_1_method_4_code 17 = .ok (.aload_n 0, 1))
theorem i_Pr_setProduction_18 : iGet M_Pr_setProduction 18 13 0 := ⟨12, (by decide +kernel : decode prog_1_method_4_code 18 = .ok (.getfield 12, 3)), fl_Pr_Pr_text⟩
theorem i_Pr_setProduction_21 : iCallV M_Pr_setProduction 21 M_Tb_replaceList 2 9 := ⟨⟨122, (by decide +kernel : decode prog_1_method_4_code 21 = .ok (.invokevirtual 122, 3)), lw_k3 108 rfl rfl⟩, vm_Tb_replaceList, me_Tb_replaceList, pn_Tb_replaceList⟩
theorem i_Pr_setProduction_24 : iIns M_Pr_setProduction 24 (.aload_n 0) 1 := (by decide +kernel : decode prog_1_method_4_code 24 = .ok (.aload_n 0, 1))
theorem i_Pr_setProduction_25 : iGet M_Pr_setProduction 25 13 0 := ⟨12, (by decide +kernel : decode prog_1_method_4_code 25 = .ok (.getfield 12, 3)), fl_Pr_Pr_text⟩
theorem i_Pr_setProduction_28 : iGet M_Pr_setProduction 28 10 1 := ⟨107, (by decide +kernel : decode prog_1_method_4_code 28 = .ok (.getfield 107, 3)), fl_Pr_Tx_length⟩
theorem i_Pr_setProduction_31 : iIns M_Pr_setProduction 31 .ireturn 1 := (by decide +kernel : decode prog_1_method_4_code 31 = .ok (.ireturn, 1))
theorem i_Pr_tableAt_0 : iIns M_Pr_tableAt 0 (.iload_n 1) 1 := (by decide +kernel : decode prog_1_method_39_code 0 = .ok (.iload_n 1, 1))
theorem i_Pr_tableAt_1 : iIf M_Pr_tableAt 1 .lt 9 := ⟨8, (by decide +kernel : decode prog_1_method_39_code 1 = .ok (.ifCond .lt (8), 3)), by decide⟩
theorem i_Pr_tableAt_4 : iIns M_Pr_tableAt 4 (.iload_n 1) 1 := (by decide +kernel : decode prog_1_method_39_code 4 = .ok (.iload_n 1, 1))
theorem i_Pr_tableAt_5 : iIns M_Pr_tableAt 5 (.iconst 3) 1 := (by decide +kernel : decode prog_1_method_39_code 5 = .ok (.iconst 3, 1))
theorem i_Pr_tableAt_6 : iIcmp M_Pr_tableAt 6 .lt 20 := ⟨14, (by decide +kernel : decode prog_1_method_39_code 6 = .ok (.if_icmp .lt (14), 3)), by decide⟩
theorem i_Pr_tableAt_9 : iThrow M_Pr_tableAt 9 xIob := ⟨171, 360, 175, "no such table", ⟨lw_k3 82 rfl rfl, lw_k3 92 rfl rfl, by decide +kernel⟩, (by decide +kernel : decode prog_1_method_39_code 9 = .ok (.new 171, 3)), (by decide +kernel : decode prog_1_method_39_code 12 = .ok (.dup, 1)), Or.inr ⟨(by decide +kernel : decode prog_1_method_39_code 13 = .ok (.ldc_w 360, 3)), (by decide +kernel : decode prog_1_method_39_code 16 = .ok (.invokespecial 175, 3)), (by decide +kernel : decode prog_1_method_39_code 19 = .ok (.athrow, 1))⟩⟩
theorem i_Pr_tableAt_20 : iIns M_Pr_tableAt 20 (.aload_n 0) 1 := (by decide +kernel : decode prog_1_method_39_code 20 = .ok (.aload_n 0, 1))
theorem i_Pr_tableAt_21 : iGet M_Pr_tableAt 21 13 1 := ⟨19, (by decide +kernel : decode prog_1_method_39_code 21 = .ok (.getfield 19, 3)), fl_Pr_Pr_live⟩
theorem i_Pr_tableAt_24 : iGet M_Pr_tableAt 24 8 0 := ⟨362, (by decide +kernel : decode prog_1_method_39_code 24 = .ok (.getfield 362, 3)), fl_Pr_St_tables⟩
theorem i_Pr_tableAt_27 : iIns M_Pr_tableAt 27 (.iload_n 1) 1 := (by decide +kernel : decode prog_1_method_39_code 27 = .ok (.iload_n 1, 1))
theorem i_Pr_tableAt_28 : iIns M_Pr_tableAt 28 .aaload 1 := (by decide +kernel : decode prog_1_method_39_code 28 = .ok (.aaload, 1))
theorem i_Pr_tableAt_29 : iIns M_Pr_tableAt 29 .areturn 1 := (by decide +kernel : decode prog_1_method_39_code 29 = .ok (.areturn, 1))
theorem i_Pr_checkLetter_0 : iIns M_Pr_checkLetter 0 (.iload_n 0) 1 := (by decide +kernel : decode prog_1_method_40_code 0 = .ok (.iload_n 0, 1))
theorem i_Pr_checkLetter_1 : iIf M_Pr_checkLetter 1 .lt 10 := ⟨9, (by decide +kernel : decode prog_1_method_40_code 1 = .ok (.ifCond .lt (9), 3)), by decide⟩
theorem i_Pr_checkLetter_4 : iIns M_Pr_checkLetter 4 (.iload_n 0) 1 := (by decide +kernel : decode prog_1_method_40_code 4 = .ok (.iload_n 0, 1))
theorem i_Pr_checkLetter_5 : iIns M_Pr_checkLetter 5 (.bipush 6) 2 := (by decide +kernel : decode prog_1_method_40_code 5 = .ok (.bipush 6, 2))
theorem i_Pr_checkLetter_7 : iIcmp M_Pr_checkLetter 7 .lt 21 := ⟨14, (by decide +kernel : decode prog_1_method_40_code 7 = .ok (.if_icmp .lt (14), 3)), by decide⟩
theorem i_Pr_checkLetter_10 : iThrow M_Pr_checkLetter 10 xIob := ⟨171, 366, 175, "no such letter", ⟨lw_k3 82 rfl rfl, lw_k3 92 rfl rfl, by decide +kernel⟩, (by decide +kernel : decode prog_1_method_40_code 10 = .ok (.new 171, 3)), (by decide +kernel : decode prog_1_method_40_code 13 = .ok (.dup, 1)), Or.inr ⟨(by decide +kernel : decode prog_1_method_40_code 14 = .ok (.ldc_w 366, 3)), (by decide +kernel : decode prog_1_method_40_code 17 = .ok (.invokespecial 175, 3)), (by decide +kernel : decode prog_1_method_40_code 20 = .ok (.athrow, 1))⟩⟩
theorem i_Pr_checkLetter_21 : iIns M_Pr_checkLetter 21 .return_ 1 := (by decide +kernel : decode prog_1_method_40_code 21 = .ok (.return_, 1))
theorem i_Pr_checkWordInText_0 : iIns M_Pr_checkWordInText 0 (.aload_n 0) 1 := (by decide +kernel : decode prog_1_method_41_code 0 = .ok (.aload_n 0, 1))
theorem i_Pr_checkWordInText_1 : iGet M_Pr_checkWordInText 1 13 0 := ⟨12, (by decide +kernel : decode prog_1_method_41_code 1 = .ok (.getfield 12, 3)), fl_Pr_Pr_text⟩
theorem i_Pr_checkWordInText_4 : iGet M_Pr_checkWordInText 4 10 1 := ⟨107, (by decide +kernel : decode prog_1_method_41_code 4 = .ok (.getfield 107, 3)), fl_Pr_Tx_length⟩
theorem i_Pr_checkWordInText_7 : iIns M_Pr_checkWordInText 7 (.iload_n 1) 1 := (by decide +kernel : decode prog_1_method_41_code 7 = .ok (.iload_n 1, 1))
theorem i_Pr_checkWordInText_8 : iIcmp M_Pr_checkWordInText 8 .gt 21 := ⟨13, (by decide +kernel : decode prog_1_method_41_code 8 = .ok (.if_icmp .gt (13), 3)), by decide⟩
theorem i_Pr_checkWordInText_11 : iIns M_Pr_checkWordInText 11 (.aload_n 0) 1 := (by decide +kernel : decode prog_1_method_41_code 11 = .ok (.aload_n 0, 1))
theorem i_Pr_checkWordInText_12 : iGet M_Pr_checkWordInText 12 13 0 := ⟨12, (by decide +kernel : decode prog_1_method_41_code 12 = .ok (.getfield 12, 3)), fl_Pr_Pr_text⟩
theorem i_Pr_checkWordInText_15 : iCallV M_Pr_checkWordInText 15 M_Tx_hasOnlyLetters 0 10 := ⟨⟨368, (by decide +kernel : decode prog_1_method_41_code 15 = .ok (.invokevirtual 368, 3)), lw_k3 103 rfl rfl⟩, vm_Tx_hasOnlyLetters, me_Tx_hasOnlyLetters, pn_Tx_hasOnlyLetters⟩
theorem i_Pr_checkWordInText_18 : iIf M_Pr_checkWordInText 18 .ne 32 := ⟨14, (by decide +kernel : decode prog_1_method_41_code 18 = .ok (.ifCond .ne (14), 3)), by decide⟩
theorem i_Pr_checkWordInText_21 : iThrow M_Pr_checkWordInText 21 xIae := ⟨91, 371, 95, "the text is not such a word", ⟨lw_k2 196 rfl rfl, lw_k3 1 rfl rfl, by decide +kernel⟩, (by decide +kernel : decode prog_1_method_41_code 21 = .ok (.new 91, 3)), (by decide +kernel : decode prog_1_method_41_code 24 = .ok (.dup, 1)), Or.inr ⟨(by decide +kernel : decode prog_1_method_41_code 25 = .ok (.ldc_w 371, 3)), (by decide +kernel : decode prog_1_method_41_code 28 = .ok (.invokespecial 95, 3)), (by decide +kernel : decode prog_1_method_41_code 31 = .ok (.athrow, 1))⟩⟩
theorem i_Pr_checkWordInText_32 : iIns M_Pr_checkWordInText 32 .return_ 1 := (by decide +kernel : decode prog_1_method_41_code 32 = .ok (.return_, 1))
theorem i_Pr_addProduction_0 : iIns M_Pr_addProduction 0 (.aload_n 0) 1 := (by decide +kernel : decode prog_1_method_5_code 0 = .ok (.aload_n 0, 1))
theorem i_Pr_addProduction_1 : iIns M_Pr_addProduction 1 (.iload_n 1) 1 := (by decide +kernel : decode prog_1_method_5_code 1 = .ok (.iload_n 1, 1))
theorem i_Pr_addProduction_2 : iCallV M_Pr_addProduction 2 M_Pr_tableAt 1 13 := ⟨⟨111, (by decide +kernel : decode prog_1_method_5_code 2 = .ok (.invokevirtual 111, 3)), lw_k3 78 rfl rfl⟩, vm_Pr_tableAt, me_Pr_tableAt, pn_Pr_tableAt⟩
theorem i_Pr_addProduction_5 : iIns M_Pr_addProduction 5 (.astore_n 3) 1 := (by decide +kernel : decode prog_1_method_5_code 5 = .ok (.astore_n 3, 1))
theorem i_Pr_addProduction_6 : iIns M_Pr_addProduction 6 (.iload_n 2) 1 := (by decide +kernel : decode prog_1_method_5_code 6 = .ok (.iload_n 2, 1))
theorem i_Pr_addProduction_7 : iCallS M_Pr_addProduction 7 M_Pr_checkLetter 1 := ⟨⟨115, (by decide +kernel : decode prog_1_method_5_code 7 = .ok (.invokestatic 115, 3)), lw_k3 95 rfl rfl⟩, sm_Pr_checkLetter, me_Pr_checkLetter, pn_Pr_checkLetter⟩
theorem i_Pr_addProduction_10 : iIns M_Pr_addProduction 10 (.aload_n 0) 1 := (by decide +kernel : decode prog_1_method_5_code 10 = .ok (.aload_n 0, 1))
theorem i_Pr_addProduction_11 : iIns M_Pr_addProduction 11 (.iconst 4) 1 := (by decide +kernel : decode prog_1_method_5_code 11 = .ok (.iconst 4, 1))
theorem i_Pr_addProduction_12 : iCallV M_Pr_addProduction 12 M_Pr_checkWordInText 1 13 := ⟨⟨119, (by decide +kernel : decode prog_1_method_5_code 12 = .ok (.invokevirtual 119, 3)), lw_k3 99 rfl rfl⟩, vm_Pr_checkWordInText, me_Pr_checkWordInText, pn_Pr_checkWordInText⟩
theorem i_Pr_addProduction_15 : iIns M_Pr_addProduction 15 (.aload_n 3) 1 := (by decide +kernel : decode prog_1_method_5_code 15 = .ok (.aload_n 3, 1))
theorem i_Pr_addProduction_16 : iIns M_Pr_addProduction 16 (.iload_n 2) 1 := (by decide +kernel : decode prog_1_method_5_code 16 = .ok (.iload_n 2, 1))
theorem i_Pr_addProduction_17 : iIns M_Pr_addProduction 17 (.aload_n 0) 1 := (by decide +kernel : decode prog_1_method_5_code 17 = .ok (.aload_n 0, 1))
theorem i_Pr_addProduction_18 : iGet M_Pr_addProduction 18 13 0 := ⟨12, (by decide +kernel : decode prog_1_method_5_code 18 = .ok (.getfield 12, 3)), fl_Pr_Pr_text⟩
theorem i_Pr_addProduction_21 : iCallV M_Pr_addProduction 21 M_Tb_extendList 2 9 := ⟨⟨128, (by decide +kernel : decode prog_1_method_5_code 21 = .ok (.invokevirtual 128, 3)), lw_k3 128 rfl rfl⟩, vm_Tb_extendList, me_Tb_extendList, pn_Tb_extendList⟩
theorem i_Pr_addProduction_24 : iIns M_Pr_addProduction 24 (.istore 4) 2 := (by decide +kernel : decode prog_1_method_5_code 24 = .ok (.istore 4, 2))
theorem i_Pr_addProduction_26 : iIns M_Pr_addProduction 26 (.iload 4) 2 := (by decide +kernel : decode prog_1_method_5_code 26 = .ok (.iload 4, 2))
theorem i_Pr_addProduction_28 : iIns M_Pr_addProduction 28 (.iconst (-1)) 1 := (by decide +kernel : decode prog_1_method_5_code 28 = .ok (.iconst (-1), 1))
theorem i_Pr_addProduction_29 : iIcmp M_Pr_addProduction 29 .ne 42 := ⟨13, (by decide +kernel : decode prog_1_method_5_code 29 = .ok (.if_icmp .ne (13), 3)), by decide⟩
theorem i_Pr_addProduction_32 : iThrow M_Pr_addProduction 32 xIse := ⟨102, 132, 106, "the list is full", ⟨lw_k3 31 rfl rfl, lw_k3 41 rfl rfl, by decide +kernel⟩, (by decide +kernel : decode prog_1_method_5_code 32 = .ok (.new 102, 3)), (by decide +kernel : decode prog_1_method_5_code 35 = .ok (.dup, 1)), Or.inl ⟨(by decide +kernel : decode prog_1_method_5_code 36 = .ok (.ldc 132, 2)), (by decide +kernel : decode prog_1_method_5_code 38 = .ok (.invokespecial 106, 3)), (by decide +kernel : decode prog_1_method_5_code 41 = .ok (.athrow, 1))⟩⟩
theorem i_Pr_addProduction_42 : iIns M_Pr_addProduction 42 (.iload 4) 2 := (by decide +kernel : decode prog_1_method_5_code 42 = .ok (.iload 4, 2))
theorem i_Pr_addProduction_44 : iIns M_Pr_addProduction 44 .ireturn 1 := (by decide +kernel : decode prog_1_method_5_code 44 = .ok (.ireturn, 1))
theorem i_Pr_productionCount_0 : iIns M_Pr_productionCount 0 (.aload_n 0) 1 := (by decide +kernel : decode prog_1_method_6_code 0 = .ok (.aload_n 0, 1))
theorem i_Pr_productionCount_1 : iIns M_Pr_productionCount 1 (.iload_n 1) 1 := (by decide +kernel : decode prog_1_method_6_code 1 = .ok (.iload_n 1, 1))
theorem i_Pr_productionCount_2 : iCallV M_Pr_productionCount 2 M_Pr_tableAt 1 13 := ⟨⟨111, (by decide +kernel : decode prog_1_method_6_code 2 = .ok (.invokevirtual 111, 3)), lw_k3 78 rfl rfl⟩, vm_Pr_tableAt, me_Pr_tableAt, pn_Pr_tableAt⟩
theorem i_Pr_productionCount_5 : iIns M_Pr_productionCount 5 (.astore_n 3) 1 := (by decide +kernel : decode prog_1_method_6_code 5 = .ok (.astore_n 3, 1))
theorem i_Pr_productionCount_6 : iIns M_Pr_productionCount 6 (.iload_n 2) 1 := (by decide +kernel : decode prog_1_method_6_code 6 = .ok (.iload_n 2, 1))
theorem i_Pr_productionCount_7 : iCallS M_Pr_productionCount 7 M_Pr_checkLetter 1 := ⟨⟨115, (by decide +kernel : decode prog_1_method_6_code 7 = .ok (.invokestatic 115, 3)), lw_k3 95 rfl rfl⟩, sm_Pr_checkLetter, me_Pr_checkLetter, pn_Pr_checkLetter⟩
theorem i_Pr_productionCount_10 : iIns M_Pr_productionCount 10 (.aload_n 3) 1 := (by decide +kernel : decode prog_1_method_6_code 10 = .ok (.aload_n 3, 1))
theorem i_Pr_productionCount_11 : iGet M_Pr_productionCount 11 9 0 := ⟨134, (by decide +kernel : decode prog_1_method_6_code 11 = .ok (.getfield 134, 3)), fl_Pr_Tb_listSizes⟩
theorem i_Pr_productionCount_14 : iIns M_Pr_productionCount 14 (.iload_n 2) 1 := (by decide +kernel : decode prog_1_method_6_code 14 = .ok (.iload_n 2, 1))
theorem i_Pr_productionCount_15 : iIns M_Pr_productionCount 15 .iaload 1 := (by decide +kernel : decode prog_1_method_6_code 15 = .ok (.iaload, 1))
theorem i_Pr_productionCount_16 : iIns M_Pr_productionCount 16 .ireturn 1 := (by decide +kernel : decode prog_1_method_6_code 16 = .ok (.ireturn, 1))
theorem i_Pr_setContextRule_0 : iIns M_Pr_setContextRule 0 (.aload_n 0) 1 := (by decide +kernel : decode prog_1_method_7_code 0 = .ok (.aload_n 0, 1))
theorem i_Pr_setContextRule_1 : iIns M_Pr_setContextRule 1 (.iload_n 1) 1 := (by decide +kernel : decode prog_1_method_7_code 1 = .ok (.iload_n 1, 1))
theorem i_Pr_setContextRule_2 : iCallV M_Pr_setContextRule 2 M_Pr_tableAt 1 13 := ⟨⟨111, (by decide +kernel : decode prog_1_method_7_code 2 = .ok (.invokevirtual 111, 3)), lw_k3 78 rfl rfl⟩, vm_Pr_tableAt, me_Pr_tableAt, pn_Pr_tableAt⟩
theorem i_Pr_setContextRule_5 : iIns M_Pr_setContextRule 5 (.astore 4) 2 := (by decide +kernel : decode prog_1_method_7_code 5 = .ok (.astore 4, 2))
theorem i_Pr_setContextRule_7 : iIns M_Pr_setContextRule 7 (.iload_n 2) 1 := (by decide +kernel : decode prog_1_method_7_code 7 = .ok (.iload_n 2, 1))
theorem i_Pr_setContextRule_8 : iCallS M_Pr_setContextRule 8 M_Pr_checkLetter 1 := ⟨⟨115, (by decide +kernel : decode prog_1_method_7_code 8 = .ok (.invokestatic 115, 3)), lw_k3 95 rfl rfl⟩, sm_Pr_checkLetter, me_Pr_checkLetter, pn_Pr_checkLetter⟩
theorem i_Pr_setContextRule_11 : iIns M_Pr_setContextRule 11 (.iload_n 3) 1 := (by decide +kernel : decode prog_1_method_7_code 11 = .ok (.iload_n 3, 1))
theorem i_Pr_setContextRule_12 : iCallS M_Pr_setContextRule 12 M_Pr_checkLetter 1 := ⟨⟨115, (by decide +kernel : decode prog_1_method_7_code 12 = .ok (.invokestatic 115, 3)), lw_k3 95 rfl rfl⟩, sm_Pr_checkLetter, me_Pr_checkLetter, pn_Pr_checkLetter⟩
theorem i_Pr_setContextRule_15 : iIns M_Pr_setContextRule 15 (.aload_n 0) 1 := (by decide +kernel : decode prog_1_method_7_code 15 = .ok (.aload_n 0, 1))
theorem i_Pr_setContextRule_16 : iIns M_Pr_setContextRule 16 (.iconst 4) 1 := (by decide +kernel : decode prog_1_method_7_code 16 = .ok (.iconst 4, 1))
theorem i_Pr_setContextRule_17 : iCallV M_Pr_setContextRule 17 M_Pr_checkWordInText 1 13 := ⟨⟨119, (by decide +kernel : decode prog_1_method_7_code 17 = .ok (.invokevirtual 119, 3)), lw_k3 99 rfl rfl⟩, vm_Pr_checkWordInText, me_Pr_checkWordInText, pn_Pr_checkWordInText⟩
theorem i_Pr_setContextRule_20 : iIns M_Pr_setContextRule 20 (.aload 4) 2 := (by decide +kernel : decode prog_1_method_7_code 20 = .ok (.aload 4, 2))
theorem i_Pr_setContextRule_22 : iIns M_Pr_setContextRule 22 (.iload_n 2) 1 := (by decide +kernel : decode prog_1_method_7_code 22 = .ok (.iload_n 2, 1))
theorem i_Pr_setContextRule_23 : iIns M_Pr_setContextRule 23 (.iload_n 3) 1 := (by decide +kernel : decode prog_1_method_7_code 23 = .ok (.iload_n 3, 1))
theorem i_Pr_setContextRule_24 : iCallV M_Pr_setContextRule 24 M_Tb_hasRule 2 9 := ⟨⟨137, (by decide +kernel : decode prog_1_method_7_code 24 = .ok (.invokevirtual 137, 3)), lw_k3 147 rfl rfl⟩, vm_Tb_hasRule, me_Tb_hasRule, pn_Tb_hasRule⟩
theorem i_Pr_setContextRule_27 : iIns M_Pr_setContextRule 27 (.istore 5) 2 := (by decide +kernel : decode prog_1_method_7_code 27 = .ok (.istore 5, 2))
theorem i_Pr_setContextRule_29 : iIns M_Pr_setContextRule 29 (.iload 5) 2 := (by decide +kernel : decode prog_1_method_7_code 29 = .ok (.iload 5, 2))
theorem i_Pr_setContextRule_31 : iIf M_Pr_setContextRule 31 .ne 54 := ⟨23, (by decide +kernel : decode prog_1_method_7_code 31 = .ok (.ifCond .ne (23), 3)), by decide⟩
theorem i_Pr_setContextRule_34 : iIns M_Pr_setContextRule 34 (.aload 4) 2 := (by decide +kernel : decode prog_1_method_7_code 34 = .ok (.aload 4, 2))
theorem i_Pr_setContextRule_36 : iGet M_Pr_setContextRule 36 9 3 := ⟨141, (by decide +kernel : decode prog_1_method_7_code 36 = .ok (.getfield 141, 3)), fl_Pr_Tb_rules⟩
theorem i_Pr_setContextRule_39 : iIns M_Pr_setContextRule 39 (.bipush 6) 2 := (by decide +kernel : decode prog_1_method_7_code 39 = .ok (.bipush 6, 2))
theorem i_Pr_setContextRule_41 : iIcmp M_Pr_setContextRule 41 .lt 54 := ⟨13, (by decide +kernel : decode prog_1_method_7_code 41 = .ok (.if_icmp .lt (13), 3)), by decide⟩
theorem i_Pr_setContextRule_44 : iThrow M_Pr_setContextRule 44 xIse := ⟨102, 144, 106, "the table has all the context rules it can have", ⟨lw_k3 31 rfl rfl, lw_k3 41 rfl rfl, by decide +kernel⟩, (by decide +kernel : decode prog_1_method_7_code 44 = .ok (.new 102, 3)), (by decide +kernel : decode prog_1_method_7_code 47 = .ok (.dup, 1)), Or.inl ⟨(by decide +kernel : decode prog_1_method_7_code 48 = .ok (.ldc 144, 2)), (by decide +kernel : decode prog_1_method_7_code 50 = .ok (.invokespecial 106, 3)), (by decide +kernel : decode prog_1_method_7_code 53 = .ok (.athrow, 1))⟩⟩
theorem i_Pr_setContextRule_54 : iIns M_Pr_setContextRule 54 (.aload 4) 2 := (by decide +kernel : decode prog_1_method_7_code 54 = .ok (.aload 4, 2))
theorem i_Pr_setContextRule_56 : iIns M_Pr_setContextRule 56 (.iload_n 2) 1 := (by decide +kernel : decode prog_1_method_7_code 56 = .ok (.iload_n 2, 1))
theorem i_Pr_setContextRule_57 : iIns M_Pr_setContextRule 57 (.iload_n 3) 1 := (by decide +kernel : decode prog_1_method_7_code 57 = .ok (.iload_n 3, 1))
theorem i_Pr_setContextRule_58 : iIns M_Pr_setContextRule 58 (.aload_n 0) 1 := (by decide +kernel : decode prog_1_method_7_code 58 = .ok (.aload_n 0, 1))
theorem i_Pr_setContextRule_59 : iGet M_Pr_setContextRule 59 13 0 := ⟨12, (by decide +kernel : decode prog_1_method_7_code 59 = .ok (.getfield 12, 3)), fl_Pr_Pr_text⟩
theorem i_Pr_setContextRule_62 : iCallV M_Pr_setContextRule 62 M_Tb_putRule 3 9 := ⟨⟨146, (by decide +kernel : decode prog_1_method_7_code 62 = .ok (.invokevirtual 146, 3)), lw_k3 155 rfl rfl⟩, vm_Tb_putRule, me_Tb_putRule, pn_Tb_putRule⟩
theorem i_Pr_setContextRule_65 : iIns M_Pr_setContextRule 65 (.iload 5) 2 := (by decide +kernel : decode prog_1_method_7_code 65 = .ok (.iload 5, 2))
theorem i_Pr_setContextRule_67 : iIns M_Pr_setContextRule 67 .ireturn 1 := (by decide +kernel : decode prog_1_method_7_code 67 = .ok (.ireturn, 1))
theorem i_Pr_removeContextRule_0 : iIns M_Pr_removeContextRule 0 (.aload_n 0) 1 := (by decide +kernel : decode prog_1_method_8_code 0 = .ok (.aload_n 0, 1))
theorem i_Pr_removeContextRule_1 : iIns M_Pr_removeContextRule 1 (.iload_n 1) 1 := (by decide +kernel : decode prog_1_method_8_code 1 = .ok (.iload_n 1, 1))
theorem i_Pr_removeContextRule_2 : iCallV M_Pr_removeContextRule 2 M_Pr_tableAt 1 13 := ⟨⟨111, (by decide +kernel : decode prog_1_method_8_code 2 = .ok (.invokevirtual 111, 3)), lw_k3 78 rfl rfl⟩, vm_Pr_tableAt, me_Pr_tableAt, pn_Pr_tableAt⟩
theorem i_Pr_removeContextRule_5 : iIns M_Pr_removeContextRule 5 (.astore 4) 2 := (by decide +kernel : decode prog_1_method_8_code 5 = .ok (.astore 4, 2))
theorem i_Pr_removeContextRule_7 : iIns M_Pr_removeContextRule 7 (.iload_n 2) 1 := (by decide +kernel : decode prog_1_method_8_code 7 = .ok (.iload_n 2, 1))
theorem i_Pr_removeContextRule_8 : iCallS M_Pr_removeContextRule 8 M_Pr_checkLetter 1 := ⟨⟨115, (by decide +kernel : decode prog_1_method_8_code 8 = .ok (.invokestatic 115, 3)), lw_k3 95 rfl rfl⟩, sm_Pr_checkLetter, me_Pr_checkLetter, pn_Pr_checkLetter⟩
theorem i_Pr_removeContextRule_11 : iIns M_Pr_removeContextRule 11 (.iload_n 3) 1 := (by decide +kernel : decode prog_1_method_8_code 11 = .ok (.iload_n 3, 1))
theorem i_Pr_removeContextRule_12 : iCallS M_Pr_removeContextRule 12 M_Pr_checkLetter 1 := ⟨⟨115, (by decide +kernel : decode prog_1_method_8_code 12 = .ok (.invokestatic 115, 3)), lw_k3 95 rfl rfl⟩, sm_Pr_checkLetter, me_Pr_checkLetter, pn_Pr_checkLetter⟩
theorem i_Pr_removeContextRule_15 : iIns M_Pr_removeContextRule 15 (.aload 4) 2 := (by decide +kernel : decode prog_1_method_8_code 15 = .ok (.aload 4, 2))
theorem i_Pr_removeContextRule_17 : iIns M_Pr_removeContextRule 17 (.iload_n 2) 1 := (by decide +kernel : decode prog_1_method_8_code 17 = .ok (.iload_n 2, 1))
theorem i_Pr_removeContextRule_18 : iIns M_Pr_removeContextRule 18 (.iload_n 3) 1 := (by decide +kernel : decode prog_1_method_8_code 18 = .ok (.iload_n 3, 1))
theorem i_Pr_removeContextRule_19 : iCallV M_Pr_removeContextRule 19 M_Tb_dropRule 2 9 := ⟨⟨150, (by decide +kernel : decode prog_1_method_8_code 19 = .ok (.invokevirtual 150, 3)), lw_k3 167 rfl rfl⟩, vm_Tb_dropRule, me_Tb_dropRule, pn_Tb_dropRule⟩
theorem i_Pr_removeContextRule_22 : iIns M_Pr_removeContextRule 22 .ireturn 1 := (by decide +kernel : decode prog_1_method_8_code 22 = .ok (.ireturn, 1))
theorem i_Pr_isDeterministic_0 : iIns M_Pr_isDeterministic 0 (.aload_n 0) 1 := (by decide +kernel : decode prog_1_method_9_code 0 = .ok (.aload_n 0, 1))
theorem i_Pr_isDeterministic_1 : iIns M_Pr_isDeterministic 1 (.iload_n 1) 1 := (by decide +kernel : decode prog_1_method_9_code 1 = .ok (.iload_n 1, 1))
theorem i_Pr_isDeterministic_2 : iCallV M_Pr_isDeterministic 2 M_Pr_tableAt 1 13 := ⟨⟨111, (by decide +kernel : decode prog_1_method_9_code 2 = .ok (.invokevirtual 111, 3)), lw_k3 78 rfl rfl⟩, vm_Pr_tableAt, me_Pr_tableAt, pn_Pr_tableAt⟩
theorem i_Pr_isDeterministic_5 : iCallV M_Pr_isDeterministic 5 M_Tb_leavesNoChoice 0 9 := ⟨⟨153, (by decide +kernel : decode prog_1_method_9_code 5 = .ok (.invokevirtual 153, 3)), lw_k3 178 rfl rfl⟩, vm_Tb_leavesNoChoice, me_Tb_leavesNoChoice, pn_Tb_leavesNoChoice⟩
theorem i_Pr_isDeterministic_8 : iIns M_Pr_isDeterministic 8 .ireturn 1 := (by decide +kernel : decode prog_1_method_9_code 8 = .ok (.ireturn, 1))
theorem i_Pr_isPlain_0 : iIns M_Pr_isPlain 0 (.aload_n 0) 1 := (by decide +kernel : decode prog_1_method_10_code 0 = .ok (.aload_n 0, 1))
theorem i_Pr_isPlain_1 : iIns M_Pr_isPlain 1 (.iload_n 1) 1 := (by decide +kernel : decode prog_1_method_10_code 1 = .ok (.iload_n 1, 1))
theorem i_Pr_isPlain_2 : iCallV M_Pr_isPlain 2 M_Pr_tableAt 1 13 := ⟨⟨111, (by decide +kernel : decode prog_1_method_10_code 2 = .ok (.invokevirtual 111, 3)), lw_k3 78 rfl rfl⟩, vm_Pr_tableAt, me_Pr_tableAt, pn_Pr_tableAt⟩
theorem i_Pr_isPlain_5 : iGet M_Pr_isPlain 5 9 3 := ⟨141, (by decide +kernel : decode prog_1_method_10_code 5 = .ok (.getfield 141, 3)), fl_Pr_Tb_rules⟩
theorem i_Pr_isPlain_8 : iIf M_Pr_isPlain 8 .ne 15 := ⟨7, (by decide +kernel : decode prog_1_method_10_code 8 = .ok (.ifCond .ne (7), 3)), by decide⟩
theorem i_Pr_isPlain_11 : iIns M_Pr_isPlain 11 (.iconst 1) 1 := (by decide +kernel : decode prog_1_method_10_code 11 = .ok (.iconst 1, 1))
theorem i_Pr_isPlain_12 : iGoto M_Pr_isPlain 12 16 := ⟨4, (by decide +kernel : decode prog_1_method_10_code 12 = .ok (.goto (4), 3)), by decide⟩
theorem i_Pr_isPlain_15 : iIns M_Pr_isPlain 15 (.iconst 0) 1 := (by decide +kernel : decode prog_1_method_10_code 15 = .ok (.iconst 0, 1))
theorem i_Pr_isPlain_16 : iIns M_Pr_isPlain 16 .ireturn 1 := (by decide +kernel : decode prog_1_method_10_code 16 = .ok (.ireturn, 1))
theorem i_Pr_setWord_0 : iIns M_Pr_setWord 0 (.aload_n 0) 1 := (by decide +kernel : decode prog_1_method_11_code 0 = .ok (.aload_n 0, 1))
theorem i_Pr_setWord_1 : iIns M_Pr_setWord 1 (.bipush 60) 2 := (by decide +kernel : decode prog_1_method_11_code 1 = .ok (.bipush 60, 2))
theorem i_Pr_setWord_3 : iCallV M_Pr_setWord 3 M_Pr_checkWordInText 1 13 := ⟨⟨119, (by decide +kernel : decode prog_1_method_11_code 3 = .ok (.invokevirtual 119, 3)), lw_k3 99 rfl rfl⟩, vm_Pr_checkWordInText, me_Pr_checkWordInText, pn_Pr_checkWordInText⟩
theorem i_Pr_setWord_6 : iIns M_Pr_setWord 6 (.aload_n 0) 1 := (by decide +kernel : decode prog_1_method_11_code 6 = .ok (.aload_n 0, 1))
theorem i_Pr_setWord_7 : iGet M_Pr_setWord 7 13 1 := ⟨19, (by decide +kernel : decode prog_1_method_11_code 7 = .ok (.getfield 19, 3)), fl_Pr_Pr_live⟩
theorem i_Pr_setWord_10 : iGet M_Pr_setWord 10 8 1 := ⟨157, (by decide +kernel : decode prog_1_method_11_code 10 = .ok (.getfield 157, 3)), fl_Pr_St_current⟩
theorem i_Pr_setWord_13 : iIns M_Pr_setWord 13 (.aload_n 0) 1 := (by decide +kernel : decode prog_1_method_11_code 13 = .ok (.aload_n 0, 1))
theorem i_Pr_setWord_14 : iGet M_Pr_setWord 14 13 0 := ⟨12, (by decide +kernel : decode prog_1_method_11_code 14 = .ok (.getfield 12, 3)), fl_Pr_Pr_text⟩
theorem i_Pr_setWord_17 : iCallV M_Pr_setWord 17 M_Wd_read 1 12 := ⟨⟨160, (by decide +kernel : decode prog_1_method_11_code 17 = .ok (.invokevirtual 160, 3)), lw_k3 196 rfl rfl⟩, vm_Wd_read, me_Wd_read, pn_Wd_read⟩
theorem i_Pr_setWord_20 : iIns M_Pr_setWord 20 (.aload_n 0) 1 := (by decide +kernel : decode prog_1_method_11_code 20 = .ok (.aload_n 0, 1))
theorem i_Pr_setWord_21 : iGet M_Pr_setWord 21 13 3 := ⟨29, (by decide +kernel : decode prog_1_method_11_code 21 = .ok (.getfield 29, 3)), fl_Pr_Pr_history⟩
theorem i_Pr_setWord_24 : iCallV M_Pr_setWord 24 M_Hi_forget 0 5 := ⟨⟨164, (by decide +kernel : decode prog_1_method_11_code 24 = .ok (.invokevirtual 164, 3)), lw_k3 205 rfl rfl⟩, vm_Hi_forget, me_Hi_forget, pn_Hi_forget⟩
theorem i_Pr_setWord_27 : iIns M_Pr_setWord 27 (.aload_n 0) 1 := (by decide +kernel : decode prog_1_method_11_code 27 = .ok (.aload_n 0, 1))
theorem i_Pr_setWord_28 : iGet M_Pr_setWord 28 13 1 := ⟨19, (by decide +kernel : decode prog_1_method_11_code 28 = .ok (.getfield 19, 3)), fl_Pr_Pr_live⟩
theorem i_Pr_setWord_31 : iGet M_Pr_setWord 31 8 1 := ⟨157, (by decide +kernel : decode prog_1_method_11_code 31 = .ok (.getfield 157, 3)), fl_Pr_St_current⟩
theorem i_Pr_setWord_34 : iGet M_Pr_setWord 34 12 1 := ⟨167, (by decide +kernel : decode prog_1_method_11_code 34 = .ok (.getfield 167, 3)), fl_Pr_Wd_length⟩
theorem i_Pr_setWord_37 : iIns M_Pr_setWord 37 .ireturn 1 := (by decide +kernel : decode prog_1_method_11_code 37 = .ok (.ireturn, 1))
theorem i_Pr_setTarget_0 : iIns M_Pr_setTarget 0 (.aload_n 0) 1 := (by decide +kernel : decode prog_1_method_12_code 0 = .ok (.aload_n 0, 1))
theorem i_Pr_setTarget_1 : iIns M_Pr_setTarget 1 (.bipush 60) 2 := (by decide +kernel : decode prog_1_method_12_code 1 = .ok (.bipush 60, 2))
theorem i_Pr_setTarget_3 : iCallV M_Pr_setTarget 3 M_Pr_checkWordInText 1 13 := ⟨⟨119, (by decide +kernel : decode prog_1_method_12_code 3 = .ok (.invokevirtual 119, 3)), lw_k3 99 rfl rfl⟩, vm_Pr_checkWordInText, me_Pr_checkWordInText, pn_Pr_checkWordInText⟩
theorem i_Pr_setTarget_6 : iIns M_Pr_setTarget 6 (.aload_n 0) 1 := (by decide +kernel : decode prog_1_method_12_code 6 = .ok (.aload_n 0, 1))
theorem i_Pr_setTarget_7 : iGet M_Pr_setTarget 7 13 1 := ⟨19, (by decide +kernel : decode prog_1_method_12_code 7 = .ok (.getfield 19, 3)), fl_Pr_Pr_live⟩
theorem i_Pr_setTarget_10 : iGet M_Pr_setTarget 10 8 2 := ⟨168, (by decide +kernel : decode prog_1_method_12_code 10 = .ok (.getfield 168, 3)), fl_Pr_St_target⟩
theorem i_Pr_setTarget_13 : iIns M_Pr_setTarget 13 (.aload_n 0) 1 := (by decide +kernel : decode prog_1_method_12_code 13 = .ok (.aload_n 0, 1))
theorem i_Pr_setTarget_14 : iGet M_Pr_setTarget 14 13 0 := ⟨12, (by decide +kernel : decode prog_1_method_12_code 14 = .ok (.getfield 12, 3)), fl_Pr_Pr_text⟩
theorem i_Pr_setTarget_17 : iCallV M_Pr_setTarget 17 M_Wd_read 1 12 := ⟨⟨160, (by decide +kernel : decode prog_1_method_12_code 17 = .ok (.invokevirtual 160, 3)), lw_k3 196 rfl rfl⟩, vm_Wd_read, me_Wd_read, pn_Wd_read⟩
theorem i_Pr_setTarget_20 : iIns M_Pr_setTarget 20 (.aload_n 0) 1 := (by decide +kernel : decode prog_1_method_12_code 20 = .ok (.aload_n 0, 1))
theorem i_Pr_setTarget_21 : iGet M_Pr_setTarget 21 13 1 := ⟨19, (by decide +kernel : decode prog_1_method_12_code 21 = .ok (.getfield 19, 3)), fl_Pr_Pr_live⟩
theorem i_Pr_setTarget_24 : iGet M_Pr_setTarget 24 8 2 := ⟨168, (by decide +kernel : decode prog_1_method_12_code 24 = .ok (.getfield 168, 3)), fl_Pr_St_target⟩
theorem i_Pr_setTarget_27 : iGet M_Pr_setTarget 27 12 1 := ⟨167, (by decide +kernel : decode prog_1_method_12_code 27 = .ok (.getfield 167, 3)), fl_Pr_Wd_length⟩
theorem i_Pr_setTarget_30 : iIns M_Pr_setTarget 30 .ireturn 1 := (by decide +kernel : decode prog_1_method_12_code 30 = .ok (.ireturn, 1))
theorem i_Pr_wordLetter_0 : iIns M_Pr_wordLetter 0 (.iload_n 1) 1 := (by decide +kernel : decode prog_1_method_14_code 0 = .ok (.iload_n 1, 1))
theorem i_Pr_wordLetter_1 : iIf M_Pr_wordLetter 1 .lt 18 := ⟨17, (by decide +kernel : decode prog_1_method_14_code 1 = .ok (.ifCond .lt (17), 3)), by decide⟩
theorem i_Pr_wordLetter_4 : iIns M_Pr_wordLetter 4 (.iload_n 1) 1 := (by decide +kernel : decode prog_1_method_14_code 4 = .ok (.iload_n 1, 1))
theorem i_Pr_wordLetter_5 : iIns M_Pr_wordLetter 5 (.aload_n 0) 1 := (by decide +kernel : decode prog_1_method_14_code 5 = .ok (.aload_n 0, 1))
theorem i_Pr_wordLetter_6 : iGet M_Pr_wordLetter 6 13 1 := ⟨19, (by decide +kernel : decode prog_1_method_14_code 6 = .ok (.getfield 19, 3)), fl_Pr_Pr_live⟩
theorem i_Pr_wordLetter_9 : iGet M_Pr_wordLetter 9 8 1 := ⟨157, (by decide +kernel : decode prog_1_method_14_code 9 = .ok (.getfield 157, 3)), fl_Pr_St_current⟩
theorem i_Pr_wordLetter_12 : iGet M_Pr_wordLetter 12 12 1 := ⟨167, (by decide +kernel : decode prog_1_method_14_code 12 = .ok (.getfield 167, 3)), fl_Pr_Wd_length⟩
theorem i_Pr_wordLetter_15 : iIcmp M_Pr_wordLetter 15 .lt 28 := ⟨13, (by decide +kernel : decode prog_1_method_14_code 15 = .ok (.if_icmp .lt (13), 3)), by decide⟩
theorem i_Pr_wordLetter_18 : iThrow M_Pr_wordLetter 18 xIob := ⟨171, 173, 175, "no such position", ⟨lw_k3 82 rfl rfl, lw_k3 92 rfl rfl, by decide +kernel⟩, (by decide +kernel : decode prog_1_method_14_code 18 = .ok (.new 171, 3)), (by decide +kernel : decode prog_1_method_14_code 21 = .ok (.dup, 1)), Or.inl ⟨(by decide +kernel : decode prog_1_method_14_code 22 = .ok (.ldc 173, 2)), (by decide +kernel : decode prog_1_method_14_code 24 = .ok (.invokespecial 175, 3)), (by decide +kernel : decode prog_1_method_14_code 27 = .ok (.athrow, 1))⟩⟩
theorem i_Pr_wordLetter_28 : iIns M_Pr_wordLetter 28 (.aload_n 0) 1 := (by decide +kernel : decode prog_1_method_14_code 28 = .ok (.aload_n 0, 1))
theorem i_Pr_wordLetter_29 : iGet M_Pr_wordLetter 29 13 1 := ⟨19, (by decide +kernel : decode prog_1_method_14_code 29 = .ok (.getfield 19, 3)), fl_Pr_Pr_live⟩
theorem i_Pr_wordLetter_32 : iGet M_Pr_wordLetter 32 8 1 := ⟨157, (by decide +kernel : decode prog_1_method_14_code 32 = .ok (.getfield 157, 3)), fl_Pr_St_current⟩
theorem i_Pr_wordLetter_35 : iGet M_Pr_wordLetter 35 12 0 := ⟨176, (by decide +kernel : decode prog_1_method_14_code 35 = .ok (.getfield 176, 3)), fl_Pr_Wd_letters⟩
theorem i_Pr_wordLetter_38 : iIns M_Pr_wordLetter 38 (.iload_n 1) 1 := (by decide +kernel : decode prog_1_method_14_code 38 = .ok (.iload_n 1, 1))
theorem i_Pr_wordLetter_39 : iIns M_Pr_wordLetter 39 .iaload 1 := (by decide +kernel : decode prog_1_method_14_code 39 = .ok (.iaload, 1))
theorem i_Pr_wordLetter_40 : iIns M_Pr_wordLetter 40 .ireturn 1 := (by decide +kernel : decode prog_1_method_14_code 40 = .ok (.ireturn, 1))
theorem i_Pr_step_0 : iIns M_Pr_step 0 (.aload_n 0) 1 := (by decide +kernel : decode prog_1_method_16_code 0 = .ok (.aload_n 0, 1))
theorem i_Pr_step_1 : iIns M_Pr_step 1 (.iload_n 1) 1 := (by decide +kernel : decode prog_1_method_16_code 1 = .ok (.iload_n 1, 1))
theorem i_Pr_step_2 : iCallV M_Pr_step 2 M_Pr_tableAt 1 13 := ⟨⟨111, (by decide +kernel : decode prog_1_method_16_code 2 = .ok (.invokevirtual 111, 3)), lw_k3 78 rfl rfl⟩, vm_Pr_tableAt, me_Pr_tableAt, pn_Pr_tableAt⟩
theorem i_Pr_step_5 : iIns M_Pr_step 5 (.astore_n 3) 1 := (by decide +kernel : decode prog_1_method_16_code 5 = .ok (.astore_n 3, 1))
theorem i_Pr_step_6 : iIns M_Pr_step 6 (.aload_n 3) 1 := (by decide +kernel : decode prog_1_method_16_code 6 = .ok (.aload_n 3, 1))
theorem i_Pr_step_7 : iIns M_Pr_step 7 (.aload_n 0) 1 := (by decide +kernel : decode prog_1_method_16_code 7 = .ok (.aload_n 0, 1))
theorem i_Pr_step_8 : iGet M_Pr_step 8 13 1 := ⟨19, (by decide +kernel : decode prog_1_method_16_code 8 = .ok (.getfield 19, 3)), fl_Pr_Pr_live⟩
theorem i_Pr_step_11 : iGet M_Pr_step 11 8 1 := ⟨157, (by decide +kernel : decode prog_1_method_16_code 11 = .ok (.getfield 157, 3)), fl_Pr_St_current⟩
theorem i_Pr_step_14 : iIns M_Pr_step 14 (.iload_n 2) 1 := (by decide +kernel : decode prog_1_method_16_code 14 = .ok (.iload_n 2, 1))
theorem i_Pr_step_15 : iIns M_Pr_step 15 (.aload_n 0) 1 := (by decide +kernel : decode prog_1_method_16_code 15 = .ok (.aload_n 0, 1))
theorem i_Pr_step_16 : iGet M_Pr_step 16 13 4 := ⟨36, (by decide +kernel : decode prog_1_method_16_code 16 = .ok (.getfield 36, 3)), fl_Pr_Pr_result⟩
theorem i_Pr_step_19 : iCallV M_Pr_step 19 M_Tb_rewrite 3 9 := ⟨⟨183, (by decide +kernel : decode prog_1_method_16_code 19 = .ok (.invokevirtual 183, 3)), lw_k3 231 rfl rfl⟩, vm_Tb_rewrite, me_Tb_rewrite, pn_Tb_rewrite⟩
theorem i_Pr_step_22 : iIf M_Pr_step 22 .ne 35 := ⟨13, (by decide +kernel : decode prog_1_method_16_code 22 = .ok (.ifCond .ne (13), 3)), by decide⟩
theorem i_Pr_step_25 : iThrow M_Pr_step 25 xIse := ⟨102, 187, 106, "the new word would be too long", ⟨lw_k3 31 rfl rfl, lw_k3 41 rfl rfl, by decide +kernel⟩, (by decide +kernel : decode prog_1_method_16_code 25 = .ok (.new 102, 3)), (by decide +kernel : decode prog_1_method_16_code 28 = .ok (.dup, 1)), Or.inl ⟨(by decide +kernel : decode prog_1_method_16_code 29 = .ok (.ldc 187, 2)), (by decide +kernel : decode prog_1_method_16_code 31 = .ok (.invokespecial 106, 3)), (by decide +kernel : decode prog_1_method_16_code 34 = .ok (.athrow, 1))⟩⟩
theorem i_Pr_step_35 : iIns M_Pr_step 35 (.aload_n 0) 1 := (by decide +kernel : decode prog_1_method_16_code 35 = .ok (.aload_n 0, 1))
theorem i_Pr_step_36 : iGet M_Pr_step 36 13 3 := ⟨29, (by decide +kernel : decode prog_1_method_16_code 36 = .ok (.getfield 29, 3)), fl_Pr_Pr_history⟩
theorem i_Pr_step_39 : iIns M_Pr_step 39 (.aload_n 0) 1 := (by decide +kernel : decode prog_1_method_16_code 39 = .ok (.aload_n 0, 1))
theorem i_Pr_step_40 : iGet M_Pr_step 40 13 1 := ⟨19, (by decide +kernel : decode prog_1_method_16_code 40 = .ok (.getfield 19, 3)), fl_Pr_Pr_live⟩
theorem i_Pr_step_43 : iGet M_Pr_step 43 8 1 := ⟨157, (by decide +kernel : decode prog_1_method_16_code 43 = .ok (.getfield 157, 3)), fl_Pr_St_current⟩
theorem i_Pr_step_46 : iCallV M_Pr_step 46 M_Hi_remember 1 5 := ⟨⟨189, (by decide +kernel : decode prog_1_method_16_code 46 = .ok (.invokevirtual 189, 3)), lw_k4 14 rfl rfl⟩, vm_Hi_remember, me_Hi_remember, pn_Hi_remember⟩
theorem i_Pr_step_49 : iIns M_Pr_step 49 (.aload_n 0) 1 := (by decide +kernel : decode prog_1_method_16_code 49 = .ok (.aload_n 0, 1))
theorem i_Pr_step_50 : iGet M_Pr_step 50 13 1 := ⟨19, (by decide +kernel : decode prog_1_method_16_code 50 = .ok (.getfield 19, 3)), fl_Pr_Pr_live⟩
theorem i_Pr_step_53 : iGet M_Pr_step 53 8 1 := ⟨157, (by decide +kernel : decode prog_1_method_16_code 53 = .ok (.getfield 157, 3)), fl_Pr_St_current⟩
theorem i_Pr_step_56 : iIns M_Pr_step 56 (.aload_n 0) 1 := (by decide +kernel : decode prog_1_method_16_code 56 = .ok (.aload_n 0, 1))
theorem i_Pr_step_57 : iGet M_Pr_step 57 13 4 := ⟨36, (by decide +kernel : decode prog_1_method_16_code 57 = .ok (.getfield 36, 3)), fl_Pr_Pr_result⟩
theorem i_Pr_step_60 : iCallV M_Pr_step 60 M_Wd_copy 1 12 := ⟨⟨193, (by decide +kernel : decode prog_1_method_16_code 60 = .ok (.invokevirtual 193, 3)), lw_k4 18 rfl rfl⟩, vm_Wd_copy, me_Wd_copy, pn_Wd_copy⟩
theorem i_Pr_step_63 : iIns M_Pr_step 63 (.aload_n 0) 1 := (by decide +kernel : decode prog_1_method_16_code 63 = .ok (.aload_n 0, 1))
theorem i_Pr_step_64 : iGet M_Pr_step 64 13 1 := ⟨19, (by decide +kernel : decode prog_1_method_16_code 64 = .ok (.getfield 19, 3)), fl_Pr_Pr_live⟩
theorem i_Pr_step_67 : iGet M_Pr_step 67 8 1 := ⟨157, (by decide +kernel : decode prog_1_method_16_code 67 = .ok (.getfield 157, 3)), fl_Pr_St_current⟩
theorem i_Pr_step_70 : iGet M_Pr_step 70 12 1 := ⟨167, (by decide +kernel : decode prog_1_method_16_code 70 = .ok (.getfield 167, 3)), fl_Pr_Wd_length⟩
theorem i_Pr_step_73 : iIns M_Pr_step 73 .ireturn 1 := (by decide +kernel : decode prog_1_method_16_code 73 = .ok (.ireturn, 1))
theorem i_Pr_lengthAfter_0 : iIns M_Pr_lengthAfter 0 (.aload_n 0) 1 := (by decide +kernel : decode prog_1_method_18_code 0 = .ok (.aload_n 0, 1))
theorem i_Pr_lengthAfter_1 : iIns M_Pr_lengthAfter 1 (.iload_n 1) 1 := (by decide +kernel : decode prog_1_method_18_code 1 = .ok (.iload_n 1, 1))
theorem i_Pr_lengthAfter_2 : iCallV M_Pr_lengthAfter 2 M_Pr_tableAt 1 13 := ⟨⟨111, (by decide +kernel : decode prog_1_method_18_code 2 = .ok (.invokevirtual 111, 3)), lw_k3 78 rfl rfl⟩, vm_Pr_tableAt, me_Pr_tableAt, pn_Pr_tableAt⟩
theorem i_Pr_lengthAfter_5 : iIns M_Pr_lengthAfter 5 (.astore_n 3) 1 := (by decide +kernel : decode prog_1_method_18_code 5 = .ok (.astore_n 3, 1))
theorem i_Pr_lengthAfter_6 : iIns M_Pr_lengthAfter 6 (.aload_n 0) 1 := (by decide +kernel : decode prog_1_method_18_code 6 = .ok (.aload_n 0, 1))
theorem i_Pr_lengthAfter_7 : iIns M_Pr_lengthAfter 7 (.aload_n 3) 1 := (by decide +kernel : decode prog_1_method_18_code 7 = .ok (.aload_n 3, 1))
theorem i_Pr_lengthAfter_8 : iIns M_Pr_lengthAfter 8 (.iload_n 2) 1 := (by decide +kernel : decode prog_1_method_18_code 8 = .ok (.iload_n 2, 1))
theorem i_Pr_lengthAfter_9 : iCallV M_Pr_lengthAfter 9 M_Pr_advanceGrowth 2 13 := ⟨⟨199, (by decide +kernel : decode prog_1_method_18_code 9 = .ok (.invokevirtual 199, 3)), lw_k4 40 rfl rfl⟩, vm_Pr_advanceGrowth, me_Pr_advanceGrowth, pn_Pr_advanceGrowth⟩
theorem i_Pr_lengthAfter_12 : iIns M_Pr_lengthAfter 12 (.aload_n 0) 1 := (by decide +kernel : decode prog_1_method_18_code 12 = .ok (.aload_n 0, 1))
theorem i_Pr_lengthAfter_13 : iGet M_Pr_lengthAfter 13 13 5 := ⟨43, (by decide +kernel : decode prog_1_method_18_code 13 = .ok (.getfield 43, 3)), fl_Pr_Pr_growth⟩
theorem i_Pr_lengthAfter_16 : iGet M_Pr_lengthAfter 16 4 2 := ⟨203, (by decide +kernel : decode prog_1_method_18_code 16 = .ok (.getfield 203, 3)), fl_Pr_Gr_total⟩
theorem i_Pr_lengthAfter_19 : iIns M_Pr_lengthAfter 19 .lreturn 1 := (by decide +kernel : decode prog_1_method_18_code 19 = .ok (.lreturn, 1))
theorem i_Pr_advanceGrowth_0 : iIns M_Pr_advanceGrowth 0 (.iload_n 2) 1 := (by decide +kernel : decode prog_1_method_43_code 0 = .ok (.iload_n 2, 1))
theorem i_Pr_advanceGrowth_1 : iIf M_Pr_advanceGrowth 1 .lt 11 := ⟨10, (by decide +kernel : decode prog_1_method_43_code 1 = .ok (.ifCond .lt (10), 3)), by decide⟩
theorem i_Pr_advanceGrowth_4 : iIns M_Pr_advanceGrowth 4 (.iload_n 2) 1 := (by decide +kernel : decode prog_1_method_43_code 4 = .ok (.iload_n 2, 1))
theorem i_Pr_advanceGrowth_5 : iIns M_Pr_advanceGrowth 5 (.sipush 1000) 3 := (by decide +kernel : decode prog_1_method_43_code 5 = .ok (.sipush 1000, 3))
theorem i_Pr_advanceGrowth_8 : iIcmp M_Pr_advanceGrowth 8 .le 22 := ⟨14, (by decide +kernel : decode prog_1_method_43_code 8 = .ok (.if_icmp .le (14), 3)), by decide⟩
theorem i_Pr_advanceGrowth_11 : iThrow M_Pr_advanceGrowth 11 xIae := ⟨91, 375, 95, "the number of steps is not from 0 to 1000", ⟨lw_k2 196 rfl rfl, lw_k3 1 rfl rfl, by decide +kernel⟩, (by decide +kernel : decode prog_1_method_43_code 11 = .ok (.new 91, 3)), (by decide +kernel : decode prog_1_method_43_code 14 = .ok (.dup, 1)), Or.inr ⟨(by decide +kernel : decode prog_1_method_43_code 15 = .ok (.ldc_w 375, 3)), (by decide +kernel : decode prog_1_method_43_code 18 = .ok (.invokespecial 95, 3)), (by decide +kernel : decode prog_1_method_43_code 21 = .ok (.athrow, 1))⟩⟩
theorem i_Pr_advanceGrowth_22 : iIns M_Pr_advanceGrowth 22 (.aload_n 1) 1 := (by decide +kernel : decode prog_1_method_43_code 22 = .ok (.aload_n 1, 1))
theorem i_Pr_advanceGrowth_23 : iCallS M_Pr_advanceGrowth 23 M_Pr_checkPlainAndDeterministic 1 := ⟨⟨211, (by decide +kernel : decode prog_1_method_43_code 23 = .ok (.invokestatic 211, 3)), lw_k4 45 rfl rfl⟩, sm_Pr_checkPlainAndDeterministic, me_Pr_checkPlainAndDeterministic, pn_Pr_checkPlainAndDeterministic⟩
theorem i_Pr_advanceGrowth_26 : iIns M_Pr_advanceGrowth 26 (.aload_n 0) 1 := (by decide +kernel : decode prog_1_method_43_code 26 = .ok (.aload_n 0, 1))
theorem i_Pr_advanceGrowth_27 : iGet M_Pr_advanceGrowth 27 13 5 := ⟨43, (by decide +kernel : decode prog_1_method_43_code 27 = .ok (.getfield 43, 3)), fl_Pr_Pr_growth⟩
theorem i_Pr_advanceGrowth_30 : iIns M_Pr_advanceGrowth 30 (.aload_n 1) 1 := (by decide +kernel : decode prog_1_method_43_code 30 = .ok (.aload_n 1, 1))
theorem i_Pr_advanceGrowth_31 : iIns M_Pr_advanceGrowth 31 (.aload_n 0) 1 := (by decide +kernel : decode prog_1_method_43_code 31 = .ok (.aload_n 0, 1))
theorem i_Pr_advanceGrowth_32 : iGet M_Pr_advanceGrowth 32 13 1 := ⟨19, (by decide +kernel : decode prog_1_method_43_code 32 = .ok (.getfield 19, 3)), fl_Pr_Pr_live⟩
theorem i_Pr_advanceGrowth_35 : iGet M_Pr_advanceGrowth 35 8 1 := ⟨157, (by decide +kernel : decode prog_1_method_43_code 35 = .ok (.getfield 157, 3)), fl_Pr_St_current⟩
theorem i_Pr_advanceGrowth_38 : iIns M_Pr_advanceGrowth 38 (.iload_n 2) 1 := (by decide +kernel : decode prog_1_method_43_code 38 = .ok (.iload_n 2, 1))
theorem i_Pr_advanceGrowth_39 : iCallV M_Pr_advanceGrowth 39 M_Gr_advance 3 4 := ⟨⟨377, (by decide +kernel : decode prog_1_method_43_code 39 = .ok (.invokevirtual 377, 3)), lw_k4 49 rfl rfl⟩, vm_Gr_advance, me_Gr_advance, pn_Gr_advance⟩
theorem i_Pr_advanceGrowth_42 : iIf M_Pr_advanceGrowth 42 .ne 56 := ⟨14, (by decide +kernel : decode prog_1_method_43_code 42 = .ok (.ifCond .ne (14), 3)), by decide⟩
theorem i_Pr_advanceGrowth_45 : iThrow M_Pr_advanceGrowth 45 xAri := ⟨225, 381, 229, "the word has more than Long.MAX_VALUE letters", ⟨lw_k4 63 rfl rfl, lw_k4 65 rfl rfl, by decide +kernel⟩, (by decide +kernel : decode prog_1_method_43_code 45 = .ok (.new 225, 3)), (by decide +kernel : decode prog_1_method_43_code 48 = .ok (.dup, 1)), Or.inr ⟨(by decide +kernel : decode prog_1_method_43_code 49 = .ok (.ldc_w 381, 3)), (by decide +kernel : decode prog_1_method_43_code 52 = .ok (.invokespecial 229, 3)), (by decide +kernel : decode prog_1_method_43_code 55 = .ok (.athrow, 1))⟩⟩
theorem i_Pr_advanceGrowth_56 : iIns M_Pr_advanceGrowth 56 .return_ 1 := (by decide +kernel : decode prog_1_method_43_code 56 = .ok (.return_, 1))
theorem i_Pr_checkPlainAndDeterministic_0 : iIns M_Pr_checkPlainAndDeterministic 0 (.aload_n 0) 1 := (by decide +kernel : decode prog_1_method_42_code 0 = .ok (.aload_n 0, 1))
theorem i_Pr_checkPlainAndDeterministic_1 : iGet M_Pr_checkPlainAndDeterministic 1 9 3 := ⟨141, (by decide +kernel : decode prog_1_method_42_code 1 = .ok (.getfield 141, 3)), fl_Pr_Tb_rules⟩
theorem i_Pr_checkPlainAndDeterministic_4 : iIf M_Pr_checkPlainAndDeterministic 4 .gt 14 := ⟨10, (by decide +kernel : decode prog_1_method_42_code 4 = .ok (.ifCond .gt (10), 3)), by decide⟩
theorem i_Pr_checkPlainAndDeterministic_7 : iIns M_Pr_checkPlainAndDeterministic 7 (.aload_n 0) 1 := (by decide +kernel : decode prog_1_method_42_code 7 = .ok (.aload_n 0, 1))
theorem i_Pr_checkPlainAndDeterministic_8 : iCallV M_Pr_checkPlainAndDeterministic 8 M_Tb_leavesNoChoice 0 9 := ⟨⟨153, (by decide +kernel : decode prog_1_method_42_code 8 = .ok (.invokevirtual 153, 3)), lw_k3 178 rfl rfl⟩, vm_Tb_leavesNoChoice, me_Tb_leavesNoChoice, pn_Tb_leavesNoChoice⟩
theorem i_Pr_checkPlainAndDeterministic_11 : iIf M_Pr_checkPlainAndDeterministic 11 .ne 25 := ⟨14, (by decide +kernel : decode prog_1_method_42_code 11 = .ok (.ifCond .ne (14), 3)), by decide⟩
theorem i_Pr_checkPlainAndDeterministic_14 : iThrow M_Pr_checkPlainAndDeterministic 14 xIse := ⟨102, 373, 106, "the table is not deterministic or not plain", ⟨lw_k3 31 rfl rfl, lw_k3 41 rfl rfl, by decide +kernel⟩, (by decide +kernel : decode prog_1_method_42_code 14 = .ok (.new 102, 3)), (by decide +kernel : decode prog_1_method_42_code 17 = .ok (.dup, 1)), Or.inr ⟨(by decide +kernel : decode prog_1_method_42_code 18 = .ok (.ldc_w 373, 3)), (by decide +kernel : decode prog_1_method_42_code 21 = .ok (.invokespecial 106, 3)), (by decide +kernel : decode prog_1_method_42_code 24 = .ok (.athrow, 1))⟩⟩
theorem i_Pr_checkPlainAndDeterministic_25 : iIns M_Pr_checkPlainAndDeterministic 25 .return_ 1 := (by decide +kernel : decode prog_1_method_42_code 25 = .ok (.return_, 1))
theorem i_Pr_countAfter_0 : iIns M_Pr_countAfter 0 (.aload_n 0) 1 := (by decide +kernel : decode prog_1_method_19_code 0 = .ok (.aload_n 0, 1))
theorem i_Pr_countAfter_1 : iIns M_Pr_countAfter 1 (.iload_n 1) 1 := (by decide +kernel : decode prog_1_method_19_code 1 = .ok (.iload_n 1, 1))
theorem i_Pr_countAfter_2 : iCallV M_Pr_countAfter 2 M_Pr_tableAt 1 13 := ⟨⟨111, (by decide +kernel : decode prog_1_method_19_code 2 = .ok (.invokevirtual 111, 3)), lw_k3 78 rfl rfl⟩, vm_Pr_tableAt, me_Pr_tableAt, pn_Pr_tableAt⟩
theorem i_Pr_countAfter_5 : iIns M_Pr_countAfter 5 (.astore 4) 2 := (by decide +kernel : decode prog_1_method_19_code 5 = .ok (.astore 4, 2))
theorem i_Pr_countAfter_7 : iIns M_Pr_countAfter 7 (.iload_n 3) 1 := (by decide +kernel : decode prog_1_method_19_code 7 = .ok (.iload_n 3, 1))
theorem i_Pr_countAfter_8 : iCallS M_Pr_countAfter 8 M_Pr_checkLetter 1 := ⟨⟨115, (by decide +kernel : decode prog_1_method_19_code 8 = .ok (.invokestatic 115, 3)), lw_k3 95 rfl rfl⟩, sm_Pr_checkLetter, me_Pr_checkLetter, pn_Pr_checkLetter⟩
theorem i_Pr_countAfter_11 : iIns M_Pr_countAfter 11 (.aload_n 0) 1 := (by decide +kernel : decode prog_1_method_19_code 11 = .ok (.aload_n 0, 1))
theorem i_Pr_countAfter_12 : iIns M_Pr_countAfter 12 (.aload 4) 2 := (by decide +kernel : decode prog_1_method_19_code 12 = .ok (.aload 4, 2))
theorem i_Pr_countAfter_14 : iIns M_Pr_countAfter 14 (.iload_n 2) 1 := (by decide +kernel : decode prog_1_method_19_code 14 = .ok (.iload_n 2, 1))
theorem i_Pr_countAfter_15 : iCallV M_Pr_countAfter 15 M_Pr_advanceGrowth 2 13 := ⟨⟨199, (by decide +kernel : decode prog_1_method_19_code 15 = .ok (.invokevirtual 199, 3)), lw_k4 40 rfl rfl⟩, vm_Pr_advanceGrowth, me_Pr_advanceGrowth, pn_Pr_advanceGrowth⟩
theorem i_Pr_countAfter_18 : iIns M_Pr_countAfter 18 (.aload_n 0) 1 := (by decide +kernel : decode prog_1_method_19_code 18 = .ok (.aload_n 0, 1))
theorem i_Pr_countAfter_19 : iGet M_Pr_countAfter 19 13 5 := ⟨43, (by decide +kernel : decode prog_1_method_19_code 19 = .ok (.getfield 43, 3)), fl_Pr_Pr_growth⟩
theorem i_Pr_countAfter_22 : iGet M_Pr_countAfter 22 4 0 := ⟨207, (by decide +kernel : decode prog_1_method_19_code 22 = .ok (.getfield 207, 3)), fl_Pr_Gr_counts⟩
theorem i_Pr_countAfter_25 : iIns M_Pr_countAfter 25 (.iload_n 3) 1 := (by decide +kernel : decode prog_1_method_19_code 25 = .ok (.iload_n 3, 1))
theorem i_Pr_countAfter_26 : iIns M_Pr_countAfter 26 .laload 1 := (by decide +kernel : decode prog_1_method_19_code 26 = .ok (.laload, 1))
theorem i_Pr_countAfter_27 : iIns M_Pr_countAfter 27 .lreturn 1 := (by decide +kernel : decode prog_1_method_19_code 27 = .ok (.lreturn, 1))
theorem i_Pr_growthKind_0 : iIns M_Pr_growthKind 0 (.aload_n 0) 1 := (by decide +kernel : decode prog_1_method_20_code 0 = .ok (.aload_n 0, 1))
theorem i_Pr_growthKind_1 : iIns M_Pr_growthKind 1 (.iload_n 1) 1 := (by decide +kernel : decode prog_1_method_20_code 1 = .ok (.iload_n 1, 1))
theorem i_Pr_growthKind_2 : iCallV M_Pr_growthKind 2 M_Pr_tableAt 1 13 := ⟨⟨111, (by decide +kernel : decode prog_1_method_20_code 2 = .ok (.invokevirtual 111, 3)), lw_k3 78 rfl rfl⟩, vm_Pr_tableAt, me_Pr_tableAt, pn_Pr_tableAt⟩
theorem i_Pr_growthKind_5 : iIns M_Pr_growthKind 5 (.astore_n 2) 1 := (by decide +kernel : decode prog_1_method_20_code 5 = .ok (.astore_n 2, 1))
theorem i_Pr_growthKind_6 : iIns M_Pr_growthKind 6 (.aload_n 2) 1 := (by decide +kernel : decode prog_1_method_20_code 6 = .ok (.aload_n 2, 1))
theorem i_Pr_growthKind_7 : iCallS M_Pr_growthKind 7 M_Pr_checkPlainAndDeterministic 1 := ⟨⟨211, (by decide +kernel : decode prog_1_method_20_code 7 = .ok (.invokestatic 211, 3)), lw_k4 45 rfl rfl⟩, sm_Pr_checkPlainAndDeterministic, me_Pr_checkPlainAndDeterministic, pn_Pr_checkPlainAndDeterministic⟩
theorem i_Pr_growthKind_10 : iIns M_Pr_growthKind 10 (.aload_n 0) 1 := (by decide +kernel : decode prog_1_method_20_code 10 = .ok (.aload_n 0, 1))
theorem i_Pr_growthKind_11 : iGet M_Pr_growthKind 11 13 5 := ⟨43, (by decide +kernel : decode prog_1_method_20_code 11 = .ok (.getfield 43, 3)), fl_Pr_Pr_growth⟩
theorem i_Pr_growthKind_14 : iIns M_Pr_growthKind 14 (.aload_n 2) 1 := (by decide +kernel : decode prog_1_method_20_code 14 = .ok (.aload_n 2, 1))
theorem i_Pr_growthKind_15 : iIns M_Pr_growthKind 15 (.aload_n 0) 1 := (by decide +kernel : decode prog_1_method_20_code 15 = .ok (.aload_n 0, 1))
theorem i_Pr_growthKind_16 : iGet M_Pr_growthKind 16 13 1 := ⟨19, (by decide +kernel : decode prog_1_method_20_code 16 = .ok (.getfield 19, 3)), fl_Pr_Pr_live⟩
theorem i_Pr_growthKind_19 : iGet M_Pr_growthKind 19 8 1 := ⟨157, (by decide +kernel : decode prog_1_method_20_code 19 = .ok (.getfield 157, 3)), fl_Pr_St_current⟩
theorem i_Pr_growthKind_22 : iCallV M_Pr_growthKind 22 M_Gr_longestChain 2 4 := ⟨⟨215, (by decide +kernel : decode prog_1_method_20_code 22 = .ok (.invokevirtual 215, 3)), lw_k4 80 rfl rfl⟩, vm_Gr_longestChain, me_Gr_longestChain, pn_Gr_longestChain⟩
theorem i_Pr_growthKind_25 : iIns M_Pr_growthKind 25 (.istore_n 3) 1 := (by decide +kernel : decode prog_1_method_20_code 25 = .ok (.istore_n 3, 1))
theorem i_Pr_growthKind_26 : iIns M_Pr_growthKind 26 (.iload_n 3) 1 := (by decide +kernel : decode prog_1_method_20_code 26 = .ok (.iload_n 3, 1))
theorem i_Pr_growthKind_27 : iIns M_Pr_growthKind 27 (.iconst (-1)) 1 := (by decide +kernel : decode prog_1_method_20_code 27 = .ok (.iconst (-1), 1))
theorem i_Pr_growthKind_28 : iIcmp M_Pr_growthKind 28 .ne 33 := ⟨5, (by decide +kernel : decode prog_1_method_20_code 28 = .ok (.if_icmp .ne (5), 3)), by decide⟩
theorem i_Pr_growthKind_31 : iIns M_Pr_growthKind 31 (.iconst 3) 1 := (by decide +kernel : decode prog_1_method_20_code 31 = .ok (.iconst 3, 1))
theorem i_Pr_growthKind_32 : iIns M_Pr_growthKind 32 .ireturn 1 := (by decide +kernel : decode prog_1_method_20_code 32 = .ok (.ireturn, 1))
theorem i_Pr_growthKind_33 : iIns M_Pr_growthKind 33 (.iload_n 3) 1 := (by decide +kernel : decode prog_1_method_20_code 33 = .ok (.iload_n 3, 1))
theorem i_Pr_growthKind_34 : iIns M_Pr_growthKind 34 (.iconst 2) 1 := (by decide +kernel : decode prog_1_method_20_code 34 = .ok (.iconst 2, 1))
theorem i_Pr_growthKind_35 : iCallS M_Pr_growthKind 35 M_Ma_minI 2 := ⟨⟨219, (by decide +kernel : decode prog_1_method_20_code 35 = .ok (.invokestatic 219, 3)), lw_k4 110 rfl rfl⟩, sm_Ma_minI, me_Ma_minI, pn_Ma_minI⟩
theorem i_Pr_growthKind_38 : iIns M_Pr_growthKind 38 .ireturn 1 := (by decide +kernel : decode prog_1_method_20_code 38 = .ok (.ireturn, 1))
theorem i_Pr_growthDegree_0 : iIns M_Pr_growthDegree 0 (.aload_n 0) 1 := (by decide +kernel : decode prog_1_method_21_code 0 = .ok (.aload_n 0, 1))
theorem i_Pr_growthDegree_1 : iIns M_Pr_growthDegree 1 (.iload_n 1) 1 := (by decide +kernel : decode prog_1_method_21_code 1 = .ok (.iload_n 1, 1))
theorem i_Pr_growthDegree_2 : iCallV M_Pr_growthDegree 2 M_Pr_tableAt 1 13 := ⟨⟨111, (by decide +kernel : decode prog_1_method_21_code 2 = .ok (.invokevirtual 111, 3)), lw_k3 78 rfl rfl⟩, vm_Pr_tableAt, me_Pr_tableAt, pn_Pr_tableAt⟩
theorem i_Pr_growthDegree_5 : iIns M_Pr_growthDegree 5 (.astore_n 2) 1 := (by decide +kernel : decode prog_1_method_21_code 5 = .ok (.astore_n 2, 1))
theorem i_Pr_growthDegree_6 : iIns M_Pr_growthDegree 6 (.aload_n 2) 1 := (by decide +kernel : decode prog_1_method_21_code 6 = .ok (.aload_n 2, 1))
theorem i_Pr_growthDegree_7 : iCallS M_Pr_growthDegree 7 M_Pr_checkPlainAndDeterministic 1 := ⟨⟨211, (by decide +kernel : decode prog_1_method_21_code 7 = .ok (.invokestatic 211, 3)), lw_k4 45 rfl rfl⟩, sm_Pr_checkPlainAndDeterministic, me_Pr_checkPlainAndDeterministic, pn_Pr_checkPlainAndDeterministic⟩
theorem i_Pr_growthDegree_10 : iIns M_Pr_growthDegree 10 (.aload_n 0) 1 := (by decide +kernel : decode prog_1_method_21_code 10 = .ok (.aload_n 0, 1))
theorem i_Pr_growthDegree_11 : iGet M_Pr_growthDegree 11 13 5 := ⟨43, (by decide +kernel : decode prog_1_method_21_code 11 = .ok (.getfield 43, 3)), fl_Pr_Pr_growth⟩
theorem i_Pr_growthDegree_14 : iIns M_Pr_growthDegree 14 (.aload_n 2) 1 := (by decide +kernel : decode prog_1_method_21_code 14 = .ok (.aload_n 2, 1))
theorem i_Pr_growthDegree_15 : iIns M_Pr_growthDegree 15 (.aload_n 0) 1 := (by decide +kernel : decode prog_1_method_21_code 15 = .ok (.aload_n 0, 1))
theorem i_Pr_growthDegree_16 : iGet M_Pr_growthDegree 16 13 1 := ⟨19, (by decide +kernel : decode prog_1_method_21_code 16 = .ok (.getfield 19, 3)), fl_Pr_Pr_live⟩
theorem i_Pr_growthDegree_19 : iGet M_Pr_growthDegree 19 8 1 := ⟨157, (by decide +kernel : decode prog_1_method_21_code 19 = .ok (.getfield 157, 3)), fl_Pr_St_current⟩
theorem i_Pr_growthDegree_22 : iCallV M_Pr_growthDegree 22 M_Gr_longestChain 2 4 := ⟨⟨215, (by decide +kernel : decode prog_1_method_21_code 22 = .ok (.invokevirtual 215, 3)), lw_k4 80 rfl rfl⟩, vm_Gr_longestChain, me_Gr_longestChain, pn_Gr_longestChain⟩
theorem i_Pr_growthDegree_25 : iIns M_Pr_growthDegree 25 (.istore_n 3) 1 := (by decide +kernel : decode prog_1_method_21_code 25 = .ok (.istore_n 3, 1))
theorem i_Pr_growthDegree_26 : iIns M_Pr_growthDegree 26 (.iload_n 3) 1 := (by decide +kernel : decode prog_1_method_21_code 26 = .ok (.iload_n 3, 1))
theorem i_Pr_growthDegree_27 : iIns M_Pr_growthDegree 27 (.iconst (-1)) 1 := (by decide +kernel : decode prog_1_method_21_code 27 = .ok (.iconst (-1), 1))
theorem i_Pr_growthDegree_28 : iIcmp M_Pr_growthDegree 28 .ne 41 := ⟨13, (by decide +kernel : decode prog_1_method_21_code 28 = .ok (.if_icmp .ne (13), 3)), by decide⟩
theorem i_Pr_growthDegree_31 : iThrow M_Pr_growthDegree 31 xAri := ⟨225, 227, 229, "no polynomial bounds the growth", ⟨lw_k4 63 rfl rfl, lw_k4 65 rfl rfl, by decide +kernel⟩, (by decide +kernel : decode prog_1_method_21_code 31 = .ok (.new 225, 3)), (by decide +kernel : decode prog_1_method_21_code 34 = .ok (.dup, 1)), Or.inl ⟨(by decide +kernel : decode prog_1_method_21_code 35 = .ok (.ldc 227, 2)), (by decide +kernel : decode prog_1_method_21_code 37 = .ok (.invokespecial 229, 3)), (by decide +kernel : decode prog_1_method_21_code 40 = .ok (.athrow, 1))⟩⟩
theorem i_Pr_growthDegree_41 : iIns M_Pr_growthDegree 41 (.iload_n 3) 1 := (by decide +kernel : decode prog_1_method_21_code 41 = .ok (.iload_n 3, 1))
theorem i_Pr_growthDegree_42 : iIns M_Pr_growthDegree 42 (.iconst 1) 1 := (by decide +kernel : decode prog_1_method_21_code 42 = .ok (.iconst 1, 1))
theorem i_Pr_growthDegree_43 : iIns M_Pr_growthDegree 43 .isub 1 := (by decide +kernel : decode prog_1_method_21_code 43 = .ok (.isub, 1))
theorem i_Pr_growthDegree_44 : iIns M_Pr_growthDegree 44 (.iconst 0) 1 := (by decide +kernel : decode prog_1_method_21_code 44 = .ok (.iconst 0, 1))
theorem i_Pr_growthDegree_45 : iCallS M_Pr_growthDegree 45 M_Ma_maxI 2 := ⟨⟨230, (by decide +kernel : decode prog_1_method_21_code 45 = .ok (.invokestatic 230, 3)), lw_k4 119 rfl rfl⟩, sm_Ma_maxI, me_Ma_maxI, pn_Ma_maxI⟩
theorem i_Pr_growthDegree_48 : iIns M_Pr_growthDegree 48 .ireturn 1 := (by decide +kernel : decode prog_1_method_21_code 48 = .ok (.ireturn, 1))
theorem i_Pr_recurrenceOrder_0 : iIns M_Pr_recurrenceOrder 0 (.aload_n 0) 1 := (by decide +kernel : decode prog_1_method_22_code 0 = .ok (.aload_n 0, 1))
theorem i_Pr_recurrenceOrder_1 : iIns M_Pr_recurrenceOrder 1 (.iload_n 1) 1 := (by decide +kernel : decode prog_1_method_22_code 1 = .ok (.iload_n 1, 1))
theorem i_Pr_recurrenceOrder_2 : iCallV M_Pr_recurrenceOrder 2 M_Pr_tableAt 1 13 := ⟨⟨111, (by decide +kernel : decode prog_1_method_22_code 2 = .ok (.invokevirtual 111, 3)), lw_k3 78 rfl rfl⟩, vm_Pr_tableAt, me_Pr_tableAt, pn_Pr_tableAt⟩
theorem i_Pr_recurrenceOrder_5 : iIns M_Pr_recurrenceOrder 5 (.astore_n 2) 1 := (by decide +kernel : decode prog_1_method_22_code 5 = .ok (.astore_n 2, 1))
theorem i_Pr_recurrenceOrder_6 : iIns M_Pr_recurrenceOrder 6 (.aload_n 2) 1 := (by decide +kernel : decode prog_1_method_22_code 6 = .ok (.aload_n 2, 1))
theorem i_Pr_recurrenceOrder_7 : iCallS M_Pr_recurrenceOrder 7 M_Pr_checkPlainAndDeterministic 1 := ⟨⟨211, (by decide +kernel : decode prog_1_method_22_code 7 = .ok (.invokestatic 211, 3)), lw_k4 45 rfl rfl⟩, sm_Pr_checkPlainAndDeterministic, me_Pr_checkPlainAndDeterministic, pn_Pr_checkPlainAndDeterministic⟩
theorem i_Pr_recurrenceOrder_10 : iIns M_Pr_recurrenceOrder 10 (.aload_n 0) 1 := (by decide +kernel : decode prog_1_method_22_code 10 = .ok (.aload_n 0, 1))
theorem i_Pr_recurrenceOrder_11 : iGet M_Pr_recurrenceOrder 11 13 6 := ⟨50, (by decide +kernel : decode prog_1_method_22_code 11 = .ok (.getfield 50, 3)), fl_Pr_Pr_recurrence⟩
theorem i_Pr_recurrenceOrder_14 : iIns M_Pr_recurrenceOrder 14 (.aload_n 2) 1 := (by decide +kernel : decode prog_1_method_22_code 14 = .ok (.aload_n 2, 1))
theorem i_Pr_recurrenceOrder_15 : iIns M_Pr_recurrenceOrder 15 (.aload_n 0) 1 := (by decide +kernel : decode prog_1_method_22_code 15 = .ok (.aload_n 0, 1))
theorem i_Pr_recurrenceOrder_16 : iGet M_Pr_recurrenceOrder 16 13 1 := ⟨19, (by decide +kernel : decode prog_1_method_22_code 16 = .ok (.getfield 19, 3)), fl_Pr_Pr_live⟩
theorem i_Pr_recurrenceOrder_19 : iGet M_Pr_recurrenceOrder 19 8 1 := ⟨157, (by decide +kernel : decode prog_1_method_22_code 19 = .ok (.getfield 157, 3)), fl_Pr_St_current⟩
theorem i_Pr_recurrenceOrder_22 : iCallV M_Pr_recurrenceOrder 22 M_Re_find 2 6 := ⟨⟨233, (by decide +kernel : decode prog_1_method_22_code 22 = .ok (.invokevirtual 233, 3)), lw_k4 127 rfl rfl⟩, vm_Re_find, me_Re_find, pn_Re_find⟩
theorem i_Pr_recurrenceOrder_25 : iIns M_Pr_recurrenceOrder 25 (.aload_n 0) 1 := (by decide +kernel : decode prog_1_method_22_code 25 = .ok (.aload_n 0, 1))
theorem i_Pr_recurrenceOrder_26 : iGet M_Pr_recurrenceOrder 26 13 6 := ⟨50, (by decide +kernel : decode prog_1_method_22_code 26 = .ok (.getfield 50, 3)), fl_Pr_Pr_recurrence⟩
theorem i_Pr_recurrenceOrder_29 : iGet M_Pr_recurrenceOrder 29 6 6 := ⟨237, (by decide +kernel : decode prog_1_method_22_code 29 = .ok (.getfield 237, 3)), fl_Pr_Re_order⟩
theorem i_Pr_recurrenceOrder_32 : iIns M_Pr_recurrenceOrder 32 .ireturn 1 := (by decide +kernel : decode prog_1_method_22_code 32 = .ok (.ireturn, 1))
theorem i_Pr_recurrenceCoefficient_0 : iIns M_Pr_recurrenceCoefficient 0 (.aload_n 0) 1 := (by decide +kernel : decode prog_1_method_23_code 0 = .ok (.aload_n 0, 1))
theorem i_Pr_recurrenceCoefficient_1 : iIns M_Pr_recurrenceCoefficient 1 (.iload_n 1) 1 := (by decide +kernel : decode prog_1_method_23_code 1 = .ok (.iload_n 1, 1))
theorem i_Pr_recurrenceCoefficient_2 : iCallV M_Pr_recurrenceCoefficient 2 M_Pr_tableAt 1 13 := ⟨⟨111, (by decide +kernel : decode prog_1_method_23_code 2 = .ok (.invokevirtual 111, 3)), lw_k3 78 rfl rfl⟩, vm_Pr_tableAt, me_Pr_tableAt, pn_Pr_tableAt⟩
theorem i_Pr_recurrenceCoefficient_5 : iIns M_Pr_recurrenceCoefficient 5 (.astore_n 3) 1 := (by decide +kernel : decode prog_1_method_23_code 5 = .ok (.astore_n 3, 1))
theorem i_Pr_recurrenceCoefficient_6 : iIns M_Pr_recurrenceCoefficient 6 (.aload_n 3) 1 := (by decide +kernel : decode prog_1_method_23_code 6 = .ok (.aload_n 3, 1))
theorem i_Pr_recurrenceCoefficient_7 : iCallS M_Pr_recurrenceCoefficient 7 M_Pr_checkPlainAndDeterministic 1 := ⟨⟨211, (by decide +kernel : decode prog_1_method_23_code 7 = .ok (.invokestatic 211, 3)), lw_k4 45 rfl rfl⟩, sm_Pr_checkPlainAndDeterministic, me_Pr_checkPlainAndDeterministic, pn_Pr_checkPlainAndDeterministic⟩
theorem i_Pr_recurrenceCoefficient_10 : iIns M_Pr_recurrenceCoefficient 10 (.aload_n 0) 1 := (by decide +kernel : decode prog_1_method_23_code 10 = .ok (.aload_n 0, 1))
theorem i_Pr_recurrenceCoefficient_11 : iGet M_Pr_recurrenceCoefficient 11 13 6 := ⟨50, (by decide +kernel : decode prog_1_method_23_code 11 = .ok (.getfield 50, 3)), fl_Pr_Pr_recurrence⟩
theorem i_Pr_recurrenceCoefficient_14 : iIns M_Pr_recurrenceCoefficient 14 (.aload_n 3) 1 := (by decide +kernel : decode prog_1_method_23_code 14 = .ok (.aload_n 3, 1))
theorem i_Pr_recurrenceCoefficient_15 : iIns M_Pr_recurrenceCoefficient 15 (.aload_n 0) 1 := (by decide +kernel : decode prog_1_method_23_code 15 = .ok (.aload_n 0, 1))
theorem i_Pr_recurrenceCoefficient_16 : iGet M_Pr_recurrenceCoefficient 16 13 1 := ⟨19, (by decide +kernel : decode prog_1_method_23_code 16 = .ok (.getfield 19, 3)), fl_Pr_Pr_live⟩
theorem i_Pr_recurrenceCoefficient_19 : iGet M_Pr_recurrenceCoefficient 19 8 1 := ⟨157, (by decide +kernel : decode prog_1_method_23_code 19 = .ok (.getfield 157, 3)), fl_Pr_St_current⟩
theorem i_Pr_recurrenceCoefficient_22 : iCallV M_Pr_recurrenceCoefficient 22 M_Re_find 2 6 := ⟨⟨233, (by decide +kernel : decode prog_1_method_23_code 22 = .ok (.invokevirtual 233, 3)), lw_k4 127 rfl rfl⟩, vm_Re_find, me_Re_find, pn_Re_find⟩
theorem i_Pr_recurrenceCoefficient_25 : iIns M_Pr_recurrenceCoefficient 25 (.iload_n 2) 1 := (by decide +kernel : decode prog_1_method_23_code 25 = .ok (.iload_n 2, 1))
theorem i_Pr_recurrenceCoefficient_26 : iIns M_Pr_recurrenceCoefficient 26 (.iconst 1) 1 := (by decide +kernel : decode prog_1_method_23_code 26 = .ok (.iconst 1, 1))
theorem i_Pr_recurrenceCoefficient_27 : iIcmp M_Pr_recurrenceCoefficient 27 .lt 41 := ⟨14, (by decide +kernel : decode prog_1_method_23_code 27 = .ok (.if_icmp .lt (14), 3)), by decide⟩
theorem i_Pr_recurrenceCoefficient_30 : iIns M_Pr_recurrenceCoefficient 30 (.iload_n 2) 1 := (by decide +kernel : decode prog_1_method_23_code 30 = .ok (.iload_n 2, 1))
theorem i_Pr_recurrenceCoefficient_31 : iIns M_Pr_recurrenceCoefficient 31 (.aload_n 0) 1 := (by decide +kernel : decode prog_1_method_23_code 31 = .ok (.aload_n 0, 1))
theorem i_Pr_recurrenceCoefficient_32 : iGet M_Pr_recurrenceCoefficient 32 13 6 := ⟨50, (by decide +kernel : decode prog_1_method_23_code 32 = .ok (.getfield 50, 3)), fl_Pr_Pr_recurrence⟩
theorem i_Pr_recurrenceCoefficient_35 : iGet M_Pr_recurrenceCoefficient 35 6 6 := ⟨237, (by decide +kernel : decode prog_1_method_23_code 35 = .ok (.getfield 237, 3)), fl_Pr_Re_order⟩
theorem i_Pr_recurrenceCoefficient_38 : iIcmp M_Pr_recurrenceCoefficient 38 .le 51 := ⟨13, (by decide +kernel : decode prog_1_method_23_code 38 = .ok (.if_icmp .le (13), 3)), by decide⟩
theorem i_Pr_recurrenceCoefficient_41 : iThrow M_Pr_recurrenceCoefficient 41 xNse := ⟨240, 242, 244, "the recurrence has no such number", ⟨lw_k4 162 rfl rfl, lw_k4 172 rfl rfl, by decide +kernel⟩, (by decide +kernel : decode prog_1_method_23_code 41 = .ok (.new 240, 3)), (by decide +kernel : decode prog_1_method_23_code 44 = .ok (.dup, 1)), Or.inl ⟨(by decide +kernel : decode prog_1_method_23_code 45 = .ok (.ldc 242, 2)), (by decide +kernel : decode prog_1_method_23_code 47 = .ok (.invokespecial 244, 3)), (by decide +kernel : decode prog_1_method_23_code 50 = .ok (.athrow, 1))⟩⟩
theorem i_Pr_recurrenceCoefficient_51 : iIns M_Pr_recurrenceCoefficient 51 (.aload_n 0) 1 := (by decide +kernel : decode prog_1_method_23_code 51 = .ok (.aload_n 0, 1))
theorem i_Pr_recurrenceCoefficient_52 : iGet M_Pr_recurrenceCoefficient 52 13 6 := ⟨50, (by decide +kernel : decode prog_1_method_23_code 52 = .ok (.getfield 50, 3)), fl_Pr_Pr_recurrence⟩
theorem i_Pr_recurrenceCoefficient_55 : iIns M_Pr_recurrenceCoefficient 55 (.iload_n 2) 1 := (by decide +kernel : decode prog_1_method_23_code 55 = .ok (.iload_n 2, 1))
theorem i_Pr_recurrenceCoefficient_56 : iCallV M_Pr_recurrenceCoefficient 56 M_Re_coefficient 1 6 := ⟨⟨245, (by decide +kernel : decode prog_1_method_23_code 56 = .ok (.invokevirtual 245, 3)), lw_k4 178 rfl rfl⟩, vm_Re_coefficient, me_Re_coefficient, pn_Re_coefficient⟩
theorem i_Pr_recurrenceCoefficient_59 : iIns M_Pr_recurrenceCoefficient 59 .ireturn 1 := (by decide +kernel : decode prog_1_method_23_code 59 = .ok (.ireturn, 1))
theorem i_Pr_isAdult_0 : iIns M_Pr_isAdult 0 (.aload_n 0) 1 := (by decide +kernel : decode prog_1_method_24_code 0 = .ok (.aload_n 0, 1))
theorem i_Pr_isAdult_1 : iGet M_Pr_isAdult 1 13 7 := ⟨57, (by decide +kernel : decode prog_1_method_24_code 1 = .ok (.getfield 57, 3)), fl_Pr_Pr_adults⟩
theorem i_Pr_isAdult_4 : iIns M_Pr_isAdult 4 (.aload_n 0) 1 := (by decide +kernel : decode prog_1_method_24_code 4 = .ok (.aload_n 0, 1))
theorem i_Pr_isAdult_5 : iIns M_Pr_isAdult 5 (.iload_n 1) 1 := (by decide +kernel : decode prog_1_method_24_code 5 = .ok (.iload_n 1, 1))
theorem i_Pr_isAdult_6 : iCallV M_Pr_isAdult 6 M_Pr_tableAt 1 13 := ⟨⟨111, (by decide +kernel : decode prog_1_method_24_code 6 = .ok (.invokevirtual 111, 3)), lw_k3 78 rfl rfl⟩, vm_Pr_tableAt, me_Pr_tableAt, pn_Pr_tableAt⟩
theorem i_Pr_isAdult_9 : iIns M_Pr_isAdult 9 (.aload_n 0) 1 := (by decide +kernel : decode prog_1_method_24_code 9 = .ok (.aload_n 0, 1))
theorem i_Pr_isAdult_10 : iGet M_Pr_isAdult 10 13 1 := ⟨19, (by decide +kernel : decode prog_1_method_24_code 10 = .ok (.getfield 19, 3)), fl_Pr_Pr_live⟩
theorem i_Pr_isAdult_13 : iGet M_Pr_isAdult 13 8 1 := ⟨157, (by decide +kernel : decode prog_1_method_24_code 13 = .ok (.getfield 157, 3)), fl_Pr_St_current⟩
theorem i_Pr_isAdult_16 : iCallV M_Pr_isAdult 16 M_Ad_isKept 2 2 := ⟨⟨249, (by decide +kernel : decode prog_1_method_24_code 16 = .ok (.invokevirtual 249, 3)), lw_k4 189 rfl rfl⟩, vm_Ad_isKept, me_Ad_isKept, pn_Ad_isKept⟩
theorem i_Pr_isAdult_19 : iIns M_Pr_isAdult 19 .ireturn 1 := (by decide +kernel : decode prog_1_method_24_code 19 = .ok (.ireturn, 1))
theorem i_Pr_stepsToAdult_0 : iIns M_Pr_stepsToAdult 0 (.aload_n 0) 1 := (by decide +kernel : decode prog_1_method_25_code 0 = .ok (.aload_n 0, 1))
theorem i_Pr_stepsToAdult_1 : iIns M_Pr_stepsToAdult 1 (.iload_n 1) 1 := (by decide +kernel : decode prog_1_method_25_code 1 = .ok (.iload_n 1, 1))
theorem i_Pr_stepsToAdult_2 : iCallV M_Pr_stepsToAdult 2 M_Pr_tableAt 1 13 := ⟨⟨111, (by decide +kernel : decode prog_1_method_25_code 2 = .ok (.invokevirtual 111, 3)), lw_k3 78 rfl rfl⟩, vm_Pr_tableAt, me_Pr_tableAt, pn_Pr_tableAt⟩
theorem i_Pr_stepsToAdult_5 : iIns M_Pr_stepsToAdult 5 (.astore_n 3) 1 := (by decide +kernel : decode prog_1_method_25_code 5 = .ok (.astore_n 3, 1))
theorem i_Pr_stepsToAdult_6 : iIns M_Pr_stepsToAdult 6 (.iload_n 2) 1 := (by decide +kernel : decode prog_1_method_25_code 6 = .ok (.iload_n 2, 1))
theorem i_Pr_stepsToAdult_7 : iIf M_Pr_stepsToAdult 7 .lt 16 := ⟨9, (by decide +kernel : decode prog_1_method_25_code 7 = .ok (.ifCond .lt (9), 3)), by decide⟩
theorem i_Pr_stepsToAdult_10 : iIns M_Pr_stepsToAdult 10 (.iload_n 2) 1 := (by decide +kernel : decode prog_1_method_25_code 10 = .ok (.iload_n 2, 1))
theorem i_Pr_stepsToAdult_11 : iIns M_Pr_stepsToAdult 11 (.bipush 50) 2 := (by decide +kernel : decode prog_1_method_25_code 11 = .ok (.bipush 50, 2))
theorem i_Pr_stepsToAdult_13 : iIcmp M_Pr_stepsToAdult 13 .le 26 := ⟨13, (by decide +kernel : decode prog_1_method_25_code 13 = .ok (.if_icmp .le (13), 3)), by decide⟩
theorem i_Pr_stepsToAdult_16 : iThrow M_Pr_stepsToAdult 16 xIae := ⟨91, 253, 95, "limit is not from 0 to 50", ⟨lw_k2 196 rfl rfl, lw_k3 1 rfl rfl, by decide +kernel⟩, (by decide +kernel : decode prog_1_method_25_code 16 = .ok (.new 91, 3)), (by decide +kernel : decode prog_1_method_25_code 19 = .ok (.dup, 1)), Or.inl ⟨(by decide +kernel : decode prog_1_method_25_code 20 = .ok (.ldc 253, 2)), (by decide +kernel : decode prog_1_method_25_code 22 = .ok (.invokespecial 95, 3)), (by decide +kernel : decode prog_1_method_25_code 25 = .ok (.athrow, 1))⟩⟩
theorem i_Pr_stepsToAdult_26 : iIns M_Pr_stepsToAdult 26 (.aload_n 3) 1 := (by decide +kernel : decode prog_1_method_25_code 26 = .ok (.aload_n 3, 1))
theorem i_Pr_stepsToAdult_27 : iCallV M_Pr_stepsToAdult 27 M_Tb_leavesNoChoice 0 9 := ⟨⟨153, (by decide +kernel : decode prog_1_method_25_code 27 = .ok (.invokevirtual 153, 3)), lw_k3 178 rfl rfl⟩, vm_Tb_leavesNoChoice, me_Tb_leavesNoChoice, pn_Tb_leavesNoChoice⟩
theorem i_Pr_stepsToAdult_30 : iIf M_Pr_stepsToAdult 30 .ne 43 := ⟨13, (by decide +kernel : decode prog_1_method_25_code 30 = .ok (.ifCond .ne (13), 3)), by decide⟩
theorem i_Pr_stepsToAdult_33 : iThrow M_Pr_stepsToAdult 33 xIse := ⟨102, 255, 106, "the table is not deterministic", ⟨lw_k3 31 rfl rfl, lw_k3 41 rfl rfl, by decide +kernel⟩, (by decide +kernel : decode prog_1_method_25_code 33 = .ok (.new 102, 3)), (by decide +kernel : decode prog_1_method_25_code 36 = .ok (.dup, 1)), Or.inl ⟨(by decide +kernel : decode prog_1_method_25_code 37 = .ok (.ldc 255, 2)), (by decide +kernel : decode prog_1_method_25_code 39 = .ok (.invokespecial 106, 3)), (by decide +kernel : decode prog_1_method_25_code 42 = .ok (.athrow, 1))⟩⟩
theorem i_Pr_stepsToAdult_43 : iIns M_Pr_stepsToAdult 43 (.aload_n 0) 1 := (by decide +kernel : decode prog_1_method_25_code 43 = .ok (.aload_n 0, 1))
theorem i_Pr_stepsToAdult_44 : iGet M_Pr_stepsToAdult 44 13 7 := ⟨57, (by decide +kernel : decode prog_1_method_25_code 44 = .ok (.getfield 57, 3)), fl_Pr_Pr_adults⟩
theorem i_Pr_stepsToAdult_47 : iIns M_Pr_stepsToAdult 47 (.aload_n 3) 1 := (by decide +kernel : decode prog_1_method_25_code 47 = .ok (.aload_n 3, 1))
theorem i_Pr_stepsToAdult_48 : iIns M_Pr_stepsToAdult 48 (.aload_n 0) 1 := (by decide +kernel : decode prog_1_method_25_code 48 = .ok (.aload_n 0, 1))
theorem i_Pr_stepsToAdult_49 : iGet M_Pr_stepsToAdult 49 13 1 := ⟨19, (by decide +kernel : decode prog_1_method_25_code 49 = .ok (.getfield 19, 3)), fl_Pr_Pr_live⟩
theorem i_Pr_stepsToAdult_52 : iGet M_Pr_stepsToAdult 52 8 1 := ⟨157, (by decide +kernel : decode prog_1_method_25_code 52 = .ok (.getfield 157, 3)), fl_Pr_St_current⟩
theorem i_Pr_stepsToAdult_55 : iIns M_Pr_stepsToAdult 55 (.iload_n 2) 1 := (by decide +kernel : decode prog_1_method_25_code 55 = .ok (.iload_n 2, 1))
theorem i_Pr_stepsToAdult_56 : iCallV M_Pr_stepsToAdult 56 M_Ad_stepsUntilKept 3 2 := ⟨⟨257, (by decide +kernel : decode prog_1_method_25_code 56 = .ok (.invokevirtual 257, 3)), lw_k4 216 rfl rfl⟩, vm_Ad_stepsUntilKept, me_Ad_stepsUntilKept, pn_Ad_stepsUntilKept⟩
theorem i_Pr_stepsToAdult_59 : iIns M_Pr_stepsToAdult 59 (.istore 4) 2 := (by decide +kernel : decode prog_1_method_25_code 59 = .ok (.istore 4, 2))
theorem i_Pr_stepsToAdult_61 : iIns M_Pr_stepsToAdult 61 (.iload 4) 2 := (by decide +kernel : decode prog_1_method_25_code 61 = .ok (.iload 4, 2))
theorem i_Pr_stepsToAdult_63 : iIns M_Pr_stepsToAdult 63 (.iconst (-1)) 1 := (by decide +kernel : decode prog_1_method_25_code 63 = .ok (.iconst (-1), 1))
theorem i_Pr_stepsToAdult_64 : iIcmp M_Pr_stepsToAdult 64 .ne 78 := ⟨14, (by decide +kernel : decode prog_1_method_25_code 64 = .ok (.if_icmp .ne (14), 3)), by decide⟩
theorem i_Pr_stepsToAdult_67 : iThrow M_Pr_stepsToAdult 67 xNse := ⟨240, 261, 244, "no adult word comes up to the limit", ⟨lw_k4 162 rfl rfl, lw_k4 172 rfl rfl, by decide +kernel⟩, (by decide +kernel : decode prog_1_method_25_code 67 = .ok (.new 240, 3)), (by decide +kernel : decode prog_1_method_25_code 70 = .ok (.dup, 1)), Or.inr ⟨(by decide +kernel : decode prog_1_method_25_code 71 = .ok (.ldc_w 261, 3)), (by decide +kernel : decode prog_1_method_25_code 74 = .ok (.invokespecial 244, 3)), (by decide +kernel : decode prog_1_method_25_code 77 = .ok (.athrow, 1))⟩⟩
theorem i_Pr_stepsToAdult_78 : iIns M_Pr_stepsToAdult 78 (.iload 4) 2 := (by decide +kernel : decode prog_1_method_25_code 78 = .ok (.iload 4, 2))
theorem i_Pr_stepsToAdult_80 : iIns M_Pr_stepsToAdult 80 .ireturn 1 := (by decide +kernel : decode prog_1_method_25_code 80 = .ok (.ireturn, 1))
theorem i_Pr_adultWords_0 : iIns M_Pr_adultWords 0 (.aload_n 0) 1 := (by decide +kernel : decode prog_1_method_26_code 0 = .ok (.aload_n 0, 1))
theorem i_Pr_adultWords_1 : iIns M_Pr_adultWords 1 (.iload_n 1) 1 := (by decide +kernel : decode prog_1_method_26_code 1 = .ok (.iload_n 1, 1))
theorem i_Pr_adultWords_2 : iCallV M_Pr_adultWords 2 M_Pr_tableAt 1 13 := ⟨⟨111, (by decide +kernel : decode prog_1_method_26_code 2 = .ok (.invokevirtual 111, 3)), lw_k3 78 rfl rfl⟩, vm_Pr_tableAt, me_Pr_tableAt, pn_Pr_tableAt⟩
theorem i_Pr_adultWords_5 : iIns M_Pr_adultWords 5 (.astore_n 3) 1 := (by decide +kernel : decode prog_1_method_26_code 5 = .ok (.astore_n 3, 1))
theorem i_Pr_adultWords_6 : iIns M_Pr_adultWords 6 (.iload_n 2) 1 := (by decide +kernel : decode prog_1_method_26_code 6 = .ok (.iload_n 2, 1))
theorem i_Pr_adultWords_7 : iIf M_Pr_adultWords 7 .lt 15 := ⟨8, (by decide +kernel : decode prog_1_method_26_code 7 = .ok (.ifCond .lt (8), 3)), by decide⟩
theorem i_Pr_adultWords_10 : iIns M_Pr_adultWords 10 (.iload_n 2) 1 := (by decide +kernel : decode prog_1_method_26_code 10 = .ok (.iload_n 2, 1))
theorem i_Pr_adultWords_11 : iIns M_Pr_adultWords 11 (.iconst 4) 1 := (by decide +kernel : decode prog_1_method_26_code 11 = .ok (.iconst 4, 1))
theorem i_Pr_adultWords_12 : iIcmp M_Pr_adultWords 12 .le 26 := ⟨14, (by decide +kernel : decode prog_1_method_26_code 12 = .ok (.if_icmp .le (14), 3)), by decide⟩
theorem i_Pr_adultWords_15 : iThrow M_Pr_adultWords 15 xIae := ⟨91, 263, 95, "length is not from 0 to 4", ⟨lw_k2 196 rfl rfl, lw_k3 1 rfl rfl, by decide +kernel⟩, (by decide +kernel : decode prog_1_method_26_code 15 = .ok (.new 91, 3)), (by decide +kernel : decode prog_1_method_26_code 18 = .ok (.dup, 1)), Or.inr ⟨(by decide +kernel : decode prog_1_method_26_code 19 = .ok (.ldc_w 263, 3)), (by decide +kernel : decode prog_1_method_26_code 22 = .ok (.invokespecial 95, 3)), (by decide +kernel : decode prog_1_method_26_code 25 = .ok (.athrow, 1))⟩⟩
theorem i_Pr_adultWords_26 : iIns M_Pr_adultWords 26 (.aload_n 0) 1 := (by decide +kernel : decode prog_1_method_26_code 26 = .ok (.aload_n 0, 1))
theorem i_Pr_adultWords_27 : iGet M_Pr_adultWords 27 13 7 := ⟨57, (by decide +kernel : decode prog_1_method_26_code 27 = .ok (.getfield 57, 3)), fl_Pr_Pr_adults⟩
theorem i_Pr_adultWords_30 : iIns M_Pr_adultWords 30 (.aload_n 3) 1 := (by decide +kernel : decode prog_1_method_26_code 30 = .ok (.aload_n 3, 1))
theorem i_Pr_adultWords_31 : iIns M_Pr_adultWords 31 (.iload_n 2) 1 := (by decide +kernel : decode prog_1_method_26_code 31 = .ok (.iload_n 2, 1))
theorem i_Pr_adultWords_32 : iCallV M_Pr_adultWords 32 M_Ad_countKept 2 2 := ⟨⟨265, (by decide +kernel : decode prog_1_method_26_code 32 = .ok (.invokevirtual 265, 3)), lw_k4 230 rfl rfl⟩, vm_Ad_countKept, me_Ad_countKept, pn_Ad_countKept⟩
theorem i_Pr_adultWords_35 : iIns M_Pr_adultWords 35 .ireturn 1 := (by decide +kernel : decode prog_1_method_26_code 35 = .ok (.ireturn, 1))
theorem i_Pr_ways_0 : iIns M_Pr_ways 0 (.aload_n 0) 1 := (by decide +kernel : decode prog_1_method_27_code 0 = .ok (.aload_n 0, 1))
theorem i_Pr_ways_1 : iGet M_Pr_ways 1 13 8 := ⟨64, (by decide +kernel : decode prog_1_method_27_code 1 = .ok (.getfield 64, 3)), fl_Pr_Pr_wayCounter⟩
theorem i_Pr_ways_4 : iIns M_Pr_ways 4 (.aload_n 0) 1 := (by decide +kernel : decode prog_1_method_27_code 4 = .ok (.aload_n 0, 1))
theorem i_Pr_ways_5 : iIns M_Pr_ways 5 (.iload_n 1) 1 := (by decide +kernel : decode prog_1_method_27_code 5 = .ok (.iload_n 1, 1))
theorem i_Pr_ways_6 : iCallV M_Pr_ways 6 M_Pr_tableAt 1 13 := ⟨⟨111, (by decide +kernel : decode prog_1_method_27_code 6 = .ok (.invokevirtual 111, 3)), lw_k3 78 rfl rfl⟩, vm_Pr_tableAt, me_Pr_tableAt, pn_Pr_tableAt⟩
theorem i_Pr_ways_9 : iIns M_Pr_ways 9 (.aload_n 0) 1 := (by decide +kernel : decode prog_1_method_27_code 9 = .ok (.aload_n 0, 1))
theorem i_Pr_ways_10 : iGet M_Pr_ways 10 13 1 := ⟨19, (by decide +kernel : decode prog_1_method_27_code 10 = .ok (.getfield 19, 3)), fl_Pr_Pr_live⟩
theorem i_Pr_ways_13 : iGet M_Pr_ways 13 8 1 := ⟨157, (by decide +kernel : decode prog_1_method_27_code 13 = .ok (.getfield 157, 3)), fl_Pr_St_current⟩
theorem i_Pr_ways_16 : iIns M_Pr_ways 16 (.aload_n 0) 1 := (by decide +kernel : decode prog_1_method_27_code 16 = .ok (.aload_n 0, 1))
theorem i_Pr_ways_17 : iGet M_Pr_ways 17 13 1 := ⟨19, (by decide +kernel : decode prog_1_method_27_code 17 = .ok (.getfield 19, 3)), fl_Pr_Pr_live⟩
theorem i_Pr_ways_20 : iGet M_Pr_ways 20 8 2 := ⟨168, (by decide +kernel : decode prog_1_method_27_code 20 = .ok (.getfield 168, 3)), fl_Pr_St_target⟩
theorem i_Pr_ways_23 : iCallV M_Pr_ways 23 M_Wy_count 3 11 := ⟨⟨269, (by decide +kernel : decode prog_1_method_27_code 23 = .ok (.invokevirtual 269, 3)), lw_k5 7 rfl rfl⟩, vm_Wy_count, me_Wy_count, pn_Wy_count⟩
theorem i_Pr_ways_26 : iIns M_Pr_ways 26 (.lstore_n 2) 1 := (by decide +kernel : decode prog_1_method_27_code 26 = .ok (.lstore_n 2, 1))
theorem i_Pr_ways_27 : iIns M_Pr_ways 27 (.lload_n 2) 1 := (by decide +kernel : decode prog_1_method_27_code 27 = .ok (.lload_n 2, 1))
theorem i_Pr_ways_28 : iLdcL M_Pr_ways 28 (-1) := ⟨273, (by decide +kernel : decode prog_1_method_27_code 28 = .ok (.ldc2_w 273, 3)), lw_k5 31 rfl rfl⟩
theorem i_Pr_ways_31 : iIns M_Pr_ways 31 .lcmp 1 := (by decide +kernel : decode prog_1_method_27_code 31 = .ok (.lcmp, 1))
theorem i_Pr_ways_32 : iIf M_Pr_ways 32 .ne 46 := ⟨14, (by decide +kernel : decode prog_1_method_27_code 32 = .ok (.ifCond .ne (14), 3)), by decide⟩
theorem i_Pr_ways_35 : iThrow M_Pr_ways 35 xAri := ⟨225, 275, 229, "there are more than Long.MAX_VALUE choices", ⟨lw_k4 63 rfl rfl, lw_k4 65 rfl rfl, by decide +kernel⟩, (by decide +kernel : decode prog_1_method_27_code 35 = .ok (.new 225, 3)), (by decide +kernel : decode prog_1_method_27_code 38 = .ok (.dup, 1)), Or.inr ⟨(by decide +kernel : decode prog_1_method_27_code 39 = .ok (.ldc_w 275, 3)), (by decide +kernel : decode prog_1_method_27_code 42 = .ok (.invokespecial 229, 3)), (by decide +kernel : decode prog_1_method_27_code 45 = .ok (.athrow, 1))⟩⟩
theorem i_Pr_ways_46 : iIns M_Pr_ways 46 (.lload_n 2) 1 := (by decide +kernel : decode prog_1_method_27_code 46 = .ok (.lload_n 2, 1))
theorem i_Pr_ways_47 : iIns M_Pr_ways 47 .lreturn 1 := (by decide +kernel : decode prog_1_method_27_code 47 = .ok (.lreturn, 1))
theorem i_Pr_sequenceCount_0 : iIns M_Pr_sequenceCount 0 (.aload_n 0) 1 := (by decide +kernel : decode prog_1_method_28_code 0 = .ok (.aload_n 0, 1))
theorem i_Pr_sequenceCount_1 : iIns M_Pr_sequenceCount 1 (.iload_n 1) 1 := (by decide +kernel : decode prog_1_method_28_code 1 = .ok (.iload_n 1, 1))
theorem i_Pr_sequenceCount_2 : iCallV M_Pr_sequenceCount 2 M_Pr_searchSequences 1 13 := ⟨⟨277, (by decide +kernel : decode prog_1_method_28_code 2 = .ok (.invokevirtual 277, 3)), lw_k5 40 rfl rfl⟩, vm_Pr_searchSequences, me_Pr_searchSequences, pn_Pr_searchSequences⟩
theorem i_Pr_sequenceCount_5 : iIns M_Pr_sequenceCount 5 (.aload_n 0) 1 := (by decide +kernel : decode prog_1_method_28_code 5 = .ok (.aload_n 0, 1))
theorem i_Pr_sequenceCount_6 : iGet M_Pr_sequenceCount 6 13 9 := ⟨71, (by decide +kernel : decode prog_1_method_28_code 6 = .ok (.getfield 71, 3)), fl_Pr_Pr_search⟩
theorem i_Pr_sequenceCount_9 : iGet M_Pr_sequenceCount 9 7 1 := ⟨280, (by decide +kernel : decode prog_1_method_28_code 9 = .ok (.getfield 280, 3)), fl_Pr_Sq_found⟩
theorem i_Pr_sequenceCount_12 : iIns M_Pr_sequenceCount 12 .ireturn 1 := (by decide +kernel : decode prog_1_method_28_code 12 = .ok (.ireturn, 1))
theorem i_Pr_searchSequences_0 : iIns M_Pr_searchSequences 0 (.iload_n 1) 1 := (by decide +kernel : decode prog_1_method_44_code 0 = .ok (.iload_n 1, 1))
theorem i_Pr_searchSequences_1 : iIf M_Pr_searchSequences 1 .lt 9 := ⟨8, (by decide +kernel : decode prog_1_method_44_code 1 = .ok (.ifCond .lt (8), 3)), by decide⟩
theorem i_Pr_searchSequences_4 : iIns M_Pr_searchSequences 4 (.iload_n 1) 1 := (by decide +kernel : decode prog_1_method_44_code 4 = .ok (.iload_n 1, 1))
theorem i_Pr_searchSequences_5 : iIns M_Pr_searchSequences 5 (.iconst 5) 1 := (by decide +kernel : decode prog_1_method_44_code 5 = .ok (.iconst 5, 1))
theorem i_Pr_searchSequences_6 : iIcmp M_Pr_searchSequences 6 .le 20 := ⟨14, (by decide +kernel : decode prog_1_method_44_code 6 = .ok (.if_icmp .le (14), 3)), by decide⟩
theorem i_Pr_searchSequences_9 : iThrow M_Pr_searchSequences 9 xIae := ⟨91, 383, 95, "the number of steps is not from 0 to 5", ⟨lw_k2 196 rfl rfl, lw_k3 1 rfl rfl, by decide +kernel⟩, (by decide +kernel : decode prog_1_method_44_code 9 = .ok (.new 91, 3)), (by decide +kernel : decode prog_1_method_44_code 12 = .ok (.dup, 1)), Or.inr ⟨(by decide +kernel : decode prog_1_method_44_code 13 = .ok (.ldc_w 383, 3)), (by decide +kernel : decode prog_1_method_44_code 16 = .ok (.invokespecial 95, 3)), (by decide +kernel : decode prog_1_method_44_code 19 = .ok (.athrow, 1))⟩⟩
theorem i_Pr_searchSequences_20 : iIns M_Pr_searchSequences 20 (.iconst 0) 1 := (by decide +kernel : decode prog_1_method_44_code 20 = .ok (.iconst 0, 1))
theorem i_Pr_searchSequences_21 : iIns M_Pr_searchSequences 21 (.istore_n 2) 1 := (by decide +kernel : decode prog_1_method_44_code 21 = .ok (.istore_n 2, 1))
theorem i_Pr_searchSequences_22 : iIns M_Pr_searchSequences 22 (.iload_n 2) 1 := (by decide +kernel : decode prog_1_method_44_code 22 = .ok (.iload_n 2, 1))
theorem i_Pr_searchSequences_23 : iIns M_Pr_searchSequences 23 (.iconst 3) 1 := (by decide +kernel : decode prog_1_method_44_code 23 = .ok (.iconst 3, 1))
theorem i_Pr_searchSequences_24 : iIcmp M_Pr_searchSequences 24 .ge 59 := ⟨35, (by decide +kernel : decode prog_1_method_44_code 24 = .ok (.if_icmp .ge (35), 3)), by decide⟩
theorem i_Pr_searchSequences_27 : iIns M_Pr_searchSequences 27 (.aload_n 0) 1 := (by decide +kernel : decode prog_1_method_44_code 27 = .ok (.aload_n 0, 1))
theorem i_Pr_searchSequences_28 : iGet M_Pr_searchSequences 28 13 1 := ⟨19, (by decide +kernel : decode prog_1_method_44_code 28 = .ok (.getfield 19, 3)), fl_Pr_Pr_live⟩
theorem i_Pr_searchSequences_31 : iGet M_Pr_searchSequences 31 8 0 := ⟨362, (by decide +kernel : decode prog_1_method_44_code 31 = .ok (.getfield 362, 3)), fl_Pr_St_tables⟩
theorem i_Pr_searchSequences_34 : iIns M_Pr_searchSequences 34 (.iload_n 2) 1 := (by decide +kernel : decode prog_1_method_44_code 34 = .ok (.iload_n 2, 1))
theorem i_Pr_searchSequences_35 : iIns M_Pr_searchSequences 35 .aaload 1 := (by decide +kernel : decode prog_1_method_44_code 35 = .ok (.aaload, 1))
theorem i_Pr_searchSequences_36 : iCallV M_Pr_searchSequences 36 M_Tb_leavesNoChoice 0 9 := ⟨⟨153, (by decide +kernel : decode prog_1_method_44_code 36 = .ok (.invokevirtual 153, 3)), lw_k3 178 rfl rfl⟩, vm_Tb_leavesNoChoice, me_Tb_leavesNoChoice, pn_Tb_leavesNoChoice⟩
theorem i_Pr_searchSequences_39 : iIf M_Pr_searchSequences 39 .ne 53 := ⟨14, (by decide +kernel : decode prog_1_method_44_code 39 = .ok (.ifCond .ne (14), 3)), by decide⟩
theorem i_Pr_searchSequences_42 : iThrow M_Pr_searchSequences 42 xIse := ⟨102, 385, 106, "a table is not deterministic", ⟨lw_k3 31 rfl rfl, lw_k3 41 rfl rfl, by decide +kernel⟩, (by decide +kernel : decode prog_1_method_44_code 42 = .ok (.new 102, 3)), (by decide +kernel : decode prog_1_method_44_code 45 = .ok (.dup, 1)), Or.inr ⟨(by decide +kernel : decode prog_1_method_44_code 46 = .ok (.ldc_w 385, 3)), (by decide +kernel : decode prog_1_method_44_code 49 = .ok (.invokespecial 106, 3)), (by decide +kernel : decode prog_1_method_44_code 52 = .ok (.athrow, 1))⟩⟩
theorem i_Pr_searchSequences_53 : iIns M_Pr_searchSequences 53 (.iinc 2 (1)) 3 := (by decide +kernel : decode prog_1_method_44_code 53 = .ok (.iinc 2 (1), 3))
theorem i_Pr_searchSequences_56 : iGoto M_Pr_searchSequences 56 22 := ⟨-34, (by decide +kernel : decode prog_1_method_44_code 56 = .ok (.goto (-34), 3)), by decide⟩
theorem i_Pr_searchSequences_59 : iIns M_Pr_searchSequences 59 (.aload_n 0) 1 := (by decide +kernel : decode prog_1_method_44_code 59 = .ok (.aload_n 0, 1))
theorem i_Pr_searchSequences_60 : iGet M_Pr_searchSequences 60 13 9 := ⟨71, (by decide +kernel : decode prog_1_method_44_code 60 = .ok (.getfield 71, 3)), fl_Pr_Pr_search⟩
theorem i_Pr_searchSequences_63 : iIns M_Pr_searchSequences 63 (.aload_n 0) 1 := (by decide +kernel : decode prog_1_method_44_code 63 = .ok (.aload_n 0, 1))
theorem i_Pr_searchSequences_64 : iGet M_Pr_searchSequences 64 13 1 := ⟨19, (by decide +kernel : decode prog_1_method_44_code 64 = .ok (.getfield 19, 3)), fl_Pr_Pr_live⟩
theorem i_Pr_searchSequences_67 : iIns M_Pr_searchSequences 67 (.iload_n 1) 1 := (by decide +kernel : decode prog_1_method_44_code 67 = .ok (.iload_n 1, 1))
theorem i_Pr_searchSequences_68 : iCallV M_Pr_searchSequences 68 M_Sq_run 2 7 := ⟨⟨387, (by decide +kernel : decode prog_1_method_44_code 68 = .ok (.invokevirtual 387, 3)), lw_k5 46 rfl rfl⟩, vm_Sq_run, me_Sq_run, pn_Sq_run⟩
theorem i_Pr_searchSequences_71 : iIns M_Pr_searchSequences 71 .return_ 1 := (by decide +kernel : decode prog_1_method_44_code 71 = .ok (.return_, 1))
theorem i_Pr_firstSequence_0 : iIns M_Pr_firstSequence 0 (.aload_n 0) 1 := (by decide +kernel : decode prog_1_method_29_code 0 = .ok (.aload_n 0, 1))
theorem i_Pr_firstSequence_1 : iIns M_Pr_firstSequence 1 (.iload_n 1) 1 := (by decide +kernel : decode prog_1_method_29_code 1 = .ok (.iload_n 1, 1))
theorem i_Pr_firstSequence_2 : iCallV M_Pr_firstSequence 2 M_Pr_searchSequences 1 13 := ⟨⟨277, (by decide +kernel : decode prog_1_method_29_code 2 = .ok (.invokevirtual 277, 3)), lw_k5 40 rfl rfl⟩, vm_Pr_searchSequences, me_Pr_searchSequences, pn_Pr_searchSequences⟩
theorem i_Pr_firstSequence_5 : iIns M_Pr_firstSequence 5 (.aload_n 0) 1 := (by decide +kernel : decode prog_1_method_29_code 5 = .ok (.aload_n 0, 1))
theorem i_Pr_firstSequence_6 : iGet M_Pr_firstSequence 6 13 9 := ⟨71, (by decide +kernel : decode prog_1_method_29_code 6 = .ok (.getfield 71, 3)), fl_Pr_Pr_search⟩
theorem i_Pr_firstSequence_9 : iGet M_Pr_firstSequence 9 7 2 := ⟨283, (by decide +kernel : decode prog_1_method_29_code 9 = .ok (.getfield 283, 3)), fl_Pr_Sq_first⟩
theorem i_Pr_firstSequence_12 : iIns M_Pr_firstSequence 12 (.iconst (-1)) 1 := (by decide +kernel : decode prog_1_method_29_code 12 = .ok (.iconst (-1), 1))
theorem i_Pr_firstSequence_13 : iIcmp M_Pr_firstSequence 13 .ne 27 := ⟨14, (by decide +kernel : decode prog_1_method_29_code 13 = .ok (.if_icmp .ne (14), 3)), by decide⟩
theorem i_Pr_firstSequence_16 : iThrow M_Pr_firstSequence 16 xNse := ⟨240, 286, 244, "no sequence leads to the target word", ⟨lw_k4 162 rfl rfl, lw_k4 172 rfl rfl, by decide +kernel⟩, (by decide +kernel : decode prog_1_method_29_code 16 = .ok (.new 240, 3)), (by decide +kernel : decode prog_1_method_29_code 19 = .ok (.dup, 1)), Or.inr ⟨(by decide +kernel : decode prog_1_method_29_code 20 = .ok (.ldc_w 286, 3)), (by decide +kernel : decode prog_1_method_29_code 23 = .ok (.invokespecial 244, 3)), (by decide +kernel : decode prog_1_method_29_code 26 = .ok (.athrow, 1))⟩⟩
theorem i_Pr_firstSequence_27 : iIns M_Pr_firstSequence 27 (.aload_n 0) 1 := (by decide +kernel : decode prog_1_method_29_code 27 = .ok (.aload_n 0, 1))
theorem i_Pr_firstSequence_28 : iGet M_Pr_firstSequence 28 13 9 := ⟨71, (by decide +kernel : decode prog_1_method_29_code 28 = .ok (.getfield 71, 3)), fl_Pr_Pr_search⟩
theorem i_Pr_firstSequence_31 : iGet M_Pr_firstSequence 31 7 2 := ⟨283, (by decide +kernel : decode prog_1_method_29_code 31 = .ok (.getfield 283, 3)), fl_Pr_Sq_first⟩
theorem i_Pr_firstSequence_34 : iIns M_Pr_firstSequence 34 .ireturn 1 := (by decide +kernel : decode prog_1_method_29_code 34 = .ok (.ireturn, 1))
theorem i_Pr_setCommand_0 : iIns M_Pr_setCommand 0 (.iload_n 1) 1 := (by decide +kernel : decode prog_1_method_30_code 0 = .ok (.iload_n 1, 1))
theorem i_Pr_setCommand_1 : iCallS M_Pr_setCommand 1 M_Pr_checkLetter 1 := ⟨⟨115, (by decide +kernel : decode prog_1_method_30_code 1 = .ok (.invokestatic 115, 3)), lw_k3 95 rfl rfl⟩, sm_Pr_checkLetter, me_Pr_checkLetter, pn_Pr_checkLetter⟩
theorem i_Pr_setCommand_4 : iIns M_Pr_setCommand 4 (.aload_n 0) 1 := (by decide +kernel : decode prog_1_method_30_code 4 = .ok (.aload_n 0, 1))
theorem i_Pr_setCommand_5 : iCallV M_Pr_setCommand 5 M_Pr_commandInText 0 13 := ⟨⟨288, (by decide +kernel : decode prog_1_method_30_code 5 = .ok (.invokevirtual 288, 3)), lw_k5 73 rfl rfl⟩, vm_Pr_commandInText, me_Pr_commandInText, pn_Pr_commandInText⟩
theorem i_Pr_setCommand_8 : iIns M_Pr_setCommand 8 (.istore_n 2) 1 := (by decide +kernel : decode prog_1_method_30_code 8 = .ok (.istore_n 2, 1))
theorem i_Pr_setCommand_9 : iIns M_Pr_setCommand 9 (.iload_n 2) 1 := (by decide +kernel : decode prog_1_method_30_code 9 = .ok (.iload_n 2, 1))
theorem i_Pr_setCommand_10 : iIns M_Pr_setCommand 10 (.iconst (-1)) 1 := (by decide +kernel : decode prog_1_method_30_code 10 = .ok (.iconst (-1), 1))
theorem i_Pr_setCommand_11 : iIcmp M_Pr_setCommand 11 .ne 25 := ⟨14, (by decide +kernel : decode prog_1_method_30_code 11 = .ok (.if_icmp .ne (14), 3)), by decide⟩
theorem i_Pr_setCommand_14 : iThrow M_Pr_setCommand 14 xIae := ⟨91, 292, 95, "the text is not the name of a command", ⟨lw_k2 196 rfl rfl, lw_k3 1 rfl rfl, by decide +kernel⟩, (by decide +kernel : decode prog_1_method_30_code 14 = .ok (.new 91, 3)), (by decide +kernel : decode prog_1_method_30_code 17 = .ok (.dup, 1)), Or.inr ⟨(by decide +kernel : decode prog_1_method_30_code 18 = .ok (.ldc_w 292, 3)), (by decide +kernel : decode prog_1_method_30_code 21 = .ok (.invokespecial 95, 3)), (by decide +kernel : decode prog_1_method_30_code 24 = .ok (.athrow, 1))⟩⟩
theorem i_Pr_setCommand_25 : iIns M_Pr_setCommand 25 (.aload_n 0) 1 := (by decide +kernel : decode prog_1_method_30_code 25 = .ok (.aload_n 0, 1))
theorem i_Pr_setCommand_26 : iGet M_Pr_setCommand 26 13 1 := ⟨19, (by decide +kernel : decode prog_1_method_30_code 26 = .ok (.getfield 19, 3)), fl_Pr_Pr_live⟩
theorem i_Pr_setCommand_29 : iGet M_Pr_setCommand 29 8 3 := ⟨294, (by decide +kernel : decode prog_1_method_30_code 29 = .ok (.getfield 294, 3)), fl_Pr_St_commands⟩
theorem i_Pr_setCommand_32 : iIns M_Pr_setCommand 32 (.iload_n 1) 1 := (by decide +kernel : decode prog_1_method_30_code 32 = .ok (.iload_n 1, 1))
theorem i_Pr_setCommand_33 : iIns M_Pr_setCommand 33 (.iload_n 2) 1 := (by decide +kernel : decode prog_1_method_30_code 33 = .ok (.iload_n 2, 1))
theorem i_Pr_setCommand_34 : iIns M_Pr_setCommand 34 .iastore 1 := (by decide +kernel : decode prog_1_method_30_code 34 = .ok (.iastore, 1))
theorem i_Pr_setCommand_35 : iIns M_Pr_setCommand 35 .return_ 1 := (by decide +kernel : decode prog_1_method_30_code 35 = .ok (.return_, 1))
theorem i_Pr_commandInText_0 : iIns M_Pr_commandInText 0 (.iconst 0) 1 := (by decide +kernel : decode prog_1_method_45_code 0 = .ok (.iconst 0, 1))
theorem i_Pr_commandInText_1 : iIns M_Pr_commandInText 1 (.istore_n 1) 1 := (by decide +kernel : decode prog_1_method_45_code 1 = .ok (.istore_n 1, 1))
theorem i_Pr_commandInText_2 : iIns M_Pr_commandInText 2 (.iload_n 1) 1 := (by decide +kernel : decode prog_1_method_45_code 2 = .ok (.iload_n 1, 1))
theorem i_Pr_commandInText_3 : iIns M_Pr_commandInText 3 (.bipush 7) 2 := (by decide +kernel : decode prog_1_method_45_code 3 = .ok (.bipush 7, 2))
theorem i_Pr_commandInText_5 : iIcmp M_Pr_commandInText 5 .ge 30 := ⟨25, (by decide +kernel : decode prog_1_method_45_code 5 = .ok (.if_icmp .ge (25), 3)), by decide⟩
theorem i_Pr_commandInText_8 : iIns M_Pr_commandInText 8 (.aload_n 0) 1 := (by decide +kernel : decode prog_1_method_45_code 8 = .ok (.aload_n 0, 1))
theorem i_Pr_commandInText_9 : iGet M_Pr_commandInText 9 13 0 := ⟨12, (by decide +kernel : decode prog_1_method_45_code 9 = .ok (.getfield 12, 3)), fl_Pr_Pr_text⟩
theorem i_Pr_commandInText_12 : iIns M_Pr_commandInText 12 (.iload_n 1) 1 := (by decide +kernel : decode prog_1_method_45_code 12 = .ok (.iload_n 1, 1))
theorem i_Pr_commandInText_13 : iCallS M_Pr_commandInText 13 M_Pr_commandName 1 := ⟨⟨391, (by decide +kernel : decode prog_1_method_45_code 13 = .ok (.invokestatic 391, 3)), lw_k5 77 rfl rfl⟩, sm_Pr_commandName, me_Pr_commandName, pn_Pr_commandName⟩
theorem i_Pr_commandInText_16 : iCallV M_Pr_commandInText 16 M_Tx_says 1 10 := ⟨⟨395, (by decide +kernel : decode prog_1_method_45_code 16 = .ok (.invokevirtual 395, 3)), lw_k5 87 rfl rfl⟩, vm_Tx_says, me_Tx_says, pn_Tx_says⟩
theorem i_Pr_commandInText_19 : iIf M_Pr_commandInText 19 .eq 24 := ⟨5, (by decide +kernel : decode prog_1_method_45_code 19 = .ok (.ifCond .eq (5), 3)), by decide⟩
theorem i_Pr_commandInText_22 : iIns M_Pr_commandInText 22 (.iload_n 1) 1 := (by decide +kernel : decode prog_1_method_45_code 22 = .ok (.iload_n 1, 1))
theorem i_Pr_commandInText_23 : iIns M_Pr_commandInText 23 .ireturn 1 := (by decide +kernel : decode prog_1_method_45_code 23 = .ok (.ireturn, 1))
theorem i_Pr_commandInText_24 : iIns M_Pr_commandInText 24 (.iinc 1 (1)) 3 := (by decide +kernel : decode prog_1_method_45_code 24 = .ok (.iinc 1 (1), 3))
theorem i_Pr_commandInText_27 : iGoto M_Pr_commandInText 27 2 := ⟨-25, (by decide +kernel : decode prog_1_method_45_code 27 = .ok (.goto (-25), 3)), by decide⟩
theorem i_Pr_commandInText_30 : iIns M_Pr_commandInText 30 (.iconst (-1)) 1 := (by decide +kernel : decode prog_1_method_45_code 30 = .ok (.iconst (-1), 1))
theorem i_Pr_commandInText_31 : iIns M_Pr_commandInText 31 .ireturn 1 := (by decide +kernel : decode prog_1_method_45_code 31 = .ok (.ireturn, 1))
theorem i_Pr_commandName_0 : iIns M_Pr_commandName 0 (.iload_n 0) 1 := (by decide +kernel : decode prog_1_method_46_code 0 = .ok (.iload_n 0, 1))
theorem i_Pr_commandName_1 : decode prog_1_method_46_code 1 = .ok (.tableswitch (63) (1) (6) #[39, 43, 47, 51, 55, 59], 39) := by decide +kernel
theorem i_Pr_commandName_40 : iLdcS M_Pr_commandName 40 1 3 := ⟨399, Or.inr ⟨(by decide +kernel : decode prog_1_method_46_code 40 = .ok (.ldc_w 399, 3)), rfl⟩, by decide +kernel⟩
theorem i_Pr_commandName_43 : iIns M_Pr_commandName 43 .areturn 1 := (by decide +kernel : decode prog_1_method_46_code 43 = .ok (.areturn, 1))
theorem i_Pr_commandName_44 : iLdcS M_Pr_commandName 44 2 3 := ⟨401, Or.inr ⟨(by decide +kernel : decode prog_1_method_46_code 44 = .ok (.ldc_w 401, 3)), rfl⟩, by decide +kernel⟩
theorem i_Pr_commandName_47 : iIns M_Pr_commandName 47 .areturn 1 := (by decide +kernel : decode prog_1_method_46_code 47 = .ok (.areturn, 1))
theorem i_Pr_commandName_48 : iLdcS M_Pr_commandName 48 3 3 := ⟨403, Or.inr ⟨(by decide +kernel : decode prog_1_method_46_code 48 = .ok (.ldc_w 403, 3)), rfl⟩, by decide +kernel⟩
theorem i_Pr_commandName_51 : iIns M_Pr_commandName 51 .areturn 1 := (by decide +kernel : decode prog_1_method_46_code 51 = .ok (.areturn, 1))
theorem i_Pr_commandName_52 : iLdcS M_Pr_commandName 52 4 3 := ⟨405, Or.inr ⟨(by decide +kernel : decode prog_1_method_46_code 52 = .ok (.ldc_w 405, 3)), rfl⟩, by decide +kernel⟩
theorem i_Pr_commandName_55 : iIns M_Pr_commandName 55 .areturn 1 := (by decide +kernel : decode prog_1_method_46_code 55 = .ok (.areturn, 1))
theorem i_Pr_commandName_56 : iLdcS M_Pr_commandName 56 5 3 := ⟨407, Or.inr ⟨(by decide +kernel : decode prog_1_method_46_code 56 = .ok (.ldc_w 407, 3)), rfl⟩, by decide +kernel⟩
theorem i_Pr_commandName_59 : iIns M_Pr_commandName 59 .areturn 1 := (by decide +kernel : decode prog_1_method_46_code 59 = .ok (.areturn, 1))
theorem i_Pr_commandName_60 : iLdcS M_Pr_commandName 60 6 3 := ⟨409, Or.inr ⟨(by decide +kernel : decode prog_1_method_46_code 60 = .ok (.ldc_w 409, 3)), rfl⟩, by decide +kernel⟩
theorem i_Pr_commandName_63 : iIns M_Pr_commandName 63 .areturn 1 := (by decide +kernel : decode prog_1_method_46_code 63 = .ok (.areturn, 1))
theorem i_Pr_commandName_64 : iLdcS M_Pr_commandName 64 0 3 := ⟨411, Or.inr ⟨(by decide +kernel : decode prog_1_method_46_code 64 = .ok (.ldc_w 411, 3)), rfl⟩, by decide +kernel⟩
theorem i_Pr_commandName_67 : iIns M_Pr_commandName 67 .areturn 1 := (by decide +kernel : decode prog_1_method_46_code 67 = .ok (.areturn, 1))
theorem i_Pr_segmentCount_0 : iIns M_Pr_segmentCount 0 (.aload_n 0) 1 := (by decide +kernel : decode prog_1_method_31_code 0 = .ok (.aload_n 0, 1))
theorem i_Pr_segmentCount_1 : iCallV M_Pr_segmentCount 1 M_Pr_drawFigure 0 13 := ⟨⟨297, (by decide +kernel : decode prog_1_method_31_code 1 = .ok (.invokevirtual 297, 3)), lw_k5 147 rfl rfl⟩, vm_Pr_drawFigure, me_Pr_drawFigure, pn_Pr_drawFigure⟩
theorem i_Pr_segmentCount_4 : iIns M_Pr_segmentCount 4 (.aload_n 0) 1 := (by decide +kernel : decode prog_1_method_31_code 4 = .ok (.aload_n 0, 1))
theorem i_Pr_segmentCount_5 : iGet M_Pr_segmentCount 5 13 10 := ⟨78, (by decide +kernel : decode prog_1_method_31_code 5 = .ok (.getfield 78, 3)), fl_Pr_Pr_figure⟩
theorem i_Pr_segmentCount_8 : iGet M_Pr_segmentCount 8 3 4 := ⟨300, (by decide +kernel : decode prog_1_method_31_code 8 = .ok (.getfield 300, 3)), fl_Pr_Fi_segments⟩
theorem i_Pr_segmentCount_11 : iIns M_Pr_segmentCount 11 .ireturn 1 := (by decide +kernel : decode prog_1_method_31_code 11 = .ok (.ireturn, 1))
theorem i_Pr_drawFigure_0 : iIns M_Pr_drawFigure 0 (.aload_n 0) 1 := (by decide +kernel : decode prog_1_method_47_code 0 = .ok (.aload_n 0, 1))
theorem i_Pr_drawFigure_1 : iGet M_Pr_drawFigure 1 13 10 := ⟨78, (by decide +kernel : decode prog_1_method_47_code 1 = .ok (.getfield 78, 3)), fl_Pr_Pr_figure⟩
theorem i_Pr_drawFigure_4 : iIns M_Pr_drawFigure 4 (.aload_n 0) 1 := (by decide +kernel : decode prog_1_method_47_code 4 = .ok (.aload_n 0, 1))
theorem i_Pr_drawFigure_5 : iGet M_Pr_drawFigure 5 13 1 := ⟨19, (by decide +kernel : decode prog_1_method_47_code 5 = .ok (.getfield 19, 3)), fl_Pr_Pr_live⟩
theorem i_Pr_drawFigure_8 : iGet M_Pr_drawFigure 8 8 1 := ⟨157, (by decide +kernel : decode prog_1_method_47_code 8 = .ok (.getfield 157, 3)), fl_Pr_St_current⟩
theorem i_Pr_drawFigure_11 : iIns M_Pr_drawFigure 11 (.aload_n 0) 1 := (by decide +kernel : decode prog_1_method_47_code 11 = .ok (.aload_n 0, 1))
theorem i_Pr_drawFigure_12 : iGet M_Pr_drawFigure 12 13 1 := ⟨19, (by decide +kernel : decode prog_1_method_47_code 12 = .ok (.getfield 19, 3)), fl_Pr_Pr_live⟩
theorem i_Pr_drawFigure_15 : iGet M_Pr_drawFigure 15 8 3 := ⟨294, (by decide +kernel : decode prog_1_method_47_code 15 = .ok (.getfield 294, 3)), fl_Pr_St_commands⟩
theorem i_Pr_drawFigure_18 : iCallV M_Pr_drawFigure 18 M_Fi_draw 2 3 := ⟨⟨413, (by decide +kernel : decode prog_1_method_47_code 18 = .ok (.invokevirtual 413, 3)), lw_k5 151 rfl rfl⟩, vm_Fi_draw, me_Fi_draw, pn_Fi_draw⟩
theorem i_Pr_drawFigure_21 : iIf M_Pr_drawFigure 21 .ne 35 := ⟨14, (by decide +kernel : decode prog_1_method_47_code 21 = .ok (.ifCond .ne (14), 3)), by decide⟩
theorem i_Pr_drawFigure_24 : iThrow M_Pr_drawFigure 24 xIse := ⟨102, 416, 106, "the word has no figure", ⟨lw_k3 31 rfl rfl, lw_k3 41 rfl rfl, by decide +kernel⟩, (by decide +kernel : decode prog_1_method_47_code 24 = .ok (.new 102, 3)), (by decide +kernel : decode prog_1_method_47_code 27 = .ok (.dup, 1)), Or.inr ⟨(by decide +kernel : decode prog_1_method_47_code 28 = .ok (.ldc_w 416, 3)), (by decide +kernel : decode prog_1_method_47_code 31 = .ok (.invokespecial 106, 3)), (by decide +kernel : decode prog_1_method_47_code 34 = .ok (.athrow, 1))⟩⟩
theorem i_Pr_drawFigure_35 : iIns M_Pr_drawFigure 35 .return_ 1 := (by decide +kernel : decode prog_1_method_47_code 35 = .ok (.return_, 1))
theorem i_Pr_inkLength_0 : iIns M_Pr_inkLength 0 (.aload_n 0) 1 := (by decide +kernel : decode prog_1_method_32_code 0 = .ok (.aload_n 0, 1))
theorem i_Pr_inkLength_1 : iCallV M_Pr_inkLength 1 M_Pr_drawFigure 0 13 := ⟨⟨297, (by decide +kernel : decode prog_1_method_32_code 1 = .ok (.invokevirtual 297, 3)), lw_k5 147 rfl rfl⟩, vm_Pr_drawFigure, me_Pr_drawFigure, pn_Pr_drawFigure⟩
theorem i_Pr_inkLength_4 : iIns M_Pr_inkLength 4 (.aload_n 0) 1 := (by decide +kernel : decode prog_1_method_32_code 4 = .ok (.aload_n 0, 1))
theorem i_Pr_inkLength_5 : iGet M_Pr_inkLength 5 13 10 := ⟨78, (by decide +kernel : decode prog_1_method_32_code 5 = .ok (.getfield 78, 3)), fl_Pr_Pr_figure⟩
theorem i_Pr_inkLength_8 : iGet M_Pr_inkLength 8 3 5 := ⟨303, (by decide +kernel : decode prog_1_method_32_code 8 = .ok (.getfield 303, 3)), fl_Pr_Fi_ink⟩
theorem i_Pr_inkLength_11 : iIns M_Pr_inkLength 11 .dreturn 1 := (by decide +kernel : decode prog_1_method_32_code 11 = .ok (.dreturn, 1))
theorem i_Pr_extent_0 : iIns M_Pr_extent 0 (.iload_n 1) 1 := (by decide +kernel : decode prog_1_method_33_code 0 = .ok (.iload_n 1, 1))
theorem i_Pr_extent_1 : iIf M_Pr_extent 1 .lt 9 := ⟨8, (by decide +kernel : decode prog_1_method_33_code 1 = .ok (.ifCond .lt (8), 3)), by decide⟩
theorem i_Pr_extent_4 : iIns M_Pr_extent 4 (.iload_n 1) 1 := (by decide +kernel : decode prog_1_method_33_code 4 = .ok (.iload_n 1, 1))
theorem i_Pr_extent_5 : iIns M_Pr_extent 5 (.iconst 3) 1 := (by decide +kernel : decode prog_1_method_33_code 5 = .ok (.iconst 3, 1))
theorem i_Pr_extent_6 : iIcmp M_Pr_extent 6 .le 20 := ⟨14, (by decide +kernel : decode prog_1_method_33_code 6 = .ok (.if_icmp .le (14), 3)), by decide⟩
theorem i_Pr_extent_9 : iThrow M_Pr_extent 9 xIae := ⟨91, 307, 95, "side is not from 0 to 3", ⟨lw_k2 196 rfl rfl, lw_k3 1 rfl rfl, by decide +kernel⟩, (by decide +kernel : decode prog_1_method_33_code 9 = .ok (.new 91, 3)), (by decide +kernel : decode prog_1_method_33_code 12 = .ok (.dup, 1)), Or.inr ⟨(by decide +kernel : decode prog_1_method_33_code 13 = .ok (.ldc_w 307, 3)), (by decide +kernel : decode prog_1_method_33_code 16 = .ok (.invokespecial 95, 3)), (by decide +kernel : decode prog_1_method_33_code 19 = .ok (.athrow, 1))⟩⟩
theorem i_Pr_extent_20 : iIns M_Pr_extent 20 (.aload_n 0) 1 := (by decide +kernel : decode prog_1_method_33_code 20 = .ok (.aload_n 0, 1))
theorem i_Pr_extent_21 : iCallV M_Pr_extent 21 M_Pr_drawFigure 0 13 := ⟨⟨297, (by decide +kernel : decode prog_1_method_33_code 21 = .ok (.invokevirtual 297, 3)), lw_k5 147 rfl rfl⟩, vm_Pr_drawFigure, me_Pr_drawFigure, pn_Pr_drawFigure⟩
theorem i_Pr_extent_24 : iIns M_Pr_extent 24 (.iload_n 1) 1 := (by decide +kernel : decode prog_1_method_33_code 24 = .ok (.iload_n 1, 1))
theorem i_Pr_extent_25 : iIns M_Pr_extent 25 (.iconst 2) 1 := (by decide +kernel : decode prog_1_method_33_code 25 = .ok (.iconst 2, 1))
theorem i_Pr_extent_26 : iIcmp M_Pr_extent 26 .ge 39 := ⟨13, (by decide +kernel : decode prog_1_method_33_code 26 = .ok (.if_icmp .ge (13), 3)), by decide⟩
theorem i_Pr_extent_29 : iIns M_Pr_extent 29 (.aload_n 0) 1 := (by decide +kernel : decode prog_1_method_33_code 29 = .ok (.aload_n 0, 1))
theorem i_Pr_extent_30 : iGet M_Pr_extent 30 13 10 := ⟨78, (by decide +kernel : decode prog_1_method_33_code 30 = .ok (.getfield 78, 3)), fl_Pr_Pr_figure⟩
theorem i_Pr_extent_33 : iGet M_Pr_extent 33 3 0 := ⟨309, (by decide +kernel : decode prog_1_method_33_code 33 = .ok (.getfield 309, 3)), fl_Pr_Fi_xs⟩
theorem i_Pr_extent_36 : iGoto M_Pr_extent 36 46 := ⟨10, (by decide +kernel : decode prog_1_method_33_code 36 = .ok (.goto (10), 3)), by decide⟩
theorem i_Pr_extent_39 : iIns M_Pr_extent 39 (.aload_n 0) 1 := (by decide +kernel : decode prog_1_method_33_code 39 = .ok (.aload_n 0, 1))
theorem i_Pr_extent_40 : iGet M_Pr_extent 40 13 10 := ⟨78, (by decide +kernel : decode prog_1_method_33_code 40 = .ok (.getfield 78, 3)), fl_Pr_Pr_figure⟩
theorem i_Pr_extent_43 : iGet M_Pr_extent 43 3 1 := ⟨313, (by decide +kernel : decode prog_1_method_33_code 43 = .ok (.getfield 313, 3)), fl_Pr_Fi_ys⟩
theorem i_Pr_extent_46 : iIns M_Pr_extent 46 (.astore_n 2) 1 := (by decide +kernel : decode prog_1_method_33_code 46 = .ok (.astore_n 2, 1))
theorem i_Pr_extent_47 : iIns M_Pr_extent 47 (.iload_n 1) 1 := (by decide +kernel : decode prog_1_method_33_code 47 = .ok (.iload_n 1, 1))
theorem i_Pr_extent_48 : iIns M_Pr_extent 48 (.iconst 2) 1 := (by decide +kernel : decode prog_1_method_33_code 48 = .ok (.iconst 2, 1))
theorem i_Pr_extent_49 : iIns M_Pr_extent 49 .irem 1 := (by decide +kernel : decode prog_1_method_33_code 49 = .ok (.irem, 1))
theorem i_Pr_extent_50 : iIf M_Pr_extent 50 .ne 64 := ⟨14, (by decide +kernel : decode prog_1_method_33_code 50 = .ok (.ifCond .ne (14), 3)), by decide⟩
theorem i_Pr_extent_53 : iIns M_Pr_extent 53 (.aload_n 0) 1 := (by decide +kernel : decode prog_1_method_33_code 53 = .ok (.aload_n 0, 1))
theorem i_Pr_extent_54 : iGet M_Pr_extent 54 13 10 := ⟨78, (by decide +kernel : decode prog_1_method_33_code 54 = .ok (.getfield 78, 3)), fl_Pr_Pr_figure⟩
theorem i_Pr_extent_57 : iIns M_Pr_extent 57 (.aload_n 2) 1 := (by decide +kernel : decode prog_1_method_33_code 57 = .ok (.aload_n 2, 1))
theorem i_Pr_extent_58 : iCallV M_Pr_extent 58 M_Fi_lowest 1 3 := ⟨⟨316, (by decide +kernel : decode prog_1_method_33_code 58 = .ok (.invokevirtual 316, 3)), lw_k5 209 rfl rfl⟩, vm_Fi_lowest, me_Fi_lowest, pn_Fi_lowest⟩
theorem i_Pr_extent_61 : iGoto M_Pr_extent 61 72 := ⟨11, (by decide +kernel : decode prog_1_method_33_code 61 = .ok (.goto (11), 3)), by decide⟩
theorem i_Pr_extent_64 : iIns M_Pr_extent 64 (.aload_n 0) 1 := (by decide +kernel : decode prog_1_method_33_code 64 = .ok (.aload_n 0, 1))
theorem i_Pr_extent_65 : iGet M_Pr_extent 65 13 10 := ⟨78, (by decide +kernel : decode prog_1_method_33_code 65 = .ok (.getfield 78, 3)), fl_Pr_Pr_figure⟩
theorem i_Pr_extent_68 : iIns M_Pr_extent 68 (.aload_n 2) 1 := (by decide +kernel : decode prog_1_method_33_code 68 = .ok (.aload_n 2, 1))
theorem i_Pr_extent_69 : iCallV M_Pr_extent 69 M_Fi_greatest 1 3 := ⟨⟨320, (by decide +kernel : decode prog_1_method_33_code 69 = .ok (.invokevirtual 320, 3)), lw_k5 213 rfl rfl⟩, vm_Fi_greatest, me_Fi_greatest, pn_Fi_greatest⟩
theorem i_Pr_extent_72 : iIns M_Pr_extent 72 .dreturn 1 := (by decide +kernel : decode prog_1_method_33_code 72 = .ok (.dreturn, 1))
theorem i_Pr_openDepth_0 : iIns M_Pr_openDepth 0 (.aload_n 0) 1 := (by decide +kernel : decode prog_1_method_34_code 0 = .ok (.aload_n 0, 1))
theorem i_Pr_openDepth_1 : iCallV M_Pr_openDepth 1 M_Pr_drawFigure 0 13 := ⟨⟨297, (by decide +kernel : decode prog_1_method_34_code 1 = .ok (.invokevirtual 297, 3)), lw_k5 147 rfl rfl⟩, vm_Pr_drawFigure, me_Pr_drawFigure, pn_Pr_drawFigure⟩
theorem i_Pr_openDepth_4 : iIns M_Pr_openDepth 4 (.aload_n 0) 1 := (by decide +kernel : decode prog_1_method_34_code 4 = .ok (.aload_n 0, 1))
theorem i_Pr_openDepth_5 : iGet M_Pr_openDepth 5 13 10 := ⟨78, (by decide +kernel : decode prog_1_method_34_code 5 = .ok (.getfield 78, 3)), fl_Pr_Pr_figure⟩
theorem i_Pr_openDepth_8 : iGet M_Pr_openDepth 8 3 9 := ⟨323, (by decide +kernel : decode prog_1_method_34_code 8 = .ok (.getfield 323, 3)), fl_Pr_Fi_deepest⟩
theorem i_Pr_openDepth_11 : iIns M_Pr_openDepth 11 .ireturn 1 := (by decide +kernel : decode prog_1_method_34_code 11 = .ok (.ireturn, 1))
theorem i_Pr_keepPoints_0 : iIns M_Pr_keepPoints 0 (.iload_n 1) 1 := (by decide +kernel : decode prog_1_method_35_code 0 = .ok (.iload_n 1, 1))
theorem i_Pr_keepPoints_1 : iIf M_Pr_keepPoints 1 .lt 9 := ⟨8, (by decide +kernel : decode prog_1_method_35_code 1 = .ok (.ifCond .lt (8), 3)), by decide⟩
theorem i_Pr_keepPoints_4 : iIns M_Pr_keepPoints 4 (.iload_n 1) 1 := (by decide +kernel : decode prog_1_method_35_code 4 = .ok (.iload_n 1, 1))
theorem i_Pr_keepPoints_5 : iIns M_Pr_keepPoints 5 (.iconst 2) 1 := (by decide +kernel : decode prog_1_method_35_code 5 = .ok (.iconst 2, 1))
theorem i_Pr_keepPoints_6 : iIcmp M_Pr_keepPoints 6 .lt 20 := ⟨14, (by decide +kernel : decode prog_1_method_35_code 6 = .ok (.if_icmp .lt (14), 3)), by decide⟩
theorem i_Pr_keepPoints_9 : iThrow M_Pr_keepPoints 9 xIob := ⟨171, 326, 175, "no such row", ⟨lw_k3 82 rfl rfl, lw_k3 92 rfl rfl, by decide +kernel⟩, (by decide +kernel : decode prog_1_method_35_code 9 = .ok (.new 171, 3)), (by decide +kernel : decode prog_1_method_35_code 12 = .ok (.dup, 1)), Or.inr ⟨(by decide +kernel : decode prog_1_method_35_code 13 = .ok (.ldc_w 326, 3)), (by decide +kernel : decode prog_1_method_35_code 16 = .ok (.invokespecial 175, 3)), (by decide +kernel : decode prog_1_method_35_code 19 = .ok (.athrow, 1))⟩⟩
theorem i_Pr_keepPoints_20 : iIns M_Pr_keepPoints 20 (.aload_n 0) 1 := (by decide +kernel : decode prog_1_method_35_code 20 = .ok (.aload_n 0, 1))
theorem i_Pr_keepPoints_21 : iCallV M_Pr_keepPoints 21 M_Pr_drawFigure 0 13 := ⟨⟨297, (by decide +kernel : decode prog_1_method_35_code 21 = .ok (.invokevirtual 297, 3)), lw_k5 147 rfl rfl⟩, vm_Pr_drawFigure, me_Pr_drawFigure, pn_Pr_drawFigure⟩
theorem i_Pr_keepPoints_24 : iIns M_Pr_keepPoints 24 (.aload_n 0) 1 := (by decide +kernel : decode prog_1_method_35_code 24 = .ok (.aload_n 0, 1))
theorem i_Pr_keepPoints_25 : iGet M_Pr_keepPoints 25 13 11 := ⟨84, (by decide +kernel : decode prog_1_method_35_code 25 = .ok (.getfield 84, 3)), fl_Pr_Pr_rows⟩
theorem i_Pr_keepPoints_28 : iIns M_Pr_keepPoints 28 (.iload_n 1) 1 := (by decide +kernel : decode prog_1_method_35_code 28 = .ok (.iload_n 1, 1))
theorem i_Pr_keepPoints_29 : iIns M_Pr_keepPoints 29 .aaload 1 := (by decide +kernel : decode prog_1_method_35_code 29 = .ok (.aaload, 1))
theorem i_Pr_keepPoints_30 : iIns M_Pr_keepPoints 30 (.astore_n 3) 1 := (by decide +kernel : decode prog_1_method_35_code 30 = .ok (.astore_n 3, 1))
theorem i_Pr_keepPoints_31 : iIns M_Pr_keepPoints 31 (.iconst 0) 1 := (by decide +kernel : decode prog_1_method_35_code 31 = .ok (.iconst 0, 1))
theorem i_Pr_keepPoints_32 : iIns M_Pr_keepPoints 32 (.istore 4) 2 := (by decide +kernel : decode prog_1_method_35_code 32 = .ok (.istore 4, 2))
theorem i_Pr_keepPoints_34 : iIns M_Pr_keepPoints 34 (.iload 4) 2 := (by decide +kernel : decode prog_1_method_35_code 34 = .ok (.iload 4, 2))
theorem i_Pr_keepPoints_36 : iIns M_Pr_keepPoints 36 (.aload_n 0) 1 := (by decide +kernel : decode prog_1_method_35_code 36 = .ok (.aload_n 0, 1))
theorem i_Pr_keepPoints_37 : iGet M_Pr_keepPoints 37 13 10 := ⟨78, (by decide +kernel : decode prog_1_method_35_code 37 = .ok (.getfield 78, 3)), fl_Pr_Pr_figure⟩
theorem i_Pr_keepPoints_40 : iGet M_Pr_keepPoints 40 3 2 := ⟨328, (by decide +kernel : decode prog_1_method_35_code 40 = .ok (.getfield 328, 3)), fl_Pr_Fi_points⟩
theorem i_Pr_keepPoints_43 : iIcmp M_Pr_keepPoints 43 .ge 94 := ⟨51, (by decide +kernel : decode prog_1_method_35_code 43 = .ok (.if_icmp .ge (51), 3)), by decide⟩
theorem i_Pr_keepPoints_46 : iIns M_Pr_keepPoints 46 (.aload_n 3) 1 := (by decide +kernel : decode prog_1_method_35_code 46 = .ok (.aload_n 3, 1))
theorem i_Pr_keepPoints_47 : iIns M_Pr_keepPoints 47 (.iconst 2) 1 := (by decide +kernel : decode prog_1_method_35_code 47 = .ok (.iconst 2, 1))
theorem i_Pr_keepPoints_48 : iIns M_Pr_keepPoints 48 (.iload 4) 2 := (by decide +kernel : decode prog_1_method_35_code 48 = .ok (.iload 4, 2))
theorem i_Pr_keepPoints_50 : iIns M_Pr_keepPoints 50 .imul 1 := (by decide +kernel : decode prog_1_method_35_code 50 = .ok (.imul, 1))
theorem i_Pr_keepPoints_51 : iIns M_Pr_keepPoints 51 (.aload_n 0) 1 := (by decide +kernel : decode prog_1_method_35_code 51 = .ok (.aload_n 0, 1))
theorem i_Pr_keepPoints_52 : iGet M_Pr_keepPoints 52 13 10 := ⟨78, (by decide +kernel : decode prog_1_method_35_code 52 = .ok (.getfield 78, 3)), fl_Pr_Pr_figure⟩
theorem i_Pr_keepPoints_55 : iGet M_Pr_keepPoints 55 3 0 := ⟨309, (by decide +kernel : decode prog_1_method_35_code 55 = .ok (.getfield 309, 3)), fl_Pr_Fi_xs⟩
theorem i_Pr_keepPoints_58 : iIns M_Pr_keepPoints 58 (.iload 4) 2 := (by decide +kernel : decode prog_1_method_35_code 58 = .ok (.iload 4, 2))
theorem i_Pr_keepPoints_60 : iIns M_Pr_keepPoints 60 .daload 1 := (by decide +kernel : decode prog_1_method_35_code 60 = .ok (.daload, 1))
theorem i_Pr_keepPoints_61 : iIns M_Pr_keepPoints 61 (.iload_n 2) 1 := (by decide +kernel : decode prog_1_method_35_code 61 = .ok (.iload_n 2, 1))
theorem i_Pr_keepPoints_62 : iCallS M_Pr_keepPoints 62 M_Pr_inTypeOfRow 2 := ⟨⟨331, (by decide +kernel : decode prog_1_method_35_code 62 = .ok (.invokestatic 331, 3)), lw_k5 232 rfl rfl⟩, sm_Pr_inTypeOfRow, me_Pr_inTypeOfRow, pn_Pr_inTypeOfRow⟩
theorem i_Pr_keepPoints_65 : iIns M_Pr_keepPoints 65 .dastore 1 := (by decide +kernel : decode prog_1_method_35_code 65 = .ok (.dastore, 1))
theorem i_Pr_keepPoints_66 : iIns M_Pr_keepPoints 66 (.aload_n 3) 1 := (by decide +kernel : decode prog_1_method_35_code 66 = .ok (.aload_n 3, 1))
theorem i_Pr_keepPoints_67 : iIns M_Pr_keepPoints 67 (.iconst 2) 1 := (by decide +kernel : decode prog_1_method_35_code 67 = .ok (.iconst 2, 1))
theorem i_Pr_keepPoints_68 : iIns M_Pr_keepPoints 68 (.iload 4) 2 := (by decide +kernel : decode prog_1_method_35_code 68 = .ok (.iload 4, 2))
theorem i_Pr_keepPoints_70 : iIns M_Pr_keepPoints 70 .imul 1 := (by decide +kernel : decode prog_1_method_35_code 70 = .ok (.imul, 1))
theorem i_Pr_keepPoints_71 : iIns M_Pr_keepPoints 71 (.iconst 1) 1 := (by decide +kernel : decode prog_1_method_35_code 71 = .ok (.iconst 1, 1))
theorem i_Pr_keepPoints_72 : iIns M_Pr_keepPoints 72 .iadd 1 := (by decide +kernel : decode prog_1_method_35_code 72 = .ok (.iadd, 1))
theorem i_Pr_keepPoints_73 : iIns M_Pr_keepPoints 73 (.aload_n 0) 1 := (by decide +kernel : decode prog_1_method_35_code 73 = .ok (.aload_n 0, 1))
theorem i_Pr_keepPoints_74 : iGet M_Pr_keepPoints 74 13 10 := ⟨78, (by decide +kernel : decode prog_1_method_35_code 74 = .ok (.getfield 78, 3)), fl_Pr_Pr_figure⟩
theorem i_Pr_keepPoints_77 : iGet M_Pr_keepPoints 77 3 1 := ⟨313, (by decide +kernel : decode prog_1_method_35_code 77 = .ok (.getfield 313, 3)), fl_Pr_Fi_ys⟩
theorem i_Pr_keepPoints_80 : iIns M_Pr_keepPoints 80 (.iload 4) 2 := (by decide +kernel : decode prog_1_method_35_code 80 = .ok (.iload 4, 2))
theorem i_Pr_keepPoints_82 : iIns M_Pr_keepPoints 82 .daload 1 := (by decide +kernel : decode prog_1_method_35_code 82 = .ok (.daload, 1))
theorem i_Pr_keepPoints_83 : iIns M_Pr_keepPoints 83 (.iload_n 2) 1 := (by decide +kernel : decode prog_1_method_35_code 83 = .ok (.iload_n 2, 1))
theorem i_Pr_keepPoints_84 : iCallS M_Pr_keepPoints 84 M_Pr_inTypeOfRow 2 := ⟨⟨331, (by decide +kernel : decode prog_1_method_35_code 84 = .ok (.invokestatic 331, 3)), lw_k5 232 rfl rfl⟩, sm_Pr_inTypeOfRow, me_Pr_inTypeOfRow, pn_Pr_inTypeOfRow⟩
theorem i_Pr_keepPoints_87 : iIns M_Pr_keepPoints 87 .dastore 1 := (by decide +kernel : decode prog_1_method_35_code 87 = .ok (.dastore, 1))
theorem i_Pr_keepPoints_88 : iIns M_Pr_keepPoints 88 (.iinc 4 (1)) 3 := (by decide +kernel : decode prog_1_method_35_code 88 = .ok (.iinc 4 (1), 3))
theorem i_Pr_keepPoints_91 : iGoto M_Pr_keepPoints 91 34 := ⟨-57, (by decide +kernel : decode prog_1_method_35_code 91 = .ok (.goto (-57), 3)), by decide⟩
theorem i_Pr_keepPoints_94 : iIns M_Pr_keepPoints 94 (.aload_n 0) 1 := (by decide +kernel : decode prog_1_method_35_code 94 = .ok (.aload_n 0, 1))
theorem i_Pr_keepPoints_95 : iGet M_Pr_keepPoints 95 13 12 := ⟨87, (by decide +kernel : decode prog_1_method_35_code 95 = .ok (.getfield 87, 3)), fl_Pr_Pr_rowSizes⟩
theorem i_Pr_keepPoints_98 : iIns M_Pr_keepPoints 98 (.iload_n 1) 1 := (by decide +kernel : decode prog_1_method_35_code 98 = .ok (.iload_n 1, 1))
theorem i_Pr_keepPoints_99 : iIns M_Pr_keepPoints 99 (.iconst 2) 1 := (by decide +kernel : decode prog_1_method_35_code 99 = .ok (.iconst 2, 1))
theorem i_Pr_keepPoints_100 : iIns M_Pr_keepPoints 100 (.aload_n 0) 1 := (by decide +kernel : decode prog_1_method_35_code 100 = .ok (.aload_n 0, 1))
theorem i_Pr_keepPoints_101 : iGet M_Pr_keepPoints 101 13 10 := ⟨78, (by decide +kernel : decode prog_1_method_35_code 101 = .ok (.getfield 78, 3)), fl_Pr_Pr_figure⟩
theorem i_Pr_keepPoints_104 : iGet M_Pr_keepPoints 104 3 2 := ⟨328, (by decide +kernel : decode prog_1_method_35_code 104 = .ok (.getfield 328, 3)), fl_Pr_Fi_points⟩
theorem i_Pr_keepPoints_107 : iIns M_Pr_keepPoints 107 .imul 1 := (by decide +kernel : decode prog_1_method_35_code 107 = .ok (.imul, 1))
theorem i_Pr_keepPoints_108 : iIns M_Pr_keepPoints 108 .iastore 1 := (by decide +kernel : decode prog_1_method_35_code 108 = .ok (.iastore, 1))
theorem i_Pr_keepPoints_109 : iIns M_Pr_keepPoints 109 (.aload_n 0) 1 := (by decide +kernel : decode prog_1_method_35_code 109 = .ok (.aload_n 0, 1))
theorem i_Pr_keepPoints_110 : iGet M_Pr_keepPoints 110 13 12 := ⟨87, (by decide +kernel : decode prog_1_method_35_code 110 = .ok (.getfield 87, 3)), fl_Pr_Pr_rowSizes⟩
theorem i_Pr_keepPoints_113 : iIns M_Pr_keepPoints 113 (.iload_n 1) 1 := (by decide +kernel : decode prog_1_method_35_code 113 = .ok (.iload_n 1, 1))
theorem i_Pr_keepPoints_114 : iIns M_Pr_keepPoints 114 .iaload 1 := (by decide +kernel : decode prog_1_method_35_code 114 = .ok (.iaload, 1))
theorem i_Pr_keepPoints_115 : iIns M_Pr_keepPoints 115 .ireturn 1 := (by decide +kernel : decode prog_1_method_35_code 115 = .ok (.ireturn, 1))
theorem i_Pr_inTypeOfRow_0 : iIns M_Pr_inTypeOfRow 0 (.iload_n 2) 1 := (by decide +kernel : decode prog_1_method_48_code 0 = .ok (.iload_n 2, 1))
theorem i_Pr_inTypeOfRow_1 : iIf M_Pr_inTypeOfRow 1 .eq 10 := ⟨9, (by decide +kernel : decode prog_1_method_48_code 1 = .ok (.ifCond .eq (9), 3)), by decide⟩
theorem i_Pr_inTypeOfRow_4 : iIns M_Pr_inTypeOfRow 4 (.dload_n 0) 1 := (by decide +kernel : decode prog_1_method_48_code 4 = .ok (.dload_n 0, 1))
theorem i_Pr_inTypeOfRow_5 : iIns M_Pr_inTypeOfRow 5 .d2f 1 := (by decide +kernel : decode prog_1_method_48_code 5 = .ok (.d2f, 1))
theorem i_Pr_inTypeOfRow_6 : iIns M_Pr_inTypeOfRow 6 .f2d 1 := (by decide +kernel : decode prog_1_method_48_code 6 = .ok (.f2d, 1))
theorem i_Pr_inTypeOfRow_7 : iGoto M_Pr_inTypeOfRow 7 11 := ⟨4, (by decide +kernel : decode prog_1_method_48_code 7 = .ok (.goto (4), 3)), by decide⟩
theorem i_Pr_inTypeOfRow_10 : iIns M_Pr_inTypeOfRow 10 (.dload_n 0) 1 := (by decide +kernel : decode prog_1_method_48_code 10 = .ok (.dload_n 0, 1))
theorem i_Pr_inTypeOfRow_11 : iIns M_Pr_inTypeOfRow 11 .dreturn 1 := (by decide +kernel : decode prog_1_method_48_code 11 = .ok (.dreturn, 1))
theorem i_Pr_remainder_0 : iIns M_Pr_remainder 0 (.iload_n 1) 1 := (by decide +kernel : decode prog_1_method_36_code 0 = .ok (.iload_n 1, 1))
theorem i_Pr_remainder_1 : iIf M_Pr_remainder 1 .lt 9 := ⟨8, (by decide +kernel : decode prog_1_method_36_code 1 = .ok (.ifCond .lt (8), 3)), by decide⟩
theorem i_Pr_remainder_4 : iIns M_Pr_remainder 4 (.iload_n 1) 1 := (by decide +kernel : decode prog_1_method_36_code 4 = .ok (.iload_n 1, 1))
theorem i_Pr_remainder_5 : iIns M_Pr_remainder 5 (.iconst 2) 1 := (by decide +kernel : decode prog_1_method_36_code 5 = .ok (.iconst 2, 1))
theorem i_Pr_remainder_6 : iIcmp M_Pr_remainder 6 .lt 20 := ⟨14, (by decide +kernel : decode prog_1_method_36_code 6 = .ok (.if_icmp .lt (14), 3)), by decide⟩
theorem i_Pr_remainder_9 : iThrow M_Pr_remainder 9 xIae := ⟨91, 326, 95, "no such row", ⟨lw_k2 196 rfl rfl, lw_k3 1 rfl rfl, by decide +kernel⟩, (by decide +kernel : decode prog_1_method_36_code 9 = .ok (.new 91, 3)), (by decide +kernel : decode prog_1_method_36_code 12 = .ok (.dup, 1)), Or.inr ⟨(by decide +kernel : decode prog_1_method_36_code 13 = .ok (.ldc_w 326, 3)), (by decide +kernel : decode prog_1_method_36_code 16 = .ok (.invokespecial 95, 3)), (by decide +kernel : decode prog_1_method_36_code 19 = .ok (.athrow, 1))⟩⟩
theorem i_Pr_remainder_20 : iIns M_Pr_remainder 20 (.aload_n 0) 1 := (by decide +kernel : decode prog_1_method_36_code 20 = .ok (.aload_n 0, 1))
theorem i_Pr_remainder_21 : iGet M_Pr_remainder 21 13 12 := ⟨87, (by decide +kernel : decode prog_1_method_36_code 21 = .ok (.getfield 87, 3)), fl_Pr_Pr_rowSizes⟩
theorem i_Pr_remainder_24 : iIns M_Pr_remainder 24 (.iload_n 1) 1 := (by decide +kernel : decode prog_1_method_36_code 24 = .ok (.iload_n 1, 1))
theorem i_Pr_remainder_25 : iIns M_Pr_remainder 25 .iaload 1 := (by decide +kernel : decode prog_1_method_36_code 25 = .ok (.iaload, 1))
theorem i_Pr_remainder_26 : iIns M_Pr_remainder 26 (.istore 4) 2 := (by decide +kernel : decode prog_1_method_36_code 26 = .ok (.istore 4, 2))
theorem i_Pr_remainder_28 : iIns M_Pr_remainder 28 (.iload 4) 2 := (by decide +kernel : decode prog_1_method_36_code 28 = .ok (.iload 4, 2))
theorem i_Pr_remainder_30 : iIf M_Pr_remainder 30 .ne 44 := ⟨14, (by decide +kernel : decode prog_1_method_36_code 30 = .ok (.ifCond .ne (14), 3)), by decide⟩
theorem i_Pr_remainder_33 : iThrow M_Pr_remainder 33 xIse := ⟨102, 335, 106, "the row is missing", ⟨lw_k3 31 rfl rfl, lw_k3 41 rfl rfl, by decide +kernel⟩, (by decide +kernel : decode prog_1_method_36_code 33 = .ok (.new 102, 3)), (by decide +kernel : decode prog_1_method_36_code 36 = .ok (.dup, 1)), Or.inr ⟨(by decide +kernel : decode prog_1_method_36_code 37 = .ok (.ldc_w 335, 3)), (by decide +kernel : decode prog_1_method_36_code 40 = .ok (.invokespecial 106, 3)), (by decide +kernel : decode prog_1_method_36_code 43 = .ok (.athrow, 1))⟩⟩
theorem i_Pr_remainder_44 : iIns M_Pr_remainder 44 (.iload_n 2) 1 := (by decide +kernel : decode prog_1_method_36_code 44 = .ok (.iload_n 2, 1))
theorem i_Pr_remainder_45 : iIf M_Pr_remainder 45 .lt 64 := ⟨19, (by decide +kernel : decode prog_1_method_36_code 45 = .ok (.ifCond .lt (19), 3)), by decide⟩
theorem i_Pr_remainder_48 : iIns M_Pr_remainder 48 (.iload_n 2) 1 := (by decide +kernel : decode prog_1_method_36_code 48 = .ok (.iload_n 2, 1))
theorem i_Pr_remainder_49 : iIns M_Pr_remainder 49 (.iload 4) 2 := (by decide +kernel : decode prog_1_method_36_code 49 = .ok (.iload 4, 2))
theorem i_Pr_remainder_51 : iIcmp M_Pr_remainder 51 .ge 64 := ⟨13, (by decide +kernel : decode prog_1_method_36_code 51 = .ok (.if_icmp .ge (13), 3)), by decide⟩
theorem i_Pr_remainder_54 : iIns M_Pr_remainder 54 (.iload_n 3) 1 := (by decide +kernel : decode prog_1_method_36_code 54 = .ok (.iload_n 3, 1))
theorem i_Pr_remainder_55 : iIf M_Pr_remainder 55 .lt 64 := ⟨9, (by decide +kernel : decode prog_1_method_36_code 55 = .ok (.ifCond .lt (9), 3)), by decide⟩
theorem i_Pr_remainder_58 : iIns M_Pr_remainder 58 (.iload_n 3) 1 := (by decide +kernel : decode prog_1_method_36_code 58 = .ok (.iload_n 3, 1))
theorem i_Pr_remainder_59 : iIns M_Pr_remainder 59 (.iload 4) 2 := (by decide +kernel : decode prog_1_method_36_code 59 = .ok (.iload 4, 2))
theorem i_Pr_remainder_61 : iIcmp M_Pr_remainder 61 .lt 75 := ⟨14, (by decide +kernel : decode prog_1_method_36_code 61 = .ok (.if_icmp .lt (14), 3)), by decide⟩
theorem i_Pr_remainder_64 : iThrow M_Pr_remainder 64 xIob := ⟨171, 337, 175, "no such index", ⟨lw_k3 82 rfl rfl, lw_k3 92 rfl rfl, by decide +kernel⟩, (by decide +kernel : decode prog_1_method_36_code 64 = .ok (.new 171, 3)), (by decide +kernel : decode prog_1_method_36_code 67 = .ok (.dup, 1)), Or.inr ⟨(by decide +kernel : decode prog_1_method_36_code 68 = .ok (.ldc_w 337, 3)), (by decide +kernel : decode prog_1_method_36_code 71 = .ok (.invokespecial 175, 3)), (by decide +kernel : decode prog_1_method_36_code 74 = .ok (.athrow, 1))⟩⟩
theorem i_Pr_remainder_75 : iIns M_Pr_remainder 75 (.aload_n 0) 1 := (by decide +kernel : decode prog_1_method_36_code 75 = .ok (.aload_n 0, 1))
theorem i_Pr_remainder_76 : iGet M_Pr_remainder 76 13 11 := ⟨84, (by decide +kernel : decode prog_1_method_36_code 76 = .ok (.getfield 84, 3)), fl_Pr_Pr_rows⟩
theorem i_Pr_remainder_79 : iIns M_Pr_remainder 79 (.iload_n 1) 1 := (by decide +kernel : decode prog_1_method_36_code 79 = .ok (.iload_n 1, 1))
theorem i_Pr_remainder_80 : iIns M_Pr_remainder 80 .aaload 1 := (by decide +kernel : decode prog_1_method_36_code 80 = .ok (.aaload, 1))
theorem i_Pr_remainder_81 : iIns M_Pr_remainder 81 (.iload_n 2) 1 := (by decide +kernel : decode prog_1_method_36_code 81 = .ok (.iload_n 2, 1))
theorem i_Pr_remainder_82 : iIns M_Pr_remainder 82 .daload 1 := (by decide +kernel : decode prog_1_method_36_code 82 = .ok (.daload, 1))
theorem i_Pr_remainder_83 : iCallS M_Pr_remainder 83 M_Pr_wholeParts 1 := ⟨⟨339, (by decide +kernel : decode prog_1_method_36_code 83 = .ok (.invokestatic 339, 3)), lw_k6 4 rfl rfl⟩, sm_Pr_wholeParts, me_Pr_wholeParts, pn_Pr_wholeParts⟩
theorem i_Pr_remainder_86 : iIns M_Pr_remainder 86 (.lstore 5) 2 := (by decide +kernel : decode prog_1_method_36_code 86 = .ok (.lstore 5, 2))
theorem i_Pr_remainder_88 : iIns M_Pr_remainder 88 (.aload_n 0) 1 := (by decide +kernel : decode prog_1_method_36_code 88 = .ok (.aload_n 0, 1))
theorem i_Pr_remainder_89 : iGet M_Pr_remainder 89 13 11 := ⟨84, (by decide +kernel : decode prog_1_method_36_code 89 = .ok (.getfield 84, 3)), fl_Pr_Pr_rows⟩
theorem i_Pr_remainder_92 : iIns M_Pr_remainder 92 (.iload_n 1) 1 := (by decide +kernel : decode prog_1_method_36_code 92 = .ok (.iload_n 1, 1))
theorem i_Pr_remainder_93 : iIns M_Pr_remainder 93 .aaload 1 := (by decide +kernel : decode prog_1_method_36_code 93 = .ok (.aaload, 1))
theorem i_Pr_remainder_94 : iIns M_Pr_remainder 94 (.iload_n 3) 1 := (by decide +kernel : decode prog_1_method_36_code 94 = .ok (.iload_n 3, 1))
theorem i_Pr_remainder_95 : iIns M_Pr_remainder 95 .daload 1 := (by decide +kernel : decode prog_1_method_36_code 95 = .ok (.daload, 1))
theorem i_Pr_remainder_96 : iCallS M_Pr_remainder 96 M_Pr_wholeParts 1 := ⟨⟨339, (by decide +kernel : decode prog_1_method_36_code 96 = .ok (.invokestatic 339, 3)), lw_k6 4 rfl rfl⟩, sm_Pr_wholeParts, me_Pr_wholeParts, pn_Pr_wholeParts⟩
theorem i_Pr_remainder_99 : iIns M_Pr_remainder 99 (.lstore 7) 2 := (by decide +kernel : decode prog_1_method_36_code 99 = .ok (.lstore 7, 2))
theorem i_Pr_remainder_101 : iIns M_Pr_remainder 101 (.lload 7) 2 := (by decide +kernel : decode prog_1_method_36_code 101 = .ok (.lload 7, 2))
theorem i_Pr_remainder_103 : iIns M_Pr_remainder 103 (.lconst 0) 1 := (by decide +kernel : decode prog_1_method_36_code 103 = .ok (.lconst 0, 1))
theorem i_Pr_remainder_104 : iIns M_Pr_remainder 104 .lcmp 1 := (by decide +kernel : decode prog_1_method_36_code 104 = .ok (.lcmp, 1))
theorem i_Pr_remainder_105 : iIf M_Pr_remainder 105 .ne 119 := ⟨14, (by decide +kernel : decode prog_1_method_36_code 105 = .ok (.ifCond .ne (14), 3)), by decide⟩
theorem i_Pr_remainder_108 : iThrow M_Pr_remainder 108 xAri := ⟨225, 343, 229, "the divisor is 0", ⟨lw_k4 63 rfl rfl, lw_k4 65 rfl rfl, by decide +kernel⟩, (by decide +kernel : decode prog_1_method_36_code 108 = .ok (.new 225, 3)), (by decide +kernel : decode prog_1_method_36_code 111 = .ok (.dup, 1)), Or.inr ⟨(by decide +kernel : decode prog_1_method_36_code 112 = .ok (.ldc_w 343, 3)), (by decide +kernel : decode prog_1_method_36_code 115 = .ok (.invokespecial 229, 3)), (by decide +kernel : decode prog_1_method_36_code 118 = .ok (.athrow, 1))⟩⟩
theorem i_Pr_remainder_119 : iIns M_Pr_remainder 119 (.lload 5) 2 := (by decide +kernel : decode prog_1_method_36_code 119 = .ok (.lload 5, 2))
theorem i_Pr_remainder_121 : iCallS M_Pr_remainder 121 M_Ma_absJ 1 := ⟨⟨345, (by decide +kernel : decode prog_1_method_36_code 121 = .ok (.invokestatic 345, 3)), lw_k6 9 rfl rfl⟩, sm_Ma_absJ, me_Ma_absJ, pn_Ma_absJ⟩
theorem i_Pr_remainder_124 : iIns M_Pr_remainder 124 (.lload 7) 2 := (by decide +kernel : decode prog_1_method_36_code 124 = .ok (.lload 7, 2))
theorem i_Pr_remainder_126 : iCallS M_Pr_remainder 126 M_Ma_absJ 1 := ⟨⟨345, (by decide +kernel : decode prog_1_method_36_code 126 = .ok (.invokestatic 345, 3)), lw_k6 9 rfl rfl⟩, sm_Ma_absJ, me_Ma_absJ, pn_Ma_absJ⟩
theorem i_Pr_remainder_129 : iIns M_Pr_remainder 129 .lrem 1 := (by decide +kernel : decode prog_1_method_36_code 129 = .ok (.lrem, 1))
theorem i_Pr_remainder_130 : iIns M_Pr_remainder 130 .l2d 1 := (by decide +kernel : decode prog_1_method_36_code 130 = .ok (.l2d, 1))
theorem i_Pr_remainder_131 : iLdcD M_Pr_remainder 131 4697254411347427328 := ⟨349, (by decide +kernel : decode prog_1_method_36_code 131 = .ok (.ldc2_w 349, 3)), lw_k6 7 rfl rfl⟩
theorem i_Pr_remainder_134 : iIns M_Pr_remainder 134 .ddiv 1 := (by decide +kernel : decode prog_1_method_36_code 134 = .ok (.ddiv, 1))
theorem i_Pr_remainder_135 : iIns M_Pr_remainder 135 (.dstore 9) 2 := (by decide +kernel : decode prog_1_method_36_code 135 = .ok (.dstore 9, 2))
theorem i_Pr_remainder_137 : iIns M_Pr_remainder 137 (.lload 5) 2 := (by decide +kernel : decode prog_1_method_36_code 137 = .ok (.lload 5, 2))
theorem i_Pr_remainder_139 : iIns M_Pr_remainder 139 (.lconst 0) 1 := (by decide +kernel : decode prog_1_method_36_code 139 = .ok (.lconst 0, 1))
theorem i_Pr_remainder_140 : iIns M_Pr_remainder 140 .lcmp 1 := (by decide +kernel : decode prog_1_method_36_code 140 = .ok (.lcmp, 1))
theorem i_Pr_remainder_141 : iIf M_Pr_remainder 141 .ge 150 := ⟨9, (by decide +kernel : decode prog_1_method_36_code 141 = .ok (.ifCond .ge (9), 3)), by decide⟩
theorem i_Pr_remainder_144 : iIns M_Pr_remainder 144 (.dload 9) 2 := (by decide +kernel : decode prog_1_method_36_code 144 = .ok (.dload 9, 2))
theorem i_Pr_remainder_146 : iIns M_Pr_remainder 146 .dneg 1 := (by decide +kernel : decode prog_1_method_36_code 146 = .ok (.dneg, 1))
theorem i_Pr_remainder_147 : iGoto M_Pr_remainder 147 152 := ⟨5, (by decide +kernel : decode prog_1_method_36_code 147 = .ok (.goto (5), 3)), by decide⟩
theorem i_Pr_remainder_150 : iIns M_Pr_remainder 150 (.dload 9) 2 := (by decide +kernel : decode prog_1_method_36_code 150 = .ok (.dload 9, 2))
theorem i_Pr_remainder_152 : iIns M_Pr_remainder 152 .dreturn 1 := (by decide +kernel : decode prog_1_method_36_code 152 = .ok (.dreturn, 1))
theorem i_Pr_wholeParts_0 : iIns M_Pr_wholeParts 0 (.dload_n 0) 1 := (by decide +kernel : decode prog_1_method_49_code 0 = .ok (.dload_n 0, 1))
theorem i_Pr_wholeParts_1 : iLdcD M_Pr_wholeParts 1 4697254411347427328 := ⟨349, (by decide +kernel : decode prog_1_method_49_code 1 = .ok (.ldc2_w 349, 3)), lw_k6 7 rfl rfl⟩
theorem i_Pr_wholeParts_4 : iIns M_Pr_wholeParts 4 .dmul 1 := (by decide +kernel : decode prog_1_method_49_code 4 = .ok (.dmul, 1))
theorem i_Pr_wholeParts_5 : iIns M_Pr_wholeParts 5 .d2l 1 := (by decide +kernel : decode prog_1_method_49_code 5 = .ok (.d2l, 1))
theorem i_Pr_wholeParts_6 : iIns M_Pr_wholeParts 6 .lreturn 1 := (by decide +kernel : decode prog_1_method_49_code 6 = .ok (.lreturn, 1))
theorem i_Pr_restore_0 : iIns M_Pr_restore 0 (.aload_n 0) 1 := (by decide +kernel : decode prog_1_method_38_code 0 = .ok (.aload_n 0, 1))
theorem i_Pr_restore_1 : iGet M_Pr_restore 1 13 13 := ⟨354, (by decide +kernel : decode prog_1_method_38_code 1 = .ok (.getfield 354, 3)), fl_Pr_Pr_hasSaved⟩
theorem i_Pr_restore_4 : iIf M_Pr_restore 4 .ne 18 := ⟨14, (by decide +kernel : decode prog_1_method_38_code 4 = .ok (.ifCond .ne (14), 3)), by decide⟩
theorem i_Pr_restore_7 : iThrow M_Pr_restore 7 xIse := ⟨102, 358, 106, "nothing was saved", ⟨lw_k3 31 rfl rfl, lw_k3 41 rfl rfl, by decide +kernel⟩, (by decide +kernel : decode prog_1_method_38_code 7 = .ok (.new 102, 3)), (by decide +kernel : decode prog_1_method_38_code 10 = .ok (.dup, 1)), Or.inr ⟨(by decide +kernel : decode prog_1_method_38_code 11 = .ok (.ldc_w 358, 3)), (by decide +kernel : decode prog_1_method_38_code 14 = .ok (.invokespecial 106, 3)), (by decide +kernel : decode prog_1_method_38_code 17 = .ok (.athrow, 1))⟩⟩
theorem i_Pr_restore_18 : iIns M_Pr_restore 18 (.aload_n 0) 1 := (by decide +kernel : decode prog_1_method_38_code 18 = .ok (.aload_n 0, 1))
theorem i_Pr_restore_19 : iGet M_Pr_restore 19 13 1 := ⟨19, (by decide +kernel : decode prog_1_method_38_code 19 = .ok (.getfield 19, 3)), fl_Pr_Pr_live⟩
theorem i_Pr_restore_22 : iIns M_Pr_restore 22 (.aload_n 0) 1 := (by decide +kernel : decode prog_1_method_38_code 22 = .ok (.aload_n 0, 1))
theorem i_Pr_restore_23 : iGet M_Pr_restore 23 13 2 := ⟨23, (by decide +kernel : decode prog_1_method_38_code 23 = .ok (.getfield 23, 3)), fl_Pr_Pr_saved⟩
theorem i_Pr_restore_26 : iCallV M_Pr_restore 26 M_St_copy 1 8 := ⟨⟨351, (by decide +kernel : decode prog_1_method_38_code 26 = .ok (.invokevirtual 351, 3)), lw_k2 176 rfl rfl⟩, vm_St_copy, me_St_copy, pn_St_copy⟩
theorem i_Pr_restore_29 : iIns M_Pr_restore 29 (.aload_n 0) 1 := (by decide +kernel : decode prog_1_method_38_code 29 = .ok (.aload_n 0, 1))
theorem i_Pr_restore_30 : iGet M_Pr_restore 30 13 3 := ⟨29, (by decide +kernel : decode prog_1_method_38_code 30 = .ok (.getfield 29, 3)), fl_Pr_Pr_history⟩
theorem i_Pr_restore_33 : iCallV M_Pr_restore 33 M_Hi_forget 0 5 := ⟨⟨164, (by decide +kernel : decode prog_1_method_38_code 33 = .ok (.invokevirtual 164, 3)), lw_k3 205 rfl rfl⟩, vm_Hi_forget, me_Hi_forget, pn_Hi_forget⟩
theorem i_Pr_restore_36 : iIns M_Pr_restore 36 .return_ 1 := (by decide +kernel : decode prog_1_method_38_code 36 = .ok (.return_, 1))

/-! instructions: by program (wip/whole/gen12.py) -/
theorem i_Md_init_0 : iIns M_Md_init 0 (.aload_n 0) 1 := (by decide +kernel : decode prog_14_method_1_code 0 = .ok (.aload_n 0, 1))
theorem i_Md_init_1 : iObjI M_Md_init 1 := ⟨3, (by decide +kernel : decode prog_14_method_1_code 1 = .ok (.invokespecial 3, 3)), lw_k6 25 rfl rfl⟩
theorem i_Md_init_4 : iIns M_Md_init 4 (.aload_n 0) 1 := (by decide +kernel : decode prog_14_method_1_code 4 = .ok (.aload_n 0, 1))
theorem i_Md_init_5 : iIns M_Md_init 5 (.sipush 417) 3 := (by decide +kernel : decode prog_14_method_1_code 5 = .ok (.sipush 417, 3))
theorem i_Md_init_8 : iNewA M_Md_init 8 .int := ⟨(by decide +kernel : decode prog_14_method_1_code 8 = .ok (.newarray .int, 2)), lw_k1 95 rfl rfl⟩
theorem i_Md_init_10 : iPutF M_Md_init 10 14 1 (.array .int) := ⟨9, (by decide +kernel : decode prog_14_method_1_code 10 = .ok (.putfield 9, 3)), pf_Md_Md_tables, rfl⟩
theorem i_Md_init_13 : iIns M_Md_init 13 (.aload_n 0) 1 := (by decide +kernel : decode prog_14_method_1_code 13 = .ok (.aload_n 0, 1))
theorem i_Md_init_14 : iIns M_Md_init 14 (.bipush 61) 2 := (by decide +kernel : decode prog_14_method_1_code 14 = .ok (.bipush 61, 2))
theorem i_Md_init_16 : iNewA M_Md_init 16 .int := ⟨(by decide +kernel : decode prog_14_method_1_code 16 = .ok (.newarray .int, 2)), lw_k1 95 rfl rfl⟩
theorem i_Md_init_18 : iPutF M_Md_init 18 14 2 (.array .int) := ⟨13, (by decide +kernel : decode prog_14_method_1_code 18 = .ok (.putfield 13, 3)), pf_Md_Md_word, rfl⟩
theorem i_Md_init_21 : iIns M_Md_init 21 (.aload_n 0) 1 := (by decide +kernel : decode prog_14_method_1_code 21 = .ok (.aload_n 0, 1))
theorem i_Md_init_22 : iIns M_Md_init 22 (.bipush 61) 2 := (by decide +kernel : decode prog_14_method_1_code 22 = .ok (.bipush 61, 2))
theorem i_Md_init_24 : iNewA M_Md_init 24 .int := ⟨(by decide +kernel : decode prog_14_method_1_code 24 = .ok (.newarray .int, 2)), lw_k1 95 rfl rfl⟩
theorem i_Md_init_26 : iPutF M_Md_init 26 14 3 (.array .int) := ⟨16, (by decide +kernel : decode prog_14_method_1_code 26 = .ok (.putfield 16, 3)), pf_Md_Md_target, rfl⟩
theorem i_Md_init_29 : iIns M_Md_init 29 (.aload_n 0) 1 := (by decide +kernel : decode prog_14_method_1_code 29 = .ok (.aload_n 0, 1))
theorem i_Md_init_30 : iIns M_Md_init 30 (.bipush 6) 2 := (by decide +kernel : decode prog_14_method_1_code 30 = .ok (.bipush 6, 2))
theorem i_Md_init_32 : iNewA M_Md_init 32 .int := ⟨(by decide +kernel : decode prog_14_method_1_code 32 = .ok (.newarray .int, 2)), lw_k1 95 rfl rfl⟩
theorem i_Md_init_34 : iPutF M_Md_init 34 14 4 (.array .int) := ⟨19, (by decide +kernel : decode prog_14_method_1_code 34 = .ok (.putfield 19, 3)), pf_Md_Md_commands, rfl⟩
theorem i_Md_init_37 : iIns M_Md_init 37 (.aload_n 0) 1 := (by decide +kernel : decode prog_14_method_1_code 37 = .ok (.aload_n 0, 1))
theorem i_Md_init_38 : iIns M_Md_init 38 (.bipush 60) 2 := (by decide +kernel : decode prog_14_method_1_code 38 = .ok (.bipush 60, 2))
theorem i_Md_init_40 : iNewA M_Md_init 40 .int := ⟨(by decide +kernel : decode prog_14_method_1_code 40 = .ok (.newarray .int, 2)), lw_k1 95 rfl rfl⟩
theorem i_Md_init_42 : iPutF M_Md_init 42 14 5 (.array .int) := ⟨22, (by decide +kernel : decode prog_14_method_1_code 42 = .ok (.putfield 22, 3)), pf_Md_Md_text, rfl⟩
theorem i_Md_init_45 : iIns M_Md_init 45 (.aload_n 0) 1 := (by decide +kernel : decode prog_14_method_1_code 45 = .ok (.aload_n 0, 1))
theorem i_Md_init_46 : iIns M_Md_init 46 (.sipush 488) 3 := (by decide +kernel : decode prog_14_method_1_code 46 = .ok (.sipush 488, 3))
theorem i_Md_init_49 : iNewA M_Md_init 49 .int := ⟨(by decide +kernel : decode prog_14_method_1_code 49 = .ok (.newarray .int, 2)), lw_k1 95 rfl rfl⟩
theorem i_Md_init_51 : iPutF M_Md_init 51 14 7 (.array .int) := ⟨25, (by decide +kernel : decode prog_14_method_1_code 51 = .ok (.putfield 25, 3)), pf_Md_Md_earlier, rfl⟩
theorem i_Md_init_54 : iIns M_Md_init 54 (.aload_n 0) 1 := (by decide +kernel : decode prog_14_method_1_code 54 = .ok (.aload_n 0, 1))
theorem i_Md_init_55 : iIns M_Md_init 55 (.sipush 417) 3 := (by decide +kernel : decode prog_14_method_1_code 55 = .ok (.sipush 417, 3))
theorem i_Md_init_58 : iNewA M_Md_init 58 .int := ⟨(by decide +kernel : decode prog_14_method_1_code 58 = .ok (.newarray .int, 2)), lw_k1 95 rfl rfl⟩
theorem i_Md_init_60 : iPutF M_Md_init 60 14 10 (.array .int) := ⟨28, (by decide +kernel : decode prog_14_method_1_code 60 = .ok (.putfield 28, 3)), pf_Md_Md_savedTables, rfl⟩
theorem i_Md_init_63 : iIns M_Md_init 63 (.aload_n 0) 1 := (by decide +kernel : decode prog_14_method_1_code 63 = .ok (.aload_n 0, 1))
theorem i_Md_init_64 : iIns M_Md_init 64 (.bipush 61) 2 := (by decide +kernel : decode prog_14_method_1_code 64 = .ok (.bipush 61, 2))
theorem i_Md_init_66 : iNewA M_Md_init 66 .int := ⟨(by decide +kernel : decode prog_14_method_1_code 66 = .ok (.newarray .int, 2)), lw_k1 95 rfl rfl⟩
theorem i_Md_init_68 : iPutF M_Md_init 68 14 11 (.array .int) := ⟨31, (by decide +kernel : decode prog_14_method_1_code 68 = .ok (.putfield 31, 3)), pf_Md_Md_savedWord, rfl⟩
theorem i_Md_init_71 : iIns M_Md_init 71 (.aload_n 0) 1 := (by decide +kernel : decode prog_14_method_1_code 71 = .ok (.aload_n 0, 1))
theorem i_Md_init_72 : iIns M_Md_init 72 (.bipush 61) 2 := (by decide +kernel : decode prog_14_method_1_code 72 = .ok (.bipush 61, 2))
theorem i_Md_init_74 : iNewA M_Md_init 74 .int := ⟨(by decide +kernel : decode prog_14_method_1_code 74 = .ok (.newarray .int, 2)), lw_k1 95 rfl rfl⟩
theorem i_Md_init_76 : iPutF M_Md_init 76 14 12 (.array .int) := ⟨34, (by decide +kernel : decode prog_14_method_1_code 76 = .ok (.putfield 34, 3)), pf_Md_Md_savedTarget, rfl⟩
theorem i_Md_init_79 : iIns M_Md_init 79 (.aload_n 0) 1 := (by decide +kernel : decode prog_14_method_1_code 79 = .ok (.aload_n 0, 1))
theorem i_Md_init_80 : iIns M_Md_init 80 (.bipush 6) 2 := (by decide +kernel : decode prog_14_method_1_code 80 = .ok (.bipush 6, 2))
theorem i_Md_init_82 : iNewA M_Md_init 82 .int := ⟨(by decide +kernel : decode prog_14_method_1_code 82 = .ok (.newarray .int, 2)), lw_k1 95 rfl rfl⟩
theorem i_Md_init_84 : iPutF M_Md_init 84 14 13 (.array .int) := ⟨37, (by decide +kernel : decode prog_14_method_1_code 84 = .ok (.putfield 37, 3)), pf_Md_Md_savedCommands, rfl⟩
theorem i_Md_init_87 : iIns M_Md_init 87 (.aload_n 0) 1 := (by decide +kernel : decode prog_14_method_1_code 87 = .ok (.aload_n 0, 1))
theorem i_Md_init_88 : iIns M_Md_init 88 (.bipush 61) 2 := (by decide +kernel : decode prog_14_method_1_code 88 = .ok (.bipush 61, 2))
theorem i_Md_init_90 : iNewA M_Md_init 90 .int := ⟨(by decide +kernel : decode prog_14_method_1_code 90 = .ok (.newarray .int, 2)), lw_k1 95 rfl rfl⟩
theorem i_Md_init_92 : iPutF M_Md_init 92 14 15 (.array .int) := ⟨40, (by decide +kernel : decode prog_14_method_1_code 92 = .ok (.putfield 40, 3)), pf_Md_Md_next, rfl⟩
theorem i_Md_init_95 : iIns M_Md_init 95 (.aload_n 0) 1 := (by decide +kernel : decode prog_14_method_1_code 95 = .ok (.aload_n 0, 1))
theorem i_Md_init_96 : iIns M_Md_init 96 (.bipush 6) 2 := (by decide +kernel : decode prog_14_method_1_code 96 = .ok (.bipush 6, 2))
theorem i_Md_init_98 : iNewA M_Md_init 98 .long := ⟨(by decide +kernel : decode prog_14_method_1_code 98 = .ok (.newarray .long, 2)), lw_k1 189 rfl rfl⟩
theorem i_Md_init_100 : iPutF M_Md_init 100 14 16 (.array .long) := ⟨43, (by decide +kernel : decode prog_14_method_1_code 100 = .ok (.putfield 43, 3)), pf_Md_Md_counts, rfl⟩
theorem i_Md_init_103 : iIns M_Md_init 103 (.aload_n 0) 1 := (by decide +kernel : decode prog_14_method_1_code 103 = .ok (.aload_n 0, 1))
theorem i_Md_init_104 : iIns M_Md_init 104 (.bipush 6) 2 := (by decide +kernel : decode prog_14_method_1_code 104 = .ok (.bipush 6, 2))
theorem i_Md_init_106 : iNewA M_Md_init 106 .long := ⟨(by decide +kernel : decode prog_14_method_1_code 106 = .ok (.newarray .long, 2)), lw_k1 189 rfl rfl⟩
theorem i_Md_init_108 : iPutF M_Md_init 108 14 17 (.array .long) := ⟨47, (by decide +kernel : decode prog_14_method_1_code 108 = .ok (.putfield 47, 3)), pf_Md_Md_nextCounts, rfl⟩
theorem i_Md_init_111 : iIns M_Md_init 111 (.aload_n 0) 1 := (by decide +kernel : decode prog_14_method_1_code 111 = .ok (.aload_n 0, 1))
theorem i_Md_init_112 : iIns M_Md_init 112 (.bipush 6) 2 := (by decide +kernel : decode prog_14_method_1_code 112 = .ok (.bipush 6, 2))
theorem i_Md_init_114 : iNewA M_Md_init 114 .boolean := ⟨(by decide +kernel : decode prog_14_method_1_code 114 = .ok (.newarray .boolean, 2)), lw_k6 132 rfl rfl⟩
theorem i_Md_init_116 : iPutF M_Md_init 116 14 18 (.array .boolean) := ⟨50, (by decide +kernel : decode prog_14_method_1_code 116 = .ok (.putfield 50, 3)), pf_Md_Md_lives, rfl⟩
theorem i_Md_init_119 : iIns M_Md_init 119 (.aload_n 0) 1 := (by decide +kernel : decode prog_14_method_1_code 119 = .ok (.aload_n 0, 1))
theorem i_Md_init_120 : iIns M_Md_init 120 (.bipush 36) 2 := (by decide +kernel : decode prog_14_method_1_code 120 = .ok (.bipush 36, 2))
theorem i_Md_init_122 : iNewA M_Md_init 122 .boolean := ⟨(by decide +kernel : decode prog_14_method_1_code 122 = .ok (.newarray .boolean, 2)), lw_k6 132 rfl rfl⟩
theorem i_Md_init_124 : iPutF M_Md_init 124 14 19 (.array .boolean) := ⟨54, (by decide +kernel : decode prog_14_method_1_code 124 = .ok (.putfield 54, 3)), pf_Md_Md_leads, rfl⟩
theorem i_Md_init_127 : iIns M_Md_init 127 (.aload_n 0) 1 := (by decide +kernel : decode prog_14_method_1_code 127 = .ok (.aload_n 0, 1))
theorem i_Md_init_128 : iIns M_Md_init 128 (.bipush 6) 2 := (by decide +kernel : decode prog_14_method_1_code 128 = .ok (.bipush 6, 2))
theorem i_Md_init_130 : iNewA M_Md_init 130 .int := ⟨(by decide +kernel : decode prog_14_method_1_code 130 = .ok (.newarray .int, 2)), lw_k1 95 rfl rfl⟩
theorem i_Md_init_132 : iPutF M_Md_init 132 14 20 (.array .int) := ⟨57, (by decide +kernel : decode prog_14_method_1_code 132 = .ok (.putfield 57, 3)), pf_Md_Md_depths, rfl⟩
theorem i_Md_init_135 : iIns M_Md_init 135 (.aload_n 0) 1 := (by decide +kernel : decode prog_14_method_1_code 135 = .ok (.aload_n 0, 1))
theorem i_Md_init_136 : iIns M_Md_init 136 (.bipush 18) 2 := (by decide +kernel : decode prog_14_method_1_code 136 = .ok (.bipush 18, 2))
theorem i_Md_init_138 : iNewA M_Md_init 138 .int := ⟨(by decide +kernel : decode prog_14_method_1_code 138 = .ok (.newarray .int, 2)), lw_k1 95 rfl rfl⟩
theorem i_Md_init_140 : iPutF M_Md_init 140 14 21 (.array .int) := ⟨60, (by decide +kernel : decode prog_14_method_1_code 140 = .ok (.putfield 60, 3)), pf_Md_Md_terms, rfl⟩
theorem i_Md_init_143 : iIns M_Md_init 143 (.aload_n 0) 1 := (by decide +kernel : decode prog_14_method_1_code 143 = .ok (.aload_n 0, 1))
theorem i_Md_init_144 : iIns M_Md_init 144 (.bipush 84) 2 := (by decide +kernel : decode prog_14_method_1_code 144 = .ok (.bipush 84, 2))
theorem i_Md_init_146 : iNewA M_Md_init 146 .int := ⟨(by decide +kernel : decode prog_14_method_1_code 146 = .ok (.newarray .int, 2)), lw_k1 95 rfl rfl⟩
theorem i_Md_init_148 : iPutF M_Md_init 148 14 22 (.array .int) := ⟨63, (by decide +kernel : decode prog_14_method_1_code 148 = .ok (.putfield 63, 3)), pf_Md_Md_equations, rfl⟩
theorem i_Md_init_151 : iIns M_Md_init 151 (.aload_n 0) 1 := (by decide +kernel : decode prog_14_method_1_code 151 = .ok (.aload_n 0, 1))
theorem i_Md_init_152 : iIns M_Md_init 152 (.bipush 7) 2 := (by decide +kernel : decode prog_14_method_1_code 152 = .ok (.bipush 7, 2))
theorem i_Md_init_154 : iNewA M_Md_init 154 .int := ⟨(by decide +kernel : decode prog_14_method_1_code 154 = .ok (.newarray .int, 2)), lw_k1 95 rfl rfl⟩
theorem i_Md_init_156 : iPutF M_Md_init 156 14 23 (.array .int) := ⟨66, (by decide +kernel : decode prog_14_method_1_code 156 = .ok (.putfield 66, 3)), pf_Md_Md_coefficients, rfl⟩
theorem i_Md_init_159 : iIns M_Md_init 159 (.aload_n 0) 1 := (by decide +kernel : decode prog_14_method_1_code 159 = .ok (.aload_n 0, 1))
theorem i_Md_init_160 : iIns M_Md_init 160 (.bipush 61) 2 := (by decide +kernel : decode prog_14_method_1_code 160 = .ok (.bipush 61, 2))
theorem i_Md_init_162 : iNewA M_Md_init 162 .int := ⟨(by decide +kernel : decode prog_14_method_1_code 162 = .ok (.newarray .int, 2)), lw_k1 95 rfl rfl⟩
theorem i_Md_init_164 : iPutF M_Md_init 164 14 24 (.array .int) := ⟨69, (by decide +kernel : decode prog_14_method_1_code 164 = .ok (.putfield 69, 3)), pf_Md_Md_trial, rfl⟩
theorem i_Md_init_167 : iIns M_Md_init 167 (.aload_n 0) 1 := (by decide +kernel : decode prog_14_method_1_code 167 = .ok (.aload_n 0, 1))
theorem i_Md_init_168 : iIns M_Md_init 168 (.sipush 3721) 3 := (by decide +kernel : decode prog_14_method_1_code 168 = .ok (.sipush 3721, 3))
theorem i_Md_init_171 : iNewA M_Md_init 171 .long := ⟨(by decide +kernel : decode prog_14_method_1_code 171 = .ok (.newarray .long, 2)), lw_k1 189 rfl rfl⟩
theorem i_Md_init_173 : iPutF M_Md_init 173 14 25 (.array .long) := ⟨72, (by decide +kernel : decode prog_14_method_1_code 173 = .ok (.putfield 72, 3)), pf_Md_Md_ways, rfl⟩
theorem i_Md_init_176 : iIns M_Md_init 176 (.aload_n 0) 1 := (by decide +kernel : decode prog_14_method_1_code 176 = .ok (.aload_n 0, 1))
theorem i_Md_init_177 : iIns M_Md_init 177 (.bipush 61) 2 := (by decide +kernel : decode prog_14_method_1_code 177 = .ok (.bipush 61, 2))
theorem i_Md_init_179 : iNewA M_Md_init 179 .double := ⟨(by decide +kernel : decode prog_14_method_1_code 179 = .ok (.newarray .double, 2)), lw_k2 88 rfl rfl⟩
theorem i_Md_init_181 : iPutF M_Md_init 181 14 26 (.array .double) := ⟨75, (by decide +kernel : decode prog_14_method_1_code 181 = .ok (.putfield 75, 3)), pf_Md_Md_xs, rfl⟩
theorem i_Md_init_184 : iIns M_Md_init 184 (.aload_n 0) 1 := (by decide +kernel : decode prog_14_method_1_code 184 = .ok (.aload_n 0, 1))
theorem i_Md_init_185 : iIns M_Md_init 185 (.bipush 61) 2 := (by decide +kernel : decode prog_14_method_1_code 185 = .ok (.bipush 61, 2))
theorem i_Md_init_187 : iNewA M_Md_init 187 .double := ⟨(by decide +kernel : decode prog_14_method_1_code 187 = .ok (.newarray .double, 2)), lw_k2 88 rfl rfl⟩
theorem i_Md_init_189 : iPutF M_Md_init 189 14 27 (.array .double) := ⟨79, (by decide +kernel : decode prog_14_method_1_code 189 = .ok (.putfield 79, 3)), pf_Md_Md_ys, rfl⟩
theorem i_Md_init_192 : iIns M_Md_init 192 (.aload_n 0) 1 := (by decide +kernel : decode prog_14_method_1_code 192 = .ok (.aload_n 0, 1))
theorem i_Md_init_193 : iIns M_Md_init 193 (.bipush 80) 2 := (by decide +kernel : decode prog_14_method_1_code 193 = .ok (.bipush 80, 2))
theorem i_Md_init_195 : iNewA M_Md_init 195 .double := ⟨(by decide +kernel : decode prog_14_method_1_code 195 = .ok (.newarray .double, 2)), lw_k2 88 rfl rfl⟩
theorem i_Md_init_197 : iPutF M_Md_init 197 14 28 (.array .double) := ⟨82, (by decide +kernel : decode prog_14_method_1_code 197 = .ok (.putfield 82, 3)), pf_Md_Md_remembered, rfl⟩
theorem i_Md_init_200 : iIns M_Md_init 200 (.aload_n 0) 1 := (by decide +kernel : decode prog_14_method_1_code 200 = .ok (.aload_n 0, 1))
theorem i_Md_init_201 : iIns M_Md_init 201 (.sipush 240) 3 := (by decide +kernel : decode prog_14_method_1_code 201 = .ok (.sipush 240, 3))
theorem i_Md_init_204 : iNewA M_Md_init 204 .double := ⟨(by decide +kernel : decode prog_14_method_1_code 204 = .ok (.newarray .double, 2)), lw_k2 88 rfl rfl⟩
theorem i_Md_init_206 : iPutF M_Md_init 206 14 30 (.array .double) := ⟨85, (by decide +kernel : decode prog_14_method_1_code 206 = .ok (.putfield 85, 3)), pf_Md_Md_segments, rfl⟩
theorem i_Md_init_209 : iIns M_Md_init 209 (.aload_n 0) 1 := (by decide +kernel : decode prog_14_method_1_code 209 = .ok (.aload_n 0, 1))
theorem i_Md_init_210 : iIns M_Md_init 210 (.iconst 2) 1 := (by decide +kernel : decode prog_14_method_1_code 210 = .ok (.iconst 2, 1))
theorem i_Md_init_211 : iNewA M_Md_init 211 .int := ⟨(by decide +kernel : decode prog_14_method_1_code 211 = .ok (.newarray .int, 2)), lw_k1 95 rfl rfl⟩
theorem i_Md_init_213 : iIns M_Md_init 213 .dup 1 := (by decide +kernel : decode prog_14_method_1_code 213 = .ok (.dup, 1))
theorem i_Md_init_214 : iIns M_Md_init 214 (.iconst 0) 1 := (by decide +kernel : decode prog_14_method_1_code 214 = .ok (.iconst 0, 1))
theorem i_Md_init_215 : iIns M_Md_init 215 (.iconst (-1)) 1 := (by decide +kernel : decode prog_14_method_1_code 215 = .ok (.iconst (-1), 1))
theorem i_Md_init_216 : iIns M_Md_init 216 .iastore 1 := (by decide +kernel : decode prog_14_method_1_code 216 = .ok (.iastore, 1))
theorem i_Md_init_217 : iIns M_Md_init 217 .dup 1 := (by decide +kernel : decode prog_14_method_1_code 217 = .ok (.dup, 1))
theorem i_Md_init_218 : iIns M_Md_init 218 (.iconst 1) 1 := (by decide +kernel : decode prog_14_method_1_code 218 = .ok (.iconst 1, 1))
theorem i_Md_init_219 : iIns M_Md_init 219 (.iconst (-1)) 1 := (by decide +kernel : decode prog_14_method_1_code 219 = .ok (.iconst (-1), 1))
theorem i_Md_init_220 : iIns M_Md_init 220 .iastore 1 := (by decide +kernel : decode prog_14_method_1_code 220 = .ok (.iastore, 1))
theorem i_Md_init_221 : iPutF M_Md_init 221 14 32 (.array .int) := ⟨88, (by decide +kernel : decode prog_14_method_1_code 221 = .ok (.putfield 88, 3)), pf_Md_Md_sizes, rfl⟩
theorem i_Md_init_224 : iIns M_Md_init 224 (.aload_n 0) 1 := (by decide +kernel : decode prog_14_method_1_code 224 = .ok (.aload_n 0, 1))
theorem i_Md_init_225 : iIns M_Md_init 225 (.iconst 2) 1 := (by decide +kernel : decode prog_14_method_1_code 225 = .ok (.iconst 2, 1))
theorem i_Md_init_226 : iNewA M_Md_init 226 .boolean := ⟨(by decide +kernel : decode prog_14_method_1_code 226 = .ok (.newarray .boolean, 2)), lw_k6 132 rfl rfl⟩
theorem i_Md_init_228 : iPutF M_Md_init 228 14 33 (.array .boolean) := ⟨91, (by decide +kernel : decode prog_14_method_1_code 228 = .ok (.putfield 91, 3)), pf_Md_Md_isSingle, rfl⟩
theorem i_Md_init_231 : iIns M_Md_init 231 (.aload_n 0) 1 := (by decide +kernel : decode prog_14_method_1_code 231 = .ok (.aload_n 0, 1))
theorem i_Md_init_232 : iIns M_Md_init 232 (.sipush 244) 3 := (by decide +kernel : decode prog_14_method_1_code 232 = .ok (.sipush 244, 3))
theorem i_Md_init_235 : iNewA M_Md_init 235 .double := ⟨(by decide +kernel : decode prog_14_method_1_code 235 = .ok (.newarray .double, 2)), lw_k2 88 rfl rfl⟩
theorem i_Md_init_237 : iPutF M_Md_init 237 14 34 (.array .double) := ⟨94, (by decide +kernel : decode prog_14_method_1_code 237 = .ok (.putfield 94, 3)), pf_Md_Md_elements, rfl⟩
theorem i_Md_init_240 : iIns M_Md_init 240 (.iconst 0) 1 := (by decide +kernel : decode prog_14_method_1_code 240 = .ok (.iconst 0, 1))
theorem i_Md_init_241 : iIns M_Md_init 241 (.istore_n 1) 1 := (by decide +kernel : decode prog_14_method_1_code 241 = .ok (.istore_n 1, 1))
theorem i_Md_init_242 : iIns M_Md_init 242 (.iload_n 1) 1 := (by decide +kernel : decode prog_14_method_1_code 242 = .ok (.iload_n 1, 1))
theorem i_Md_init_243 : iIns M_Md_init 243 (.iconst 3) 1 := (by decide +kernel : decode prog_14_method_1_code 243 = .ok (.iconst 3, 1))
theorem i_Md_init_244 : iIcmp M_Md_init 244 .ge 303 := ⟨59, (by decide +kernel : decode prog_14_method_1_code 244 = .ok (.if_icmp .ge (59), 3)), by decide⟩
theorem i_Md_init_247 : iIns M_Md_init 247 (.iconst 0) 1 := (by decide +kernel : decode prog_14_method_1_code 247 = .ok (.iconst 0, 1))
theorem i_Md_init_248 : iIns M_Md_init 248 (.istore_n 2) 1 := (by decide +kernel : decode prog_14_method_1_code 248 = .ok (.istore_n 2, 1))
theorem i_Md_init_249 : iIns M_Md_init 249 (.iload_n 2) 1 := (by decide +kernel : decode prog_14_method_1_code 249 = .ok (.iload_n 2, 1))
theorem i_Md_init_250 : iIns M_Md_init 250 (.bipush 6) 2 := (by decide +kernel : decode prog_14_method_1_code 250 = .ok (.bipush 6, 2))
theorem i_Md_init_252 : iIcmp M_Md_init 252 .ge 297 := ⟨45, (by decide +kernel : decode prog_14_method_1_code 252 = .ok (.if_icmp .ge (45), 3)), by decide⟩
theorem i_Md_init_255 : iIns M_Md_init 255 (.sipush 139) 3 := (by decide +kernel : decode prog_14_method_1_code 255 = .ok (.sipush 139, 3))
theorem i_Md_init_258 : iIns M_Md_init 258 (.iload_n 1) 1 := (by decide +kernel : decode prog_14_method_1_code 258 = .ok (.iload_n 1, 1))
theorem i_Md_init_259 : iIns M_Md_init 259 .imul 1 := (by decide +kernel : decode prog_14_method_1_code 259 = .ok (.imul, 1))
theorem i_Md_init_260 : iIns M_Md_init 260 (.bipush 16) 2 := (by decide +kernel : decode prog_14_method_1_code 260 = .ok (.bipush 16, 2))
theorem i_Md_init_262 : iIns M_Md_init 262 (.iload_n 2) 1 := (by decide +kernel : decode prog_14_method_1_code 262 = .ok (.iload_n 2, 1))
theorem i_Md_init_263 : iIns M_Md_init 263 .imul 1 := (by decide +kernel : decode prog_14_method_1_code 263 = .ok (.imul, 1))
theorem i_Md_init_264 : iIns M_Md_init 264 .iadd 1 := (by decide +kernel : decode prog_14_method_1_code 264 = .ok (.iadd, 1))
theorem i_Md_init_265 : iIns M_Md_init 265 (.istore_n 3) 1 := (by decide +kernel : decode prog_14_method_1_code 265 = .ok (.istore_n 3, 1))
theorem i_Md_init_266 : iIns M_Md_init 266 (.aload_n 0) 1 := (by decide +kernel : decode prog_14_method_1_code 266 = .ok (.aload_n 0, 1))
theorem i_Md_init_267 : iGet M_Md_init 267 14 1 := ⟨9, (by decide +kernel : decode prog_14_method_1_code 267 = .ok (.getfield 9, 3)), fl_Md_Md_tables⟩
theorem i_Md_init_270 : iIns M_Md_init 270 (.iload_n 3) 1 := (by decide +kernel : decode prog_14_method_1_code 270 = .ok (.iload_n 3, 1))
theorem i_Md_init_271 : iIns M_Md_init 271 (.iconst 1) 1 := (by decide +kernel : decode prog_14_method_1_code 271 = .ok (.iconst 1, 1))
theorem i_Md_init_272 : iIns M_Md_init 272 .iastore 1 := (by decide +kernel : decode prog_14_method_1_code 272 = .ok (.iastore, 1))
theorem i_Md_init_273 : iIns M_Md_init 273 (.aload_n 0) 1 := (by decide +kernel : decode prog_14_method_1_code 273 = .ok (.aload_n 0, 1))
theorem i_Md_init_274 : iGet M_Md_init 274 14 1 := ⟨9, (by decide +kernel : decode prog_14_method_1_code 274 = .ok (.getfield 9, 3)), fl_Md_Md_tables⟩
theorem i_Md_init_277 : iIns M_Md_init 277 (.iload_n 3) 1 := (by decide +kernel : decode prog_14_method_1_code 277 = .ok (.iload_n 3, 1))
theorem i_Md_init_278 : iIns M_Md_init 278 (.iconst 1) 1 := (by decide +kernel : decode prog_14_method_1_code 278 = .ok (.iconst 1, 1))
theorem i_Md_init_279 : iIns M_Md_init 279 .iadd 1 := (by decide +kernel : decode prog_14_method_1_code 279 = .ok (.iadd, 1))
theorem i_Md_init_280 : iIns M_Md_init 280 (.iconst 1) 1 := (by decide +kernel : decode prog_14_method_1_code 280 = .ok (.iconst 1, 1))
theorem i_Md_init_281 : iIns M_Md_init 281 .iastore 1 := (by decide +kernel : decode prog_14_method_1_code 281 = .ok (.iastore, 1))
theorem i_Md_init_282 : iIns M_Md_init 282 (.aload_n 0) 1 := (by decide +kernel : decode prog_14_method_1_code 282 = .ok (.aload_n 0, 1))
theorem i_Md_init_283 : iGet M_Md_init 283 14 1 := ⟨9, (by decide +kernel : decode prog_14_method_1_code 283 = .ok (.getfield 9, 3)), fl_Md_Md_tables⟩
theorem i_Md_init_286 : iIns M_Md_init 286 (.iload_n 3) 1 := (by decide +kernel : decode prog_14_method_1_code 286 = .ok (.iload_n 3, 1))
theorem i_Md_init_287 : iIns M_Md_init 287 (.iconst 2) 1 := (by decide +kernel : decode prog_14_method_1_code 287 = .ok (.iconst 2, 1))
theorem i_Md_init_288 : iIns M_Md_init 288 .iadd 1 := (by decide +kernel : decode prog_14_method_1_code 288 = .ok (.iadd, 1))
theorem i_Md_init_289 : iIns M_Md_init 289 (.iload_n 2) 1 := (by decide +kernel : decode prog_14_method_1_code 289 = .ok (.iload_n 2, 1))
theorem i_Md_init_290 : iIns M_Md_init 290 .iastore 1 := (by decide +kernel : decode prog_14_method_1_code 290 = .ok (.iastore, 1))
theorem i_Md_init_291 : iIns M_Md_init 291 (.iinc 2 (1)) 3 := (by decide +kernel : decode prog_14_method_1_code 291 = .ok (.iinc 2 (1), 3))
theorem i_Md_init_294 : iGoto M_Md_init 294 249 := ⟨-45, (by decide +kernel : decode prog_14_method_1_code 294 = .ok (.goto (-45), 3)), by decide⟩
theorem i_Md_init_297 : iIns M_Md_init 297 (.iinc 1 (1)) 3 := (by decide +kernel : decode prog_14_method_1_code 297 = .ok (.iinc 1 (1), 3))
theorem i_Md_init_300 : iGoto M_Md_init 300 242 := ⟨-58, (by decide +kernel : decode prog_14_method_1_code 300 = .ok (.goto (-58), 3)), by decide⟩
theorem i_Md_init_303 : iIns M_Md_init 303 .return_ 1 := (by decide +kernel : decode prog_14_method_1_code 303 = .ok (.return_, 1))
theorem i_Md_thrown_0 : iIns M_Md_thrown 0 (.aload_n 0) 1 := (by decide +kernel : decode prog_14_method_2_code 0 = .ok (.aload_n 0, 1))
theorem i_Md_thrown_1 : iGet M_Md_thrown 1 14 0 := ⟨97, (by decide +kernel : decode prog_14_method_2_code 1 = .ok (.getfield 97, 3)), fl_Md_Md_thrown⟩
theorem i_Md_thrown_4 : iIns M_Md_thrown 4 .ireturn 1 := (by decide +kernel : decode prog_14_method_2_code 4 = .ok (.ireturn, 1))
theorem i_Md_appendCharacter_0 : iIns M_Md_appendCharacter 0 (.aload_n 0) 1 := (by decide +kernel : decode prog_14_method_7_code 0 = .ok (.aload_n 0, 1))
theorem i_Md_appendCharacter_1 : iIns M_Md_appendCharacter 1 (.iconst 0) 1 := (by decide +kernel : decode prog_14_method_7_code 1 = .ok (.iconst 0, 1))
theorem i_Md_appendCharacter_2 : iPutX M_Md_appendCharacter 2 14 0 .int := ⟨97, (by decide +kernel : decode prog_14_method_7_code 2 = .ok (.putfield 97, 3)), px_Md_Md_thrown⟩
theorem i_Md_appendCharacter_5 : iIns M_Md_appendCharacter 5 (.iload_n 1) 1 := (by decide +kernel : decode prog_14_method_7_code 5 = .ok (.iload_n 1, 1))
theorem i_Md_appendCharacter_6 : iIns M_Md_appendCharacter 6 (.bipush 32) 2 := (by decide +kernel : decode prog_14_method_7_code 6 = .ok (.bipush 32, 2))
theorem i_Md_appendCharacter_8 : iIns M_Md_appendCharacter 8 (.bipush 126) 2 := (by decide +kernel : decode prog_14_method_7_code 8 = .ok (.bipush 126, 2))
theorem i_Md_appendCharacter_10 : iCallS M_Md_appendCharacter 10 M_Md_in 3 := ⟨⟨101, (by decide +kernel : decode prog_14_method_7_code 10 = .ok (.invokestatic 101, 3)), lw_k6 141 rfl rfl⟩, sm_Md_in, me_Md_in, pn_Md_in⟩
theorem i_Md_appendCharacter_13 : iIf M_Md_appendCharacter 13 .ne 22 := ⟨9, (by decide +kernel : decode prog_14_method_7_code 13 = .ok (.ifCond .ne (9), 3)), by decide⟩
theorem i_Md_appendCharacter_16 : iIns M_Md_appendCharacter 16 (.aload_n 0) 1 := (by decide +kernel : decode prog_14_method_7_code 16 = .ok (.aload_n 0, 1))
theorem i_Md_appendCharacter_17 : iIns M_Md_appendCharacter 17 (.iconst 1) 1 := (by decide +kernel : decode prog_14_method_7_code 17 = .ok (.iconst 1, 1))
theorem i_Md_appendCharacter_18 : iCallV M_Md_appendCharacter 18 M_Md_fails 1 14 := ⟨⟨105, (by decide +kernel : decode prog_14_method_7_code 18 = .ok (.invokevirtual 105, 3)), lw_k6 144 rfl rfl⟩, vm_Md_fails, me_Md_fails, pn_Md_fails⟩
theorem i_Md_appendCharacter_21 : iIns M_Md_appendCharacter 21 .ireturn 1 := (by decide +kernel : decode prog_14_method_7_code 21 = .ok (.ireturn, 1))
theorem i_Md_appendCharacter_22 : iIns M_Md_appendCharacter 22 (.aload_n 0) 1 := (by decide +kernel : decode prog_14_method_7_code 22 = .ok (.aload_n 0, 1))
theorem i_Md_appendCharacter_23 : iGet M_Md_appendCharacter 23 14 6 := ⟨109, (by decide +kernel : decode prog_14_method_7_code 23 = .ok (.getfield 109, 3)), fl_Md_Md_length⟩
theorem i_Md_appendCharacter_26 : iIns M_Md_appendCharacter 26 (.bipush 60) 2 := (by decide +kernel : decode prog_14_method_7_code 26 = .ok (.bipush 60, 2))
theorem i_Md_appendCharacter_28 : iIcmp M_Md_appendCharacter 28 .ne 37 := ⟨9, (by decide +kernel : decode prog_14_method_7_code 28 = .ok (.if_icmp .ne (9), 3)), by decide⟩
theorem i_Md_appendCharacter_31 : iIns M_Md_appendCharacter 31 (.aload_n 0) 1 := (by decide +kernel : decode prog_14_method_7_code 31 = .ok (.aload_n 0, 1))
theorem i_Md_appendCharacter_32 : iIns M_Md_appendCharacter 32 (.iconst 2) 1 := (by decide +kernel : decode prog_14_method_7_code 32 = .ok (.iconst 2, 1))
theorem i_Md_appendCharacter_33 : iCallV M_Md_appendCharacter 33 M_Md_fails 1 14 := ⟨⟨105, (by decide +kernel : decode prog_14_method_7_code 33 = .ok (.invokevirtual 105, 3)), lw_k6 144 rfl rfl⟩, vm_Md_fails, me_Md_fails, pn_Md_fails⟩
theorem i_Md_appendCharacter_36 : iIns M_Md_appendCharacter 36 .ireturn 1 := (by decide +kernel : decode prog_14_method_7_code 36 = .ok (.ireturn, 1))
theorem i_Md_appendCharacter_37 : iIns M_Md_appendCharacter 37 (.aload_n 0) 1 := (by decide +kernel : decode prog_14_method_7_code 37 = .ok (.aload_n 0, 1))
theorem i_Md_appendCharacter_38 : iGet M_Md_appendCharacter 38 14 5 := ⟨22, (by decide +kernel : decode prog_14_method_7_code 38 = .ok (.getfield 22, 3)), fl_Md_Md_text⟩
theorem i_Md_appendCharacter_41 : iIns M_Md_appendCharacter 41 (.aload_n 0) 1 := (by decide +kernel : decode prog_14_method_7_code 41 = .ok (.aload_n 0, 1))
theorem i_Md_appendCharacter_42 : iGet M_Md_appendCharacter 42 14 6 := ⟨109, (by decide +kernel : decode prog_14_method_7_code 42 = .ok (.getfield 109, 3)), fl_Md_Md_length⟩
theorem i_Md_appendCharacter_45 : iIns M_Md_appendCharacter 45 (.iload_n 1) 1 := (by decide +kernel : decode prog_14_method_7_code 45 = .ok (.iload_n 1, 1))
theorem i_Md_appendCharacter_46 : iIns M_Md_appendCharacter 46 .iastore 1 := (by decide +kernel : decode prog_14_method_7_code 46 = .ok (.iastore, 1))
theorem i_Md_appendCharacter_47 : iIns M_Md_appendCharacter 47 (.aload_n 0) 1 := (by decide +kernel : decode prog_14_method_7_code 47 = .ok (.aload_n 0, 1))
theorem i_Md_appendCharacter_48 : iIns M_Md_appendCharacter 48 .dup 1 := (by decide +kernel : decode prog_14_method_7_code 48 = .ok (.dup, 1))
theorem i_Md_appendCharacter_49 : iGet M_Md_appendCharacter 49 14 6 := ⟨109, (by decide +kernel : decode prog_14_method_7_code 49 = .ok (.getfield 109, 3)), fl_Md_Md_length⟩
theorem i_Md_appendCharacter_52 : iIns M_Md_appendCharacter 52 (.iconst 1) 1 := (by decide +kernel : decode prog_14_method_7_code 52 = .ok (.iconst 1, 1))
theorem i_Md_appendCharacter_53 : iIns M_Md_appendCharacter 53 .iadd 1 := (by decide +kernel : decode prog_14_method_7_code 53 = .ok (.iadd, 1))
theorem i_Md_appendCharacter_54 : iPutX M_Md_appendCharacter 54 14 6 .int := ⟨109, (by decide +kernel : decode prog_14_method_7_code 54 = .ok (.putfield 109, 3)), px_Md_Md_length⟩
theorem i_Md_appendCharacter_57 : iIns M_Md_appendCharacter 57 (.aload_n 0) 1 := (by decide +kernel : decode prog_14_method_7_code 57 = .ok (.aload_n 0, 1))
theorem i_Md_appendCharacter_58 : iGet M_Md_appendCharacter 58 14 6 := ⟨109, (by decide +kernel : decode prog_14_method_7_code 58 = .ok (.getfield 109, 3)), fl_Md_Md_length⟩
theorem i_Md_appendCharacter_61 : iIns M_Md_appendCharacter 61 .ireturn 1 := (by decide +kernel : decode prog_14_method_7_code 61 = .ok (.ireturn, 1))
theorem i_Md_in_0 : iIns M_Md_in 0 (.iload_n 0) 1 := (by decide +kernel : decode prog_14_method_4_code 0 = .ok (.iload_n 0, 1))
theorem i_Md_in_1 : iIns M_Md_in 1 (.iload_n 1) 1 := (by decide +kernel : decode prog_14_method_4_code 1 = .ok (.iload_n 1, 1))
theorem i_Md_in_2 : iIcmp M_Md_in 2 .lt 14 := ⟨12, (by decide +kernel : decode prog_14_method_4_code 2 = .ok (.if_icmp .lt (12), 3)), by decide⟩
theorem i_Md_in_5 : iIns M_Md_in 5 (.iload_n 0) 1 := (by decide +kernel : decode prog_14_method_4_code 5 = .ok (.iload_n 0, 1))
theorem i_Md_in_6 : iIns M_Md_in 6 (.iload_n 2) 1 := (by decide +kernel : decode prog_14_method_4_code 6 = .ok (.iload_n 2, 1))
theorem i_Md_in_7 : iIcmp M_Md_in 7 .gt 14 := ⟨7, (by decide +kernel : decode prog_14_method_4_code 7 = .ok (.if_icmp .gt (7), 3)), by decide⟩
theorem i_Md_in_10 : iIns M_Md_in 10 (.iconst 1) 1 := (by decide +kernel : decode prog_14_method_4_code 10 = .ok (.iconst 1, 1))
theorem i_Md_in_11 : iGoto M_Md_in 11 15 := ⟨4, (by decide +kernel : decode prog_14_method_4_code 11 = .ok (.goto (4), 3)), by decide⟩
theorem i_Md_in_14 : iIns M_Md_in 14 (.iconst 0) 1 := (by decide +kernel : decode prog_14_method_4_code 14 = .ok (.iconst 0, 1))
theorem i_Md_in_15 : iIns M_Md_in 15 .ireturn 1 := (by decide +kernel : decode prog_14_method_4_code 15 = .ok (.ireturn, 1))
theorem i_Md_fails_0 : iIns M_Md_fails 0 (.aload_n 0) 1 := (by decide +kernel : decode prog_14_method_3_code 0 = .ok (.aload_n 0, 1))
theorem i_Md_fails_1 : iIns M_Md_fails 1 (.iload_n 1) 1 := (by decide +kernel : decode prog_14_method_3_code 1 = .ok (.iload_n 1, 1))
theorem i_Md_fails_2 : iPutX M_Md_fails 2 14 0 .int := ⟨97, (by decide +kernel : decode prog_14_method_3_code 2 = .ok (.putfield 97, 3)), px_Md_Md_thrown⟩
theorem i_Md_fails_5 : iIns M_Md_fails 5 (.iconst 0) 1 := (by decide +kernel : decode prog_14_method_3_code 5 = .ok (.iconst 0, 1))
theorem i_Md_fails_6 : iIns M_Md_fails 6 .ireturn 1 := (by decide +kernel : decode prog_14_method_3_code 6 = .ok (.ireturn, 1))
theorem i_Md_clearText_0 : iIns M_Md_clearText 0 (.aload_n 0) 1 := (by decide +kernel : decode prog_14_method_8_code 0 = .ok (.aload_n 0, 1))
theorem i_Md_clearText_1 : iIns M_Md_clearText 1 (.iconst 0) 1 := (by decide +kernel : decode prog_14_method_8_code 1 = .ok (.iconst 0, 1))
theorem i_Md_clearText_2 : iPutX M_Md_clearText 2 14 0 .int := ⟨97, (by decide +kernel : decode prog_14_method_8_code 2 = .ok (.putfield 97, 3)), px_Md_Md_thrown⟩
theorem i_Md_clearText_5 : iIns M_Md_clearText 5 (.aload_n 0) 1 := (by decide +kernel : decode prog_14_method_8_code 5 = .ok (.aload_n 0, 1))
theorem i_Md_clearText_6 : iGet M_Md_clearText 6 14 6 := ⟨109, (by decide +kernel : decode prog_14_method_8_code 6 = .ok (.getfield 109, 3)), fl_Md_Md_length⟩
theorem i_Md_clearText_9 : iIns M_Md_clearText 9 (.istore_n 1) 1 := (by decide +kernel : decode prog_14_method_8_code 9 = .ok (.istore_n 1, 1))
theorem i_Md_clearText_10 : iIns M_Md_clearText 10 (.aload_n 0) 1 := (by decide +kernel : decode prog_14_method_8_code 10 = .ok (.aload_n 0, 1))
theorem i_Md_clearText_11 : iIns M_Md_clearText 11 (.iconst 0) 1 := (by decide +kernel : decode prog_14_method_8_code 11 = .ok (.iconst 0, 1))
theorem i_Md_clearText_12 : iPutX M_Md_clearText 12 14 6 .int := ⟨109, (by decide +kernel : decode prog_14_method_8_code 12 = .ok (.putfield 109, 3)), px_Md_Md_length⟩
theorem i_Md_clearText_15 : iIns M_Md_clearText 15 (.iload_n 1) 1 := (by decide +kernel : decode prog_14_method_8_code 15 = .ok (.iload_n 1, 1))
theorem i_Md_clearText_16 : iIns M_Md_clearText 16 .ireturn 1 := (by decide +kernel : decode prog_14_method_8_code 16 = .ok (.ireturn, 1))
theorem i_Md_setProduction_0 : iIns M_Md_setProduction 0 (.aload_n 0) 1 := (by decide +kernel : decode prog_14_method_13_code 0 = .ok (.aload_n 0, 1))
theorem i_Md_setProduction_1 : iIns M_Md_setProduction 1 (.iload_n 1) 1 := (by decide +kernel : decode prog_14_method_13_code 1 = .ok (.iload_n 1, 1))
theorem i_Md_setProduction_2 : iCallS M_Md_setProduction 2 M_Md_isTable 1 := ⟨⟨112, (by decide +kernel : decode prog_14_method_13_code 2 = .ok (.invokestatic 112, 3)), lw_k6 156 rfl rfl⟩, sm_Md_isTable, me_Md_isTable, pn_Md_isTable⟩
theorem i_Md_setProduction_5 : iIf M_Md_setProduction 5 .eq 15 := ⟨10, (by decide +kernel : decode prog_14_method_13_code 5 = .ok (.ifCond .eq (10), 3)), by decide⟩
theorem i_Md_setProduction_8 : iIns M_Md_setProduction 8 (.iload_n 2) 1 := (by decide +kernel : decode prog_14_method_13_code 8 = .ok (.iload_n 2, 1))
theorem i_Md_setProduction_9 : iCallS M_Md_setProduction 9 M_Md_isLetter 1 := ⟨⟨116, (by decide +kernel : decode prog_14_method_13_code 9 = .ok (.invokestatic 116, 3)), lw_k6 159 rfl rfl⟩, sm_Md_isLetter, me_Md_isLetter, pn_Md_isLetter⟩
theorem i_Md_setProduction_12 : iIf M_Md_setProduction 12 .ne 19 := ⟨7, (by decide +kernel : decode prog_14_method_13_code 12 = .ok (.ifCond .ne (7), 3)), by decide⟩
theorem i_Md_setProduction_15 : iIns M_Md_setProduction 15 (.iconst 1) 1 := (by decide +kernel : decode prog_14_method_13_code 15 = .ok (.iconst 1, 1))
theorem i_Md_setProduction_16 : iGoto M_Md_setProduction 16 32 := ⟨16, (by decide +kernel : decode prog_14_method_13_code 16 = .ok (.goto (16), 3)), by decide⟩
theorem i_Md_setProduction_19 : iIns M_Md_setProduction 19 (.aload_n 0) 1 := (by decide +kernel : decode prog_14_method_13_code 19 = .ok (.aload_n 0, 1))
theorem i_Md_setProduction_20 : iIns M_Md_setProduction 20 (.iconst 4) 1 := (by decide +kernel : decode prog_14_method_13_code 20 = .ok (.iconst 4, 1))
theorem i_Md_setProduction_21 : iCallV M_Md_setProduction 21 M_Md_isWord 1 14 := ⟨⟨119, (by decide +kernel : decode prog_14_method_13_code 21 = .ok (.invokevirtual 119, 3)), lw_k6 162 rfl rfl⟩, vm_Md_isWord, me_Md_isWord, pn_Md_isWord⟩
theorem i_Md_setProduction_24 : iIf M_Md_setProduction 24 .ne 31 := ⟨7, (by decide +kernel : decode prog_14_method_13_code 24 = .ok (.ifCond .ne (7), 3)), by decide⟩
theorem i_Md_setProduction_27 : iIns M_Md_setProduction 27 (.iconst 2) 1 := (by decide +kernel : decode prog_14_method_13_code 27 = .ok (.iconst 2, 1))
theorem i_Md_setProduction_28 : iGoto M_Md_setProduction 28 32 := ⟨4, (by decide +kernel : decode prog_14_method_13_code 28 = .ok (.goto (4), 3)), by decide⟩
theorem i_Md_setProduction_31 : iIns M_Md_setProduction 31 (.iconst 0) 1 := (by decide +kernel : decode prog_14_method_13_code 31 = .ok (.iconst 0, 1))
theorem i_Md_setProduction_32 : iPutX M_Md_setProduction 32 14 0 .int := ⟨97, (by decide +kernel : decode prog_14_method_13_code 32 = .ok (.putfield 97, 3)), px_Md_Md_thrown⟩
theorem i_Md_setProduction_35 : iIns M_Md_setProduction 35 (.aload_n 0) 1 := (by decide +kernel : decode prog_14_method_13_code 35 = .ok (.aload_n 0, 1))
theorem i_Md_setProduction_36 : iGet M_Md_setProduction 36 14 0 := ⟨97, (by decide +kernel : decode prog_14_method_13_code 36 = .ok (.getfield 97, 3)), fl_Md_Md_thrown⟩
theorem i_Md_setProduction_39 : iIf M_Md_setProduction 39 .le 44 := ⟨5, (by decide +kernel : decode prog_14_method_13_code 39 = .ok (.ifCond .le (5), 3)), by decide⟩
theorem i_Md_setProduction_42 : iIns M_Md_setProduction 42 (.iconst 0) 1 := (by decide +kernel : decode prog_14_method_13_code 42 = .ok (.iconst 0, 1))
theorem i_Md_setProduction_43 : iIns M_Md_setProduction 43 .ireturn 1 := (by decide +kernel : decode prog_14_method_13_code 43 = .ok (.ireturn, 1))
theorem i_Md_setProduction_44 : iIns M_Md_setProduction 44 (.iload_n 1) 1 := (by decide +kernel : decode prog_14_method_13_code 44 = .ok (.iload_n 1, 1))
theorem i_Md_setProduction_45 : iIns M_Md_setProduction 45 (.iload_n 2) 1 := (by decide +kernel : decode prog_14_method_13_code 45 = .ok (.iload_n 2, 1))
theorem i_Md_setProduction_46 : iCallS M_Md_setProduction 46 M_Md_listAt 2 := ⟨⟨122, (by decide +kernel : decode prog_14_method_13_code 46 = .ok (.invokestatic 122, 3)), lw_k6 166 rfl rfl⟩, sm_Md_listAt, me_Md_listAt, pn_Md_listAt⟩
theorem i_Md_setProduction_49 : iIns M_Md_setProduction 49 (.istore_n 3) 1 := (by decide +kernel : decode prog_14_method_13_code 49 = .ok (.istore_n 3, 1))
theorem i_Md_setProduction_50 : iIns M_Md_setProduction 50 (.aload_n 0) 1 := (by decide +kernel : decode prog_14_method_13_code 50 = .ok (.aload_n 0, 1))
theorem i_Md_setProduction_51 : iGet M_Md_setProduction 51 14 1 := ⟨9, (by decide +kernel : decode prog_14_method_13_code 51 = .ok (.getfield 9, 3)), fl_Md_Md_tables⟩
theorem i_Md_setProduction_54 : iIns M_Md_setProduction 54 (.iload_n 3) 1 := (by decide +kernel : decode prog_14_method_13_code 54 = .ok (.iload_n 3, 1))
theorem i_Md_setProduction_55 : iIns M_Md_setProduction 55 (.iconst 1) 1 := (by decide +kernel : decode prog_14_method_13_code 55 = .ok (.iconst 1, 1))
theorem i_Md_setProduction_56 : iIns M_Md_setProduction 56 .iastore 1 := (by decide +kernel : decode prog_14_method_13_code 56 = .ok (.iastore, 1))
theorem i_Md_setProduction_57 : iIns M_Md_setProduction 57 (.aload_n 0) 1 := (by decide +kernel : decode prog_14_method_13_code 57 = .ok (.aload_n 0, 1))
theorem i_Md_setProduction_58 : iIns M_Md_setProduction 58 (.aload_n 0) 1 := (by decide +kernel : decode prog_14_method_13_code 58 = .ok (.aload_n 0, 1))
theorem i_Md_setProduction_59 : iGet M_Md_setProduction 59 14 1 := ⟨9, (by decide +kernel : decode prog_14_method_13_code 59 = .ok (.getfield 9, 3)), fl_Md_Md_tables⟩
theorem i_Md_setProduction_62 : iIns M_Md_setProduction 62 (.iload_n 3) 1 := (by decide +kernel : decode prog_14_method_13_code 62 = .ok (.iload_n 3, 1))
theorem i_Md_setProduction_63 : iIns M_Md_setProduction 63 (.iconst 0) 1 := (by decide +kernel : decode prog_14_method_13_code 63 = .ok (.iconst 0, 1))
theorem i_Md_setProduction_64 : iCallS M_Md_setProduction 64 M_Md_productionAt 2 := ⟨⟨126, (by decide +kernel : decode prog_14_method_13_code 64 = .ok (.invokestatic 126, 3)), lw_k6 169 rfl rfl⟩, sm_Md_productionAt, me_Md_productionAt, pn_Md_productionAt⟩
theorem i_Md_setProduction_67 : iCallV M_Md_setProduction 67 M_Md_putWord 2 14 := ⟨⟨129, (by decide +kernel : decode prog_14_method_13_code 67 = .ok (.invokevirtual 129, 3)), lw_k6 172 rfl rfl⟩, vm_Md_putWord, me_Md_putWord, pn_Md_putWord⟩
theorem i_Md_setProduction_70 : iIns M_Md_setProduction 70 (.aload_n 0) 1 := (by decide +kernel : decode prog_14_method_13_code 70 = .ok (.aload_n 0, 1))
theorem i_Md_setProduction_71 : iGet M_Md_setProduction 71 14 6 := ⟨109, (by decide +kernel : decode prog_14_method_13_code 71 = .ok (.getfield 109, 3)), fl_Md_Md_length⟩
theorem i_Md_setProduction_74 : iIns M_Md_setProduction 74 .ireturn 1 := (by decide +kernel : decode prog_14_method_13_code 74 = .ok (.ireturn, 1))
theorem i_Md_isTable_0 : iIns M_Md_isTable 0 (.iload_n 0) 1 := (by decide +kernel : decode prog_14_method_5_code 0 = .ok (.iload_n 0, 1))
theorem i_Md_isTable_1 : iIns M_Md_isTable 1 (.iconst 0) 1 := (by decide +kernel : decode prog_14_method_5_code 1 = .ok (.iconst 0, 1))
theorem i_Md_isTable_2 : iIns M_Md_isTable 2 (.iconst 2) 1 := (by decide +kernel : decode prog_14_method_5_code 2 = .ok (.iconst 2, 1))
theorem i_Md_isTable_3 : iCallS M_Md_isTable 3 M_Md_in 3 := ⟨⟨101, (by decide +kernel : decode prog_14_method_5_code 3 = .ok (.invokestatic 101, 3)), lw_k6 141 rfl rfl⟩, sm_Md_in, me_Md_in, pn_Md_in⟩
theorem i_Md_isTable_6 : iIns M_Md_isTable 6 .ireturn 1 := (by decide +kernel : decode prog_14_method_5_code 6 = .ok (.ireturn, 1))
theorem i_Md_isLetter_0 : iIns M_Md_isLetter 0 (.iload_n 0) 1 := (by decide +kernel : decode prog_14_method_6_code 0 = .ok (.iload_n 0, 1))
theorem i_Md_isLetter_1 : iIns M_Md_isLetter 1 (.iconst 0) 1 := (by decide +kernel : decode prog_14_method_6_code 1 = .ok (.iconst 0, 1))
theorem i_Md_isLetter_2 : iIns M_Md_isLetter 2 (.iconst 5) 1 := (by decide +kernel : decode prog_14_method_6_code 2 = .ok (.iconst 5, 1))
theorem i_Md_isLetter_3 : iCallS M_Md_isLetter 3 M_Md_in 3 := ⟨⟨101, (by decide +kernel : decode prog_14_method_6_code 3 = .ok (.invokestatic 101, 3)), lw_k6 141 rfl rfl⟩, sm_Md_in, me_Md_in, pn_Md_in⟩
theorem i_Md_isLetter_6 : iIns M_Md_isLetter 6 .ireturn 1 := (by decide +kernel : decode prog_14_method_6_code 6 = .ok (.ireturn, 1))
theorem i_Md_isWord_0 : iIns M_Md_isWord 0 (.aload_n 0) 1 := (by decide +kernel : decode prog_14_method_9_code 0 = .ok (.aload_n 0, 1))
theorem i_Md_isWord_1 : iGet M_Md_isWord 1 14 6 := ⟨109, (by decide +kernel : decode prog_14_method_9_code 1 = .ok (.getfield 109, 3)), fl_Md_Md_length⟩
theorem i_Md_isWord_4 : iIns M_Md_isWord 4 (.iload_n 1) 1 := (by decide +kernel : decode prog_14_method_9_code 4 = .ok (.iload_n 1, 1))
theorem i_Md_isWord_5 : iIcmp M_Md_isWord 5 .gt 12 := ⟨7, (by decide +kernel : decode prog_14_method_9_code 5 = .ok (.if_icmp .gt (7), 3)), by decide⟩
theorem i_Md_isWord_8 : iIns M_Md_isWord 8 (.iconst 1) 1 := (by decide +kernel : decode prog_14_method_9_code 8 = .ok (.iconst 1, 1))
theorem i_Md_isWord_9 : iGoto M_Md_isWord 9 13 := ⟨4, (by decide +kernel : decode prog_14_method_9_code 9 = .ok (.goto (4), 3)), by decide⟩
theorem i_Md_isWord_12 : iIns M_Md_isWord 12 (.iconst 0) 1 := (by decide +kernel : decode prog_14_method_9_code 12 = .ok (.iconst 0, 1))
theorem i_Md_isWord_13 : iIns M_Md_isWord 13 (.istore_n 2) 1 := (by decide +kernel : decode prog_14_method_9_code 13 = .ok (.istore_n 2, 1))
theorem i_Md_isWord_14 : iIns M_Md_isWord 14 (.iconst 0) 1 := (by decide +kernel : decode prog_14_method_9_code 14 = .ok (.iconst 0, 1))
theorem i_Md_isWord_15 : iIns M_Md_isWord 15 (.istore_n 3) 1 := (by decide +kernel : decode prog_14_method_9_code 15 = .ok (.istore_n 3, 1))
theorem i_Md_isWord_16 : iIns M_Md_isWord 16 (.iload_n 3) 1 := (by decide +kernel : decode prog_14_method_9_code 16 = .ok (.iload_n 3, 1))
theorem i_Md_isWord_17 : iIns M_Md_isWord 17 (.aload_n 0) 1 := (by decide +kernel : decode prog_14_method_9_code 17 = .ok (.aload_n 0, 1))
theorem i_Md_isWord_18 : iGet M_Md_isWord 18 14 6 := ⟨109, (by decide +kernel : decode prog_14_method_9_code 18 = .ok (.getfield 109, 3)), fl_Md_Md_length⟩
theorem i_Md_isWord_21 : iIcmp M_Md_isWord 21 .ge 56 := ⟨35, (by decide +kernel : decode prog_14_method_9_code 21 = .ok (.if_icmp .ge (35), 3)), by decide⟩
theorem i_Md_isWord_24 : iIns M_Md_isWord 24 (.iload_n 2) 1 := (by decide +kernel : decode prog_14_method_9_code 24 = .ok (.iload_n 2, 1))
theorem i_Md_isWord_25 : iIf M_Md_isWord 25 .eq 48 := ⟨23, (by decide +kernel : decode prog_14_method_9_code 25 = .ok (.ifCond .eq (23), 3)), by decide⟩
theorem i_Md_isWord_28 : iIns M_Md_isWord 28 (.aload_n 0) 1 := (by decide +kernel : decode prog_14_method_9_code 28 = .ok (.aload_n 0, 1))
theorem i_Md_isWord_29 : iGet M_Md_isWord 29 14 5 := ⟨22, (by decide +kernel : decode prog_14_method_9_code 29 = .ok (.getfield 22, 3)), fl_Md_Md_text⟩
theorem i_Md_isWord_32 : iIns M_Md_isWord 32 (.iload_n 3) 1 := (by decide +kernel : decode prog_14_method_9_code 32 = .ok (.iload_n 3, 1))
theorem i_Md_isWord_33 : iIns M_Md_isWord 33 .iaload 1 := (by decide +kernel : decode prog_14_method_9_code 33 = .ok (.iaload, 1))
theorem i_Md_isWord_34 : iIns M_Md_isWord 34 (.bipush 97) 2 := (by decide +kernel : decode prog_14_method_9_code 34 = .ok (.bipush 97, 2))
theorem i_Md_isWord_36 : iIns M_Md_isWord 36 (.bipush 102) 2 := (by decide +kernel : decode prog_14_method_9_code 36 = .ok (.bipush 102, 2))
theorem i_Md_isWord_38 : iCallS M_Md_isWord 38 M_Md_in 3 := ⟨⟨101, (by decide +kernel : decode prog_14_method_9_code 38 = .ok (.invokestatic 101, 3)), lw_k6 141 rfl rfl⟩, sm_Md_in, me_Md_in, pn_Md_in⟩
theorem i_Md_isWord_41 : iIf M_Md_isWord 41 .eq 48 := ⟨7, (by decide +kernel : decode prog_14_method_9_code 41 = .ok (.ifCond .eq (7), 3)), by decide⟩
theorem i_Md_isWord_44 : iIns M_Md_isWord 44 (.iconst 1) 1 := (by decide +kernel : decode prog_14_method_9_code 44 = .ok (.iconst 1, 1))
theorem i_Md_isWord_45 : iGoto M_Md_isWord 45 49 := ⟨4, (by decide +kernel : decode prog_14_method_9_code 45 = .ok (.goto (4), 3)), by decide⟩
theorem i_Md_isWord_48 : iIns M_Md_isWord 48 (.iconst 0) 1 := (by decide +kernel : decode prog_14_method_9_code 48 = .ok (.iconst 0, 1))
theorem i_Md_isWord_49 : iIns M_Md_isWord 49 (.istore_n 2) 1 := (by decide +kernel : decode prog_14_method_9_code 49 = .ok (.istore_n 2, 1))
theorem i_Md_isWord_50 : iIns M_Md_isWord 50 (.iinc 3 (1)) 3 := (by decide +kernel : decode prog_14_method_9_code 50 = .ok (.iinc 3 (1), 3))
theorem i_Md_isWord_53 : iGoto M_Md_isWord 53 16 := ⟨-37, (by decide +kernel : decode prog_14_method_9_code 53 = .ok (.goto (-37), 3)), by decide⟩
theorem i_Md_isWord_56 : iIns M_Md_isWord 56 (.iload_n 2) 1 := (by decide +kernel : decode prog_14_method_9_code 56 = .ok (.iload_n 2, 1))
theorem i_Md_isWord_57 : iIns M_Md_isWord 57 .ireturn 1 := (by decide +kernel : decode prog_14_method_9_code 57 = .ok (.ireturn, 1))
theorem i_Md_listAt_0 : iIns M_Md_listAt 0 (.sipush 139) 3 := (by decide +kernel : decode prog_14_method_11_code 0 = .ok (.sipush 139, 3))
theorem i_Md_listAt_3 : iIns M_Md_listAt 3 (.iload_n 0) 1 := (by decide +kernel : decode prog_14_method_11_code 3 = .ok (.iload_n 0, 1))
theorem i_Md_listAt_4 : iIns M_Md_listAt 4 .imul 1 := (by decide +kernel : decode prog_14_method_11_code 4 = .ok (.imul, 1))
theorem i_Md_listAt_5 : iIns M_Md_listAt 5 (.bipush 16) 2 := (by decide +kernel : decode prog_14_method_11_code 5 = .ok (.bipush 16, 2))
theorem i_Md_listAt_7 : iIns M_Md_listAt 7 (.iload_n 1) 1 := (by decide +kernel : decode prog_14_method_11_code 7 = .ok (.iload_n 1, 1))
theorem i_Md_listAt_8 : iIns M_Md_listAt 8 .imul 1 := (by decide +kernel : decode prog_14_method_11_code 8 = .ok (.imul, 1))
theorem i_Md_listAt_9 : iIns M_Md_listAt 9 .iadd 1 := (by decide +kernel : decode prog_14_method_11_code 9 = .ok (.iadd, 1))
theorem i_Md_listAt_10 : iIns M_Md_listAt 10 .ireturn 1 := (by decide +kernel : decode prog_14_method_11_code 10 = .ok (.ireturn, 1))
theorem i_Md_productionAt_0 : iIns M_Md_productionAt 0 (.iload_n 0) 1 := (by decide +kernel : decode prog_14_method_12_code 0 = .ok (.iload_n 0, 1))
theorem i_Md_productionAt_1 : iIns M_Md_productionAt 1 (.iconst 1) 1 := (by decide +kernel : decode prog_14_method_12_code 1 = .ok (.iconst 1, 1))
theorem i_Md_productionAt_2 : iIns M_Md_productionAt 2 .iadd 1 := (by decide +kernel : decode prog_14_method_12_code 2 = .ok (.iadd, 1))
theorem i_Md_productionAt_3 : iIns M_Md_productionAt 3 (.iconst 5) 1 := (by decide +kernel : decode prog_14_method_12_code 3 = .ok (.iconst 5, 1))
theorem i_Md_productionAt_4 : iIns M_Md_productionAt 4 (.iload_n 1) 1 := (by decide +kernel : decode prog_14_method_12_code 4 = .ok (.iload_n 1, 1))
theorem i_Md_productionAt_5 : iIns M_Md_productionAt 5 .imul 1 := (by decide +kernel : decode prog_14_method_12_code 5 = .ok (.imul, 1))
theorem i_Md_productionAt_6 : iIns M_Md_productionAt 6 .iadd 1 := (by decide +kernel : decode prog_14_method_12_code 6 = .ok (.iadd, 1))
theorem i_Md_productionAt_7 : iIns M_Md_productionAt 7 .ireturn 1 := (by decide +kernel : decode prog_14_method_12_code 7 = .ok (.ireturn, 1))
theorem i_Md_putWord_0 : iIns M_Md_putWord 0 (.aload_n 1) 1 := (by decide +kernel : decode prog_14_method_10_code 0 = .ok (.aload_n 1, 1))
theorem i_Md_putWord_1 : iIns M_Md_putWord 1 (.iload_n 2) 1 := (by decide +kernel : decode prog_14_method_10_code 1 = .ok (.iload_n 2, 1))
theorem i_Md_putWord_2 : iIns M_Md_putWord 2 (.aload_n 0) 1 := (by decide +kernel : decode prog_14_method_10_code 2 = .ok (.aload_n 0, 1))
theorem i_Md_putWord_3 : iGet M_Md_putWord 3 14 6 := ⟨109, (by decide +kernel : decode prog_14_method_10_code 3 = .ok (.getfield 109, 3)), fl_Md_Md_length⟩
theorem i_Md_putWord_6 : iIns M_Md_putWord 6 .iastore 1 := (by decide +kernel : decode prog_14_method_10_code 6 = .ok (.iastore, 1))
theorem i_Md_putWord_7 : iIns M_Md_putWord 7 (.iconst 0) 1 := (by decide +kernel : decode prog_14_method_10_code 7 = .ok (.iconst 0, 1))
theorem i_Md_putWord_8 : iIns M_Md_putWord 8 (.istore_n 3) 1 := (by decide +kernel : decode prog_14_method_10_code 8 = .ok (.istore_n 3, 1))
theorem i_Md_putWord_9 : iIns M_Md_putWord 9 (.iload_n 3) 1 := (by decide +kernel : decode prog_14_method_10_code 9 = .ok (.iload_n 3, 1))
theorem i_Md_putWord_10 : iIns M_Md_putWord 10 (.aload_n 0) 1 := (by decide +kernel : decode prog_14_method_10_code 10 = .ok (.aload_n 0, 1))
theorem i_Md_putWord_11 : iGet M_Md_putWord 11 14 6 := ⟨109, (by decide +kernel : decode prog_14_method_10_code 11 = .ok (.getfield 109, 3)), fl_Md_Md_length⟩
theorem i_Md_putWord_14 : iIcmp M_Md_putWord 14 .ge 39 := ⟨25, (by decide +kernel : decode prog_14_method_10_code 14 = .ok (.if_icmp .ge (25), 3)), by decide⟩
theorem i_Md_putWord_17 : iIns M_Md_putWord 17 (.aload_n 1) 1 := (by decide +kernel : decode prog_14_method_10_code 17 = .ok (.aload_n 1, 1))
theorem i_Md_putWord_18 : iIns M_Md_putWord 18 (.iload_n 2) 1 := (by decide +kernel : decode prog_14_method_10_code 18 = .ok (.iload_n 2, 1))
theorem i_Md_putWord_19 : iIns M_Md_putWord 19 (.iconst 1) 1 := (by decide +kernel : decode prog_14_method_10_code 19 = .ok (.iconst 1, 1))
theorem i_Md_putWord_20 : iIns M_Md_putWord 20 .iadd 1 := (by decide +kernel : decode prog_14_method_10_code 20 = .ok (.iadd, 1))
theorem i_Md_putWord_21 : iIns M_Md_putWord 21 (.iload_n 3) 1 := (by decide +kernel : decode prog_14_method_10_code 21 = .ok (.iload_n 3, 1))
theorem i_Md_putWord_22 : iIns M_Md_putWord 22 .iadd 1 := (by decide +kernel : decode prog_14_method_10_code 22 = .ok (.iadd, 1))
theorem i_Md_putWord_23 : iIns M_Md_putWord 23 (.aload_n 0) 1 := (by decide +kernel : decode prog_14_method_10_code 23 = .ok (.aload_n 0, 1))
theorem i_Md_putWord_24 : iGet M_Md_putWord 24 14 5 := ⟨22, (by decide +kernel : decode prog_14_method_10_code 24 = .ok (.getfield 22, 3)), fl_Md_Md_text⟩
theorem i_Md_putWord_27 : iIns M_Md_putWord 27 (.iload_n 3) 1 := (by decide +kernel : decode prog_14_method_10_code 27 = .ok (.iload_n 3, 1))
theorem i_Md_putWord_28 : iIns M_Md_putWord 28 .iaload 1 := (by decide +kernel : decode prog_14_method_10_code 28 = .ok (.iaload, 1))
theorem i_Md_putWord_29 : iIns M_Md_putWord 29 (.bipush 97) 2 := (by decide +kernel : decode prog_14_method_10_code 29 = .ok (.bipush 97, 2))
theorem i_Md_putWord_31 : iIns M_Md_putWord 31 .isub 1 := (by decide +kernel : decode prog_14_method_10_code 31 = .ok (.isub, 1))
theorem i_Md_putWord_32 : iIns M_Md_putWord 32 .iastore 1 := (by decide +kernel : decode prog_14_method_10_code 32 = .ok (.iastore, 1))
theorem i_Md_putWord_33 : iIns M_Md_putWord 33 (.iinc 3 (1)) 3 := (by decide +kernel : decode prog_14_method_10_code 33 = .ok (.iinc 3 (1), 3))
theorem i_Md_putWord_36 : iGoto M_Md_putWord 36 9 := ⟨-27, (by decide +kernel : decode prog_14_method_10_code 36 = .ok (.goto (-27), 3)), by decide⟩
theorem i_Md_putWord_39 : iIns M_Md_putWord 39 .return_ 1 := (by decide +kernel : decode prog_14_method_10_code 39 = .ok (.return_, 1))
theorem i_Md_addProduction_0 : iIns M_Md_addProduction 0 (.aload_n 0) 1 := (by decide +kernel : decode prog_14_method_14_code 0 = .ok (.aload_n 0, 1))
theorem i_Md_addProduction_1 : iIns M_Md_addProduction 1 (.iload_n 1) 1 := (by decide +kernel : decode prog_14_method_14_code 1 = .ok (.iload_n 1, 1))
theorem i_Md_addProduction_2 : iCallS M_Md_addProduction 2 M_Md_isTable 1 := ⟨⟨112, (by decide +kernel : decode prog_14_method_14_code 2 = .ok (.invokestatic 112, 3)), lw_k6 156 rfl rfl⟩, sm_Md_isTable, me_Md_isTable, pn_Md_isTable⟩
theorem i_Md_addProduction_5 : iIf M_Md_addProduction 5 .eq 15 := ⟨10, (by decide +kernel : decode prog_14_method_14_code 5 = .ok (.ifCond .eq (10), 3)), by decide⟩
theorem i_Md_addProduction_8 : iIns M_Md_addProduction 8 (.iload_n 2) 1 := (by decide +kernel : decode prog_14_method_14_code 8 = .ok (.iload_n 2, 1))
theorem i_Md_addProduction_9 : iCallS M_Md_addProduction 9 M_Md_isLetter 1 := ⟨⟨116, (by decide +kernel : decode prog_14_method_14_code 9 = .ok (.invokestatic 116, 3)), lw_k6 159 rfl rfl⟩, sm_Md_isLetter, me_Md_isLetter, pn_Md_isLetter⟩
theorem i_Md_addProduction_12 : iIf M_Md_addProduction 12 .ne 19 := ⟨7, (by decide +kernel : decode prog_14_method_14_code 12 = .ok (.ifCond .ne (7), 3)), by decide⟩
theorem i_Md_addProduction_15 : iIns M_Md_addProduction 15 (.iconst 1) 1 := (by decide +kernel : decode prog_14_method_14_code 15 = .ok (.iconst 1, 1))
theorem i_Md_addProduction_16 : iGoto M_Md_addProduction 16 50 := ⟨34, (by decide +kernel : decode prog_14_method_14_code 16 = .ok (.goto (34), 3)), by decide⟩
theorem i_Md_addProduction_19 : iIns M_Md_addProduction 19 (.aload_n 0) 1 := (by decide +kernel : decode prog_14_method_14_code 19 = .ok (.aload_n 0, 1))
theorem i_Md_addProduction_20 : iIns M_Md_addProduction 20 (.iconst 4) 1 := (by decide +kernel : decode prog_14_method_14_code 20 = .ok (.iconst 4, 1))
theorem i_Md_addProduction_21 : iCallV M_Md_addProduction 21 M_Md_isWord 1 14 := ⟨⟨119, (by decide +kernel : decode prog_14_method_14_code 21 = .ok (.invokevirtual 119, 3)), lw_k6 162 rfl rfl⟩, vm_Md_isWord, me_Md_isWord, pn_Md_isWord⟩
theorem i_Md_addProduction_24 : iIf M_Md_addProduction 24 .ne 31 := ⟨7, (by decide +kernel : decode prog_14_method_14_code 24 = .ok (.ifCond .ne (7), 3)), by decide⟩
theorem i_Md_addProduction_27 : iIns M_Md_addProduction 27 (.iconst 2) 1 := (by decide +kernel : decode prog_14_method_14_code 27 = .ok (.iconst 2, 1))
theorem i_Md_addProduction_28 : iGoto M_Md_addProduction 28 50 := ⟨22, (by decide +kernel : decode prog_14_method_14_code 28 = .ok (.goto (22), 3)), by decide⟩
theorem i_Md_addProduction_31 : iIns M_Md_addProduction 31 (.aload_n 0) 1 := (by decide +kernel : decode prog_14_method_14_code 31 = .ok (.aload_n 0, 1))
theorem i_Md_addProduction_32 : iGet M_Md_addProduction 32 14 1 := ⟨9, (by decide +kernel : decode prog_14_method_14_code 32 = .ok (.getfield 9, 3)), fl_Md_Md_tables⟩
theorem i_Md_addProduction_35 : iIns M_Md_addProduction 35 (.iload_n 1) 1 := (by decide +kernel : decode prog_14_method_14_code 35 = .ok (.iload_n 1, 1))
theorem i_Md_addProduction_36 : iIns M_Md_addProduction 36 (.iload_n 2) 1 := (by decide +kernel : decode prog_14_method_14_code 36 = .ok (.iload_n 2, 1))
theorem i_Md_addProduction_37 : iCallS M_Md_addProduction 37 M_Md_listAt 2 := ⟨⟨122, (by decide +kernel : decode prog_14_method_14_code 37 = .ok (.invokestatic 122, 3)), lw_k6 166 rfl rfl⟩, sm_Md_listAt, me_Md_listAt, pn_Md_listAt⟩
theorem i_Md_addProduction_40 : iIns M_Md_addProduction 40 .iaload 1 := (by decide +kernel : decode prog_14_method_14_code 40 = .ok (.iaload, 1))
theorem i_Md_addProduction_41 : iIns M_Md_addProduction 41 (.iconst 3) 1 := (by decide +kernel : decode prog_14_method_14_code 41 = .ok (.iconst 3, 1))
theorem i_Md_addProduction_42 : iIcmp M_Md_addProduction 42 .ne 49 := ⟨7, (by decide +kernel : decode prog_14_method_14_code 42 = .ok (.if_icmp .ne (7), 3)), by decide⟩
theorem i_Md_addProduction_45 : iIns M_Md_addProduction 45 (.iconst 3) 1 := (by decide +kernel : decode prog_14_method_14_code 45 = .ok (.iconst 3, 1))
theorem i_Md_addProduction_46 : iGoto M_Md_addProduction 46 50 := ⟨4, (by decide +kernel : decode prog_14_method_14_code 46 = .ok (.goto (4), 3)), by decide⟩
theorem i_Md_addProduction_49 : iIns M_Md_addProduction 49 (.iconst 0) 1 := (by decide +kernel : decode prog_14_method_14_code 49 = .ok (.iconst 0, 1))
theorem i_Md_addProduction_50 : iPutX M_Md_addProduction 50 14 0 .int := ⟨97, (by decide +kernel : decode prog_14_method_14_code 50 = .ok (.putfield 97, 3)), px_Md_Md_thrown⟩
theorem i_Md_addProduction_53 : iIns M_Md_addProduction 53 (.aload_n 0) 1 := (by decide +kernel : decode prog_14_method_14_code 53 = .ok (.aload_n 0, 1))
theorem i_Md_addProduction_54 : iGet M_Md_addProduction 54 14 0 := ⟨97, (by decide +kernel : decode prog_14_method_14_code 54 = .ok (.getfield 97, 3)), fl_Md_Md_thrown⟩
theorem i_Md_addProduction_57 : iIf M_Md_addProduction 57 .le 62 := ⟨5, (by decide +kernel : decode prog_14_method_14_code 57 = .ok (.ifCond .le (5), 3)), by decide⟩
theorem i_Md_addProduction_60 : iIns M_Md_addProduction 60 (.iconst 0) 1 := (by decide +kernel : decode prog_14_method_14_code 60 = .ok (.iconst 0, 1))
theorem i_Md_addProduction_61 : iIns M_Md_addProduction 61 .ireturn 1 := (by decide +kernel : decode prog_14_method_14_code 61 = .ok (.ireturn, 1))
theorem i_Md_addProduction_62 : iIns M_Md_addProduction 62 (.iload_n 1) 1 := (by decide +kernel : decode prog_14_method_14_code 62 = .ok (.iload_n 1, 1))
theorem i_Md_addProduction_63 : iIns M_Md_addProduction 63 (.iload_n 2) 1 := (by decide +kernel : decode prog_14_method_14_code 63 = .ok (.iload_n 2, 1))
theorem i_Md_addProduction_64 : iCallS M_Md_addProduction 64 M_Md_listAt 2 := ⟨⟨122, (by decide +kernel : decode prog_14_method_14_code 64 = .ok (.invokestatic 122, 3)), lw_k6 166 rfl rfl⟩, sm_Md_listAt, me_Md_listAt, pn_Md_listAt⟩
theorem i_Md_addProduction_67 : iIns M_Md_addProduction 67 (.istore_n 3) 1 := (by decide +kernel : decode prog_14_method_14_code 67 = .ok (.istore_n 3, 1))
theorem i_Md_addProduction_68 : iIns M_Md_addProduction 68 (.aload_n 0) 1 := (by decide +kernel : decode prog_14_method_14_code 68 = .ok (.aload_n 0, 1))
theorem i_Md_addProduction_69 : iGet M_Md_addProduction 69 14 1 := ⟨9, (by decide +kernel : decode prog_14_method_14_code 69 = .ok (.getfield 9, 3)), fl_Md_Md_tables⟩
theorem i_Md_addProduction_72 : iIns M_Md_addProduction 72 (.iload_n 3) 1 := (by decide +kernel : decode prog_14_method_14_code 72 = .ok (.iload_n 3, 1))
theorem i_Md_addProduction_73 : iIns M_Md_addProduction 73 .iaload 1 := (by decide +kernel : decode prog_14_method_14_code 73 = .ok (.iaload, 1))
theorem i_Md_addProduction_74 : iIns M_Md_addProduction 74 (.istore 4) 2 := (by decide +kernel : decode prog_14_method_14_code 74 = .ok (.istore 4, 2))
theorem i_Md_addProduction_76 : iIns M_Md_addProduction 76 (.aload_n 0) 1 := (by decide +kernel : decode prog_14_method_14_code 76 = .ok (.aload_n 0, 1))
theorem i_Md_addProduction_77 : iIns M_Md_addProduction 77 (.aload_n 0) 1 := (by decide +kernel : decode prog_14_method_14_code 77 = .ok (.aload_n 0, 1))
theorem i_Md_addProduction_78 : iGet M_Md_addProduction 78 14 1 := ⟨9, (by decide +kernel : decode prog_14_method_14_code 78 = .ok (.getfield 9, 3)), fl_Md_Md_tables⟩
theorem i_Md_addProduction_81 : iIns M_Md_addProduction 81 (.iload_n 3) 1 := (by decide +kernel : decode prog_14_method_14_code 81 = .ok (.iload_n 3, 1))
theorem i_Md_addProduction_82 : iIns M_Md_addProduction 82 (.iload 4) 2 := (by decide +kernel : decode prog_14_method_14_code 82 = .ok (.iload 4, 2))
theorem i_Md_addProduction_84 : iCallS M_Md_addProduction 84 M_Md_productionAt 2 := ⟨⟨126, (by decide +kernel : decode prog_14_method_14_code 84 = .ok (.invokestatic 126, 3)), lw_k6 169 rfl rfl⟩, sm_Md_productionAt, me_Md_productionAt, pn_Md_productionAt⟩
theorem i_Md_addProduction_87 : iCallV M_Md_addProduction 87 M_Md_putWord 2 14 := ⟨⟨129, (by decide +kernel : decode prog_14_method_14_code 87 = .ok (.invokevirtual 129, 3)), lw_k6 172 rfl rfl⟩, vm_Md_putWord, me_Md_putWord, pn_Md_putWord⟩
theorem i_Md_addProduction_90 : iIns M_Md_addProduction 90 (.aload_n 0) 1 := (by decide +kernel : decode prog_14_method_14_code 90 = .ok (.aload_n 0, 1))
theorem i_Md_addProduction_91 : iGet M_Md_addProduction 91 14 1 := ⟨9, (by decide +kernel : decode prog_14_method_14_code 91 = .ok (.getfield 9, 3)), fl_Md_Md_tables⟩
theorem i_Md_addProduction_94 : iIns M_Md_addProduction 94 (.iload_n 3) 1 := (by decide +kernel : decode prog_14_method_14_code 94 = .ok (.iload_n 3, 1))
theorem i_Md_addProduction_95 : iIns M_Md_addProduction 95 .dup2 1 := (by decide +kernel : decode prog_14_method_14_code 95 = .ok (.dup2, 1))
theorem i_Md_addProduction_96 : iIns M_Md_addProduction 96 .iaload 1 := (by decide +kernel : decode prog_14_method_14_code 96 = .ok (.iaload, 1))
theorem i_Md_addProduction_97 : iIns M_Md_addProduction 97 (.iconst 1) 1 := (by decide +kernel : decode prog_14_method_14_code 97 = .ok (.iconst 1, 1))
theorem i_Md_addProduction_98 : iIns M_Md_addProduction 98 .iadd 1 := (by decide +kernel : decode prog_14_method_14_code 98 = .ok (.iadd, 1))
theorem i_Md_addProduction_99 : iIns M_Md_addProduction 99 .iastore 1 := (by decide +kernel : decode prog_14_method_14_code 99 = .ok (.iastore, 1))
theorem i_Md_addProduction_100 : iIns M_Md_addProduction 100 (.iload 4) 2 := (by decide +kernel : decode prog_14_method_14_code 100 = .ok (.iload 4, 2))
theorem i_Md_addProduction_102 : iIns M_Md_addProduction 102 .ireturn 1 := (by decide +kernel : decode prog_14_method_14_code 102 = .ok (.ireturn, 1))
theorem i_Md_productionCount_0 : iIns M_Md_productionCount 0 (.aload_n 0) 1 := (by decide +kernel : decode prog_14_method_15_code 0 = .ok (.aload_n 0, 1))
theorem i_Md_productionCount_1 : iIns M_Md_productionCount 1 (.iload_n 1) 1 := (by decide +kernel : decode prog_14_method_15_code 1 = .ok (.iload_n 1, 1))
theorem i_Md_productionCount_2 : iCallS M_Md_productionCount 2 M_Md_isTable 1 := ⟨⟨112, (by decide +kernel : decode prog_14_method_15_code 2 = .ok (.invokestatic 112, 3)), lw_k6 156 rfl rfl⟩, sm_Md_isTable, me_Md_isTable, pn_Md_isTable⟩
theorem i_Md_productionCount_5 : iIf M_Md_productionCount 5 .eq 19 := ⟨14, (by decide +kernel : decode prog_14_method_15_code 5 = .ok (.ifCond .eq (14), 3)), by decide⟩
theorem i_Md_productionCount_8 : iIns M_Md_productionCount 8 (.iload_n 2) 1 := (by decide +kernel : decode prog_14_method_15_code 8 = .ok (.iload_n 2, 1))
theorem i_Md_productionCount_9 : iCallS M_Md_productionCount 9 M_Md_isLetter 1 := ⟨⟨116, (by decide +kernel : decode prog_14_method_15_code 9 = .ok (.invokestatic 116, 3)), lw_k6 159 rfl rfl⟩, sm_Md_isLetter, me_Md_isLetter, pn_Md_isLetter⟩
theorem i_Md_productionCount_12 : iIf M_Md_productionCount 12 .eq 19 := ⟨7, (by decide +kernel : decode prog_14_method_15_code 12 = .ok (.ifCond .eq (7), 3)), by decide⟩
theorem i_Md_productionCount_15 : iIns M_Md_productionCount 15 (.iconst 0) 1 := (by decide +kernel : decode prog_14_method_15_code 15 = .ok (.iconst 0, 1))
theorem i_Md_productionCount_16 : iGoto M_Md_productionCount 16 20 := ⟨4, (by decide +kernel : decode prog_14_method_15_code 16 = .ok (.goto (4), 3)), by decide⟩
theorem i_Md_productionCount_19 : iIns M_Md_productionCount 19 (.iconst 1) 1 := (by decide +kernel : decode prog_14_method_15_code 19 = .ok (.iconst 1, 1))
theorem i_Md_productionCount_20 : iPutX M_Md_productionCount 20 14 0 .int := ⟨97, (by decide +kernel : decode prog_14_method_15_code 20 = .ok (.putfield 97, 3)), px_Md_Md_thrown⟩
theorem i_Md_productionCount_23 : iIns M_Md_productionCount 23 (.aload_n 0) 1 := (by decide +kernel : decode prog_14_method_15_code 23 = .ok (.aload_n 0, 1))
theorem i_Md_productionCount_24 : iGet M_Md_productionCount 24 14 0 := ⟨97, (by decide +kernel : decode prog_14_method_15_code 24 = .ok (.getfield 97, 3)), fl_Md_Md_thrown⟩
theorem i_Md_productionCount_27 : iIf M_Md_productionCount 27 .le 34 := ⟨7, (by decide +kernel : decode prog_14_method_15_code 27 = .ok (.ifCond .le (7), 3)), by decide⟩
theorem i_Md_productionCount_30 : iIns M_Md_productionCount 30 (.iconst 0) 1 := (by decide +kernel : decode prog_14_method_15_code 30 = .ok (.iconst 0, 1))
theorem i_Md_productionCount_31 : iGoto M_Md_productionCount 31 44 := ⟨13, (by decide +kernel : decode prog_14_method_15_code 31 = .ok (.goto (13), 3)), by decide⟩
theorem i_Md_productionCount_34 : iIns M_Md_productionCount 34 (.aload_n 0) 1 := (by decide +kernel : decode prog_14_method_15_code 34 = .ok (.aload_n 0, 1))
theorem i_Md_productionCount_35 : iGet M_Md_productionCount 35 14 1 := ⟨9, (by decide +kernel : decode prog_14_method_15_code 35 = .ok (.getfield 9, 3)), fl_Md_Md_tables⟩
theorem i_Md_productionCount_38 : iIns M_Md_productionCount 38 (.iload_n 1) 1 := (by decide +kernel : decode prog_14_method_15_code 38 = .ok (.iload_n 1, 1))
theorem i_Md_productionCount_39 : iIns M_Md_productionCount 39 (.iload_n 2) 1 := (by decide +kernel : decode prog_14_method_15_code 39 = .ok (.iload_n 2, 1))
theorem i_Md_productionCount_40 : iCallS M_Md_productionCount 40 M_Md_listAt 2 := ⟨⟨122, (by decide +kernel : decode prog_14_method_15_code 40 = .ok (.invokestatic 122, 3)), lw_k6 166 rfl rfl⟩, sm_Md_listAt, me_Md_listAt, pn_Md_listAt⟩
theorem i_Md_productionCount_43 : iIns M_Md_productionCount 43 .iaload 1 := (by decide +kernel : decode prog_14_method_15_code 43 = .ok (.iaload, 1))
theorem i_Md_productionCount_44 : iIns M_Md_productionCount 44 .ireturn 1 := (by decide +kernel : decode prog_14_method_15_code 44 = .ok (.ireturn, 1))
theorem i_Md_setContextRule_0 : iIns M_Md_setContextRule 0 (.aload_n 0) 1 := (by decide +kernel : decode prog_14_method_20_code 0 = .ok (.aload_n 0, 1))
theorem i_Md_setContextRule_1 : iIns M_Md_setContextRule 1 (.iload_n 1) 1 := (by decide +kernel : decode prog_14_method_20_code 1 = .ok (.iload_n 1, 1))
theorem i_Md_setContextRule_2 : iIns M_Md_setContextRule 2 (.iload_n 2) 1 := (by decide +kernel : decode prog_14_method_20_code 2 = .ok (.iload_n 2, 1))
theorem i_Md_setContextRule_3 : iIns M_Md_setContextRule 3 (.iload_n 3) 1 := (by decide +kernel : decode prog_14_method_20_code 3 = .ok (.iload_n 3, 1))
theorem i_Md_setContextRule_4 : iCallS M_Md_setContextRule 4 M_Md_areLetters 3 := ⟨⟨139, (by decide +kernel : decode prog_14_method_20_code 4 = .ok (.invokestatic 139, 3)), lw_k6 188 rfl rfl⟩, sm_Md_areLetters, me_Md_areLetters, pn_Md_areLetters⟩
theorem i_Md_setContextRule_7 : iIf M_Md_setContextRule 7 .ne 14 := ⟨7, (by decide +kernel : decode prog_14_method_20_code 7 = .ok (.ifCond .ne (7), 3)), by decide⟩
theorem i_Md_setContextRule_10 : iIns M_Md_setContextRule 10 (.iconst 1) 1 := (by decide +kernel : decode prog_14_method_20_code 10 = .ok (.iconst 1, 1))
theorem i_Md_setContextRule_11 : iGoto M_Md_setContextRule 11 27 := ⟨16, (by decide +kernel : decode prog_14_method_20_code 11 = .ok (.goto (16), 3)), by decide⟩
theorem i_Md_setContextRule_14 : iIns M_Md_setContextRule 14 (.aload_n 0) 1 := (by decide +kernel : decode prog_14_method_20_code 14 = .ok (.aload_n 0, 1))
theorem i_Md_setContextRule_15 : iIns M_Md_setContextRule 15 (.iconst 4) 1 := (by decide +kernel : decode prog_14_method_20_code 15 = .ok (.iconst 4, 1))
theorem i_Md_setContextRule_16 : iCallV M_Md_setContextRule 16 M_Md_isWord 1 14 := ⟨⟨119, (by decide +kernel : decode prog_14_method_20_code 16 = .ok (.invokevirtual 119, 3)), lw_k6 162 rfl rfl⟩, vm_Md_isWord, me_Md_isWord, pn_Md_isWord⟩
theorem i_Md_setContextRule_19 : iIf M_Md_setContextRule 19 .ne 26 := ⟨7, (by decide +kernel : decode prog_14_method_20_code 19 = .ok (.ifCond .ne (7), 3)), by decide⟩
theorem i_Md_setContextRule_22 : iIns M_Md_setContextRule 22 (.iconst 2) 1 := (by decide +kernel : decode prog_14_method_20_code 22 = .ok (.iconst 2, 1))
theorem i_Md_setContextRule_23 : iGoto M_Md_setContextRule 23 27 := ⟨4, (by decide +kernel : decode prog_14_method_20_code 23 = .ok (.goto (4), 3)), by decide⟩
theorem i_Md_setContextRule_26 : iIns M_Md_setContextRule 26 (.iconst 0) 1 := (by decide +kernel : decode prog_14_method_20_code 26 = .ok (.iconst 0, 1))
theorem i_Md_setContextRule_27 : iPutX M_Md_setContextRule 27 14 0 .int := ⟨97, (by decide +kernel : decode prog_14_method_20_code 27 = .ok (.putfield 97, 3)), px_Md_Md_thrown⟩
theorem i_Md_setContextRule_30 : iIns M_Md_setContextRule 30 (.aload_n 0) 1 := (by decide +kernel : decode prog_14_method_20_code 30 = .ok (.aload_n 0, 1))
theorem i_Md_setContextRule_31 : iGet M_Md_setContextRule 31 14 0 := ⟨97, (by decide +kernel : decode prog_14_method_20_code 31 = .ok (.getfield 97, 3)), fl_Md_Md_thrown⟩
theorem i_Md_setContextRule_34 : iIf M_Md_setContextRule 34 .le 39 := ⟨5, (by decide +kernel : decode prog_14_method_20_code 34 = .ok (.ifCond .le (5), 3)), by decide⟩
theorem i_Md_setContextRule_37 : iIns M_Md_setContextRule 37 (.iconst 0) 1 := (by decide +kernel : decode prog_14_method_20_code 37 = .ok (.iconst 0, 1))
theorem i_Md_setContextRule_38 : iIns M_Md_setContextRule 38 .ireturn 1 := (by decide +kernel : decode prog_14_method_20_code 38 = .ok (.ireturn, 1))
theorem i_Md_setContextRule_39 : iIns M_Md_setContextRule 39 (.aload_n 0) 1 := (by decide +kernel : decode prog_14_method_20_code 39 = .ok (.aload_n 0, 1))
theorem i_Md_setContextRule_40 : iIns M_Md_setContextRule 40 (.iload_n 1) 1 := (by decide +kernel : decode prog_14_method_20_code 40 = .ok (.iload_n 1, 1))
theorem i_Md_setContextRule_41 : iIns M_Md_setContextRule 41 (.iload_n 2) 1 := (by decide +kernel : decode prog_14_method_20_code 41 = .ok (.iload_n 2, 1))
theorem i_Md_setContextRule_42 : iIns M_Md_setContextRule 42 (.iload_n 3) 1 := (by decide +kernel : decode prog_14_method_20_code 42 = .ok (.iload_n 3, 1))
theorem i_Md_setContextRule_43 : iCallV M_Md_setContextRule 43 M_Md_findRule 3 14 := ⟨⟨142, (by decide +kernel : decode prog_14_method_20_code 43 = .ok (.invokevirtual 142, 3)), lw_k6 191 rfl rfl⟩, vm_Md_findRule, me_Md_findRule, pn_Md_findRule⟩
theorem i_Md_setContextRule_46 : iIns M_Md_setContextRule 46 (.istore 4) 2 := (by decide +kernel : decode prog_14_method_20_code 46 = .ok (.istore 4, 2))
theorem i_Md_setContextRule_48 : iIns M_Md_setContextRule 48 (.iload 4) 2 := (by decide +kernel : decode prog_14_method_20_code 48 = .ok (.iload 4, 2))
theorem i_Md_setContextRule_50 : iIf M_Md_setContextRule 50 .lt 57 := ⟨7, (by decide +kernel : decode prog_14_method_20_code 50 = .ok (.ifCond .lt (7), 3)), by decide⟩
theorem i_Md_setContextRule_53 : iIns M_Md_setContextRule 53 (.iconst 1) 1 := (by decide +kernel : decode prog_14_method_20_code 53 = .ok (.iconst 1, 1))
theorem i_Md_setContextRule_54 : iGoto M_Md_setContextRule 54 58 := ⟨4, (by decide +kernel : decode prog_14_method_20_code 54 = .ok (.goto (4), 3)), by decide⟩
theorem i_Md_setContextRule_57 : iIns M_Md_setContextRule 57 (.iconst 0) 1 := (by decide +kernel : decode prog_14_method_20_code 57 = .ok (.iconst 0, 1))
theorem i_Md_setContextRule_58 : iIns M_Md_setContextRule 58 (.istore 5) 2 := (by decide +kernel : decode prog_14_method_20_code 58 = .ok (.istore 5, 2))
theorem i_Md_setContextRule_60 : iIns M_Md_setContextRule 60 (.iload 5) 2 := (by decide +kernel : decode prog_14_method_20_code 60 = .ok (.iload 5, 2))
theorem i_Md_setContextRule_62 : iIf M_Md_setContextRule 62 .ne 129 := ⟨67, (by decide +kernel : decode prog_14_method_20_code 62 = .ok (.ifCond .ne (67), 3)), by decide⟩
theorem i_Md_setContextRule_65 : iIns M_Md_setContextRule 65 (.aload_n 0) 1 := (by decide +kernel : decode prog_14_method_20_code 65 = .ok (.aload_n 0, 1))
theorem i_Md_setContextRule_66 : iGet M_Md_setContextRule 66 14 1 := ⟨9, (by decide +kernel : decode prog_14_method_20_code 66 = .ok (.getfield 9, 3)), fl_Md_Md_tables⟩
theorem i_Md_setContextRule_69 : iIns M_Md_setContextRule 69 (.iload_n 1) 1 := (by decide +kernel : decode prog_14_method_20_code 69 = .ok (.iload_n 1, 1))
theorem i_Md_setContextRule_70 : iCallS M_Md_setContextRule 70 M_Md_rulesAt 1 := ⟨⟨133, (by decide +kernel : decode prog_14_method_20_code 70 = .ok (.invokestatic 133, 3)), lw_k6 195 rfl rfl⟩, sm_Md_rulesAt, me_Md_rulesAt, pn_Md_rulesAt⟩
theorem i_Md_setContextRule_73 : iIns M_Md_setContextRule 73 .iaload 1 := (by decide +kernel : decode prog_14_method_20_code 73 = .ok (.iaload, 1))
theorem i_Md_setContextRule_74 : iIns M_Md_setContextRule 74 (.istore 6) 2 := (by decide +kernel : decode prog_14_method_20_code 74 = .ok (.istore 6, 2))
theorem i_Md_setContextRule_76 : iIns M_Md_setContextRule 76 (.iload 6) 2 := (by decide +kernel : decode prog_14_method_20_code 76 = .ok (.iload 6, 2))
theorem i_Md_setContextRule_78 : iIns M_Md_setContextRule 78 (.bipush 6) 2 := (by decide +kernel : decode prog_14_method_20_code 78 = .ok (.bipush 6, 2))
theorem i_Md_setContextRule_80 : iIcmp M_Md_setContextRule 80 .ne 90 := ⟨10, (by decide +kernel : decode prog_14_method_20_code 80 = .ok (.if_icmp .ne (10), 3)), by decide⟩
theorem i_Md_setContextRule_83 : iIns M_Md_setContextRule 83 (.aload_n 0) 1 := (by decide +kernel : decode prog_14_method_20_code 83 = .ok (.aload_n 0, 1))
theorem i_Md_setContextRule_84 : iIns M_Md_setContextRule 84 (.iconst 3) 1 := (by decide +kernel : decode prog_14_method_20_code 84 = .ok (.iconst 3, 1))
theorem i_Md_setContextRule_85 : iPutX M_Md_setContextRule 85 14 0 .int := ⟨97, (by decide +kernel : decode prog_14_method_20_code 85 = .ok (.putfield 97, 3)), px_Md_Md_thrown⟩
theorem i_Md_setContextRule_88 : iIns M_Md_setContextRule 88 (.iconst 0) 1 := (by decide +kernel : decode prog_14_method_20_code 88 = .ok (.iconst 0, 1))
theorem i_Md_setContextRule_89 : iIns M_Md_setContextRule 89 .ireturn 1 := (by decide +kernel : decode prog_14_method_20_code 89 = .ok (.ireturn, 1))
theorem i_Md_setContextRule_90 : iIns M_Md_setContextRule 90 (.iload_n 1) 1 := (by decide +kernel : decode prog_14_method_20_code 90 = .ok (.iload_n 1, 1))
theorem i_Md_setContextRule_91 : iIns M_Md_setContextRule 91 (.iload 6) 2 := (by decide +kernel : decode prog_14_method_20_code 91 = .ok (.iload 6, 2))
theorem i_Md_setContextRule_93 : iCallS M_Md_setContextRule 93 M_Md_ruleAt 2 := ⟨⟨136, (by decide +kernel : decode prog_14_method_20_code 93 = .ok (.invokestatic 136, 3)), lw_k6 198 rfl rfl⟩, sm_Md_ruleAt, me_Md_ruleAt, pn_Md_ruleAt⟩
theorem i_Md_setContextRule_96 : iIns M_Md_setContextRule 96 (.istore 4) 2 := (by decide +kernel : decode prog_14_method_20_code 96 = .ok (.istore 4, 2))
theorem i_Md_setContextRule_98 : iIns M_Md_setContextRule 98 (.aload_n 0) 1 := (by decide +kernel : decode prog_14_method_20_code 98 = .ok (.aload_n 0, 1))
theorem i_Md_setContextRule_99 : iGet M_Md_setContextRule 99 14 1 := ⟨9, (by decide +kernel : decode prog_14_method_20_code 99 = .ok (.getfield 9, 3)), fl_Md_Md_tables⟩
theorem i_Md_setContextRule_102 : iIns M_Md_setContextRule 102 (.iload 4) 2 := (by decide +kernel : decode prog_14_method_20_code 102 = .ok (.iload 4, 2))
theorem i_Md_setContextRule_104 : iIns M_Md_setContextRule 104 (.iload_n 2) 1 := (by decide +kernel : decode prog_14_method_20_code 104 = .ok (.iload_n 2, 1))
theorem i_Md_setContextRule_105 : iIns M_Md_setContextRule 105 .iastore 1 := (by decide +kernel : decode prog_14_method_20_code 105 = .ok (.iastore, 1))
theorem i_Md_setContextRule_106 : iIns M_Md_setContextRule 106 (.aload_n 0) 1 := (by decide +kernel : decode prog_14_method_20_code 106 = .ok (.aload_n 0, 1))
theorem i_Md_setContextRule_107 : iGet M_Md_setContextRule 107 14 1 := ⟨9, (by decide +kernel : decode prog_14_method_20_code 107 = .ok (.getfield 9, 3)), fl_Md_Md_tables⟩
theorem i_Md_setContextRule_110 : iIns M_Md_setContextRule 110 (.iload 4) 2 := (by decide +kernel : decode prog_14_method_20_code 110 = .ok (.iload 4, 2))
theorem i_Md_setContextRule_112 : iIns M_Md_setContextRule 112 (.iconst 1) 1 := (by decide +kernel : decode prog_14_method_20_code 112 = .ok (.iconst 1, 1))
theorem i_Md_setContextRule_113 : iIns M_Md_setContextRule 113 .iadd 1 := (by decide +kernel : decode prog_14_method_20_code 113 = .ok (.iadd, 1))
theorem i_Md_setContextRule_114 : iIns M_Md_setContextRule 114 (.iload_n 3) 1 := (by decide +kernel : decode prog_14_method_20_code 114 = .ok (.iload_n 3, 1))
theorem i_Md_setContextRule_115 : iIns M_Md_setContextRule 115 .iastore 1 := (by decide +kernel : decode prog_14_method_20_code 115 = .ok (.iastore, 1))
theorem i_Md_setContextRule_116 : iIns M_Md_setContextRule 116 (.aload_n 0) 1 := (by decide +kernel : decode prog_14_method_20_code 116 = .ok (.aload_n 0, 1))
theorem i_Md_setContextRule_117 : iGet M_Md_setContextRule 117 14 1 := ⟨9, (by decide +kernel : decode prog_14_method_20_code 117 = .ok (.getfield 9, 3)), fl_Md_Md_tables⟩
theorem i_Md_setContextRule_120 : iIns M_Md_setContextRule 120 (.iload_n 1) 1 := (by decide +kernel : decode prog_14_method_20_code 120 = .ok (.iload_n 1, 1))
theorem i_Md_setContextRule_121 : iCallS M_Md_setContextRule 121 M_Md_rulesAt 1 := ⟨⟨133, (by decide +kernel : decode prog_14_method_20_code 121 = .ok (.invokestatic 133, 3)), lw_k6 195 rfl rfl⟩, sm_Md_rulesAt, me_Md_rulesAt, pn_Md_rulesAt⟩
theorem i_Md_setContextRule_124 : iIns M_Md_setContextRule 124 .dup2 1 := (by decide +kernel : decode prog_14_method_20_code 124 = .ok (.dup2, 1))
theorem i_Md_setContextRule_125 : iIns M_Md_setContextRule 125 .iaload 1 := (by decide +kernel : decode prog_14_method_20_code 125 = .ok (.iaload, 1))
theorem i_Md_setContextRule_126 : iIns M_Md_setContextRule 126 (.iconst 1) 1 := (by decide +kernel : decode prog_14_method_20_code 126 = .ok (.iconst 1, 1))
theorem i_Md_setContextRule_127 : iIns M_Md_setContextRule 127 .iadd 1 := (by decide +kernel : decode prog_14_method_20_code 127 = .ok (.iadd, 1))
theorem i_Md_setContextRule_128 : iIns M_Md_setContextRule 128 .iastore 1 := (by decide +kernel : decode prog_14_method_20_code 128 = .ok (.iastore, 1))
theorem i_Md_setContextRule_129 : iIns M_Md_setContextRule 129 (.aload_n 0) 1 := (by decide +kernel : decode prog_14_method_20_code 129 = .ok (.aload_n 0, 1))
theorem i_Md_setContextRule_130 : iIns M_Md_setContextRule 130 (.aload_n 0) 1 := (by decide +kernel : decode prog_14_method_20_code 130 = .ok (.aload_n 0, 1))
theorem i_Md_setContextRule_131 : iGet M_Md_setContextRule 131 14 1 := ⟨9, (by decide +kernel : decode prog_14_method_20_code 131 = .ok (.getfield 9, 3)), fl_Md_Md_tables⟩
theorem i_Md_setContextRule_134 : iIns M_Md_setContextRule 134 (.iload 4) 2 := (by decide +kernel : decode prog_14_method_20_code 134 = .ok (.iload 4, 2))
theorem i_Md_setContextRule_136 : iIns M_Md_setContextRule 136 (.iconst 2) 1 := (by decide +kernel : decode prog_14_method_20_code 136 = .ok (.iconst 2, 1))
theorem i_Md_setContextRule_137 : iIns M_Md_setContextRule 137 .iadd 1 := (by decide +kernel : decode prog_14_method_20_code 137 = .ok (.iadd, 1))
theorem i_Md_setContextRule_138 : iCallV M_Md_setContextRule 138 M_Md_putWord 2 14 := ⟨⟨129, (by decide +kernel : decode prog_14_method_20_code 138 = .ok (.invokevirtual 129, 3)), lw_k6 172 rfl rfl⟩, vm_Md_putWord, me_Md_putWord, pn_Md_putWord⟩
theorem i_Md_setContextRule_141 : iIns M_Md_setContextRule 141 (.iload 5) 2 := (by decide +kernel : decode prog_14_method_20_code 141 = .ok (.iload 5, 2))
theorem i_Md_setContextRule_143 : iIns M_Md_setContextRule 143 .ireturn 1 := (by decide +kernel : decode prog_14_method_20_code 143 = .ok (.ireturn, 1))
theorem i_Md_areLetters_0 : iIns M_Md_areLetters 0 (.iload_n 0) 1 := (by decide +kernel : decode prog_14_method_19_code 0 = .ok (.iload_n 0, 1))
theorem i_Md_areLetters_1 : iCallS M_Md_areLetters 1 M_Md_isTable 1 := ⟨⟨112, (by decide +kernel : decode prog_14_method_19_code 1 = .ok (.invokestatic 112, 3)), lw_k6 156 rfl rfl⟩, sm_Md_isTable, me_Md_isTable, pn_Md_isTable⟩
theorem i_Md_areLetters_4 : iIf M_Md_areLetters 4 .eq 25 := ⟨21, (by decide +kernel : decode prog_14_method_19_code 4 = .ok (.ifCond .eq (21), 3)), by decide⟩
theorem i_Md_areLetters_7 : iIns M_Md_areLetters 7 (.iload_n 1) 1 := (by decide +kernel : decode prog_14_method_19_code 7 = .ok (.iload_n 1, 1))
theorem i_Md_areLetters_8 : iCallS M_Md_areLetters 8 M_Md_isLetter 1 := ⟨⟨116, (by decide +kernel : decode prog_14_method_19_code 8 = .ok (.invokestatic 116, 3)), lw_k6 159 rfl rfl⟩, sm_Md_isLetter, me_Md_isLetter, pn_Md_isLetter⟩
theorem i_Md_areLetters_11 : iIf M_Md_areLetters 11 .eq 25 := ⟨14, (by decide +kernel : decode prog_14_method_19_code 11 = .ok (.ifCond .eq (14), 3)), by decide⟩
theorem i_Md_areLetters_14 : iIns M_Md_areLetters 14 (.iload_n 2) 1 := (by decide +kernel : decode prog_14_method_19_code 14 = .ok (.iload_n 2, 1))
theorem i_Md_areLetters_15 : iCallS M_Md_areLetters 15 M_Md_isLetter 1 := ⟨⟨116, (by decide +kernel : decode prog_14_method_19_code 15 = .ok (.invokestatic 116, 3)), lw_k6 159 rfl rfl⟩, sm_Md_isLetter, me_Md_isLetter, pn_Md_isLetter⟩
theorem i_Md_areLetters_18 : iIf M_Md_areLetters 18 .eq 25 := ⟨7, (by decide +kernel : decode prog_14_method_19_code 18 = .ok (.ifCond .eq (7), 3)), by decide⟩
theorem i_Md_areLetters_21 : iIns M_Md_areLetters 21 (.iconst 1) 1 := (by decide +kernel : decode prog_14_method_19_code 21 = .ok (.iconst 1, 1))
theorem i_Md_areLetters_22 : iGoto M_Md_areLetters 22 26 := ⟨4, (by decide +kernel : decode prog_14_method_19_code 22 = .ok (.goto (4), 3)), by decide⟩
theorem i_Md_areLetters_25 : iIns M_Md_areLetters 25 (.iconst 0) 1 := (by decide +kernel : decode prog_14_method_19_code 25 = .ok (.iconst 0, 1))
theorem i_Md_areLetters_26 : iIns M_Md_areLetters 26 .ireturn 1 := (by decide +kernel : decode prog_14_method_19_code 26 = .ok (.ireturn, 1))
theorem i_Md_findRule_0 : iIns M_Md_findRule 0 (.iconst 0) 1 := (by decide +kernel : decode prog_14_method_18_code 0 = .ok (.iconst 0, 1))
theorem i_Md_findRule_1 : iIns M_Md_findRule 1 (.istore 4) 2 := (by decide +kernel : decode prog_14_method_18_code 1 = .ok (.istore 4, 2))
theorem i_Md_findRule_3 : iIns M_Md_findRule 3 (.iload 4) 2 := (by decide +kernel : decode prog_14_method_18_code 3 = .ok (.iload 4, 2))
theorem i_Md_findRule_5 : iIns M_Md_findRule 5 (.aload_n 0) 1 := (by decide +kernel : decode prog_14_method_18_code 5 = .ok (.aload_n 0, 1))
theorem i_Md_findRule_6 : iGet M_Md_findRule 6 14 1 := ⟨9, (by decide +kernel : decode prog_14_method_18_code 6 = .ok (.getfield 9, 3)), fl_Md_Md_tables⟩
theorem i_Md_findRule_9 : iIns M_Md_findRule 9 (.iload_n 1) 1 := (by decide +kernel : decode prog_14_method_18_code 9 = .ok (.iload_n 1, 1))
theorem i_Md_findRule_10 : iCallS M_Md_findRule 10 M_Md_rulesAt 1 := ⟨⟨133, (by decide +kernel : decode prog_14_method_18_code 10 = .ok (.invokestatic 133, 3)), lw_k6 195 rfl rfl⟩, sm_Md_rulesAt, me_Md_rulesAt, pn_Md_rulesAt⟩
theorem i_Md_findRule_13 : iIns M_Md_findRule 13 .iaload 1 := (by decide +kernel : decode prog_14_method_18_code 13 = .ok (.iaload, 1))
theorem i_Md_findRule_14 : iIcmp M_Md_findRule 14 .ge 58 := ⟨44, (by decide +kernel : decode prog_14_method_18_code 14 = .ok (.if_icmp .ge (44), 3)), by decide⟩
theorem i_Md_findRule_17 : iIns M_Md_findRule 17 (.iload_n 1) 1 := (by decide +kernel : decode prog_14_method_18_code 17 = .ok (.iload_n 1, 1))
theorem i_Md_findRule_18 : iIns M_Md_findRule 18 (.iload 4) 2 := (by decide +kernel : decode prog_14_method_18_code 18 = .ok (.iload 4, 2))
theorem i_Md_findRule_20 : iCallS M_Md_findRule 20 M_Md_ruleAt 2 := ⟨⟨136, (by decide +kernel : decode prog_14_method_18_code 20 = .ok (.invokestatic 136, 3)), lw_k6 198 rfl rfl⟩, sm_Md_ruleAt, me_Md_ruleAt, pn_Md_ruleAt⟩
theorem i_Md_findRule_23 : iIns M_Md_findRule 23 (.istore 5) 2 := (by decide +kernel : decode prog_14_method_18_code 23 = .ok (.istore 5, 2))
theorem i_Md_findRule_25 : iIns M_Md_findRule 25 (.aload_n 0) 1 := (by decide +kernel : decode prog_14_method_18_code 25 = .ok (.aload_n 0, 1))
theorem i_Md_findRule_26 : iGet M_Md_findRule 26 14 1 := ⟨9, (by decide +kernel : decode prog_14_method_18_code 26 = .ok (.getfield 9, 3)), fl_Md_Md_tables⟩
theorem i_Md_findRule_29 : iIns M_Md_findRule 29 (.iload 5) 2 := (by decide +kernel : decode prog_14_method_18_code 29 = .ok (.iload 5, 2))
theorem i_Md_findRule_31 : iIns M_Md_findRule 31 .iaload 1 := (by decide +kernel : decode prog_14_method_18_code 31 = .ok (.iaload, 1))
theorem i_Md_findRule_32 : iIns M_Md_findRule 32 (.iload_n 2) 1 := (by decide +kernel : decode prog_14_method_18_code 32 = .ok (.iload_n 2, 1))
theorem i_Md_findRule_33 : iIcmp M_Md_findRule 33 .ne 52 := ⟨19, (by decide +kernel : decode prog_14_method_18_code 33 = .ok (.if_icmp .ne (19), 3)), by decide⟩
theorem i_Md_findRule_36 : iIns M_Md_findRule 36 (.aload_n 0) 1 := (by decide +kernel : decode prog_14_method_18_code 36 = .ok (.aload_n 0, 1))
theorem i_Md_findRule_37 : iGet M_Md_findRule 37 14 1 := ⟨9, (by decide +kernel : decode prog_14_method_18_code 37 = .ok (.getfield 9, 3)), fl_Md_Md_tables⟩
theorem i_Md_findRule_40 : iIns M_Md_findRule 40 (.iload 5) 2 := (by decide +kernel : decode prog_14_method_18_code 40 = .ok (.iload 5, 2))
theorem i_Md_findRule_42 : iIns M_Md_findRule 42 (.iconst 1) 1 := (by decide +kernel : decode prog_14_method_18_code 42 = .ok (.iconst 1, 1))
theorem i_Md_findRule_43 : iIns M_Md_findRule 43 .iadd 1 := (by decide +kernel : decode prog_14_method_18_code 43 = .ok (.iadd, 1))
theorem i_Md_findRule_44 : iIns M_Md_findRule 44 .iaload 1 := (by decide +kernel : decode prog_14_method_18_code 44 = .ok (.iaload, 1))
theorem i_Md_findRule_45 : iIns M_Md_findRule 45 (.iload_n 3) 1 := (by decide +kernel : decode prog_14_method_18_code 45 = .ok (.iload_n 3, 1))
theorem i_Md_findRule_46 : iIcmp M_Md_findRule 46 .ne 52 := ⟨6, (by decide +kernel : decode prog_14_method_18_code 46 = .ok (.if_icmp .ne (6), 3)), by decide⟩
theorem i_Md_findRule_49 : iIns M_Md_findRule 49 (.iload 5) 2 := (by decide +kernel : decode prog_14_method_18_code 49 = .ok (.iload 5, 2))
theorem i_Md_findRule_51 : iIns M_Md_findRule 51 .ireturn 1 := (by decide +kernel : decode prog_14_method_18_code 51 = .ok (.ireturn, 1))
theorem i_Md_findRule_52 : iIns M_Md_findRule 52 (.iinc 4 (1)) 3 := (by decide +kernel : decode prog_14_method_18_code 52 = .ok (.iinc 4 (1), 3))
theorem i_Md_findRule_55 : iGoto M_Md_findRule 55 3 := ⟨-52, (by decide +kernel : decode prog_14_method_18_code 55 = .ok (.goto (-52), 3)), by decide⟩
theorem i_Md_findRule_58 : iIns M_Md_findRule 58 (.iconst (-1)) 1 := (by decide +kernel : decode prog_14_method_18_code 58 = .ok (.iconst (-1), 1))
theorem i_Md_findRule_59 : iIns M_Md_findRule 59 .ireturn 1 := (by decide +kernel : decode prog_14_method_18_code 59 = .ok (.ireturn, 1))
theorem i_Md_rulesAt_0 : iIns M_Md_rulesAt 0 (.sipush 139) 3 := (by decide +kernel : decode prog_14_method_16_code 0 = .ok (.sipush 139, 3))
theorem i_Md_rulesAt_3 : iIns M_Md_rulesAt 3 (.iload_n 0) 1 := (by decide +kernel : decode prog_14_method_16_code 3 = .ok (.iload_n 0, 1))
theorem i_Md_rulesAt_4 : iIns M_Md_rulesAt 4 .imul 1 := (by decide +kernel : decode prog_14_method_16_code 4 = .ok (.imul, 1))
theorem i_Md_rulesAt_5 : iIns M_Md_rulesAt 5 (.bipush 96) 2 := (by decide +kernel : decode prog_14_method_16_code 5 = .ok (.bipush 96, 2))
theorem i_Md_rulesAt_7 : iIns M_Md_rulesAt 7 .iadd 1 := (by decide +kernel : decode prog_14_method_16_code 7 = .ok (.iadd, 1))
theorem i_Md_rulesAt_8 : iIns M_Md_rulesAt 8 .ireturn 1 := (by decide +kernel : decode prog_14_method_16_code 8 = .ok (.ireturn, 1))
theorem i_Md_ruleAt_0 : iIns M_Md_ruleAt 0 (.iload_n 0) 1 := (by decide +kernel : decode prog_14_method_17_code 0 = .ok (.iload_n 0, 1))
theorem i_Md_ruleAt_1 : iCallS M_Md_ruleAt 1 M_Md_rulesAt 1 := ⟨⟨133, (by decide +kernel : decode prog_14_method_17_code 1 = .ok (.invokestatic 133, 3)), lw_k6 195 rfl rfl⟩, sm_Md_rulesAt, me_Md_rulesAt, pn_Md_rulesAt⟩
theorem i_Md_ruleAt_4 : iIns M_Md_ruleAt 4 (.iconst 1) 1 := (by decide +kernel : decode prog_14_method_17_code 4 = .ok (.iconst 1, 1))
theorem i_Md_ruleAt_5 : iIns M_Md_ruleAt 5 .iadd 1 := (by decide +kernel : decode prog_14_method_17_code 5 = .ok (.iadd, 1))
theorem i_Md_ruleAt_6 : iIns M_Md_ruleAt 6 (.bipush 7) 2 := (by decide +kernel : decode prog_14_method_17_code 6 = .ok (.bipush 7, 2))
theorem i_Md_ruleAt_8 : iIns M_Md_ruleAt 8 (.iload_n 1) 1 := (by decide +kernel : decode prog_14_method_17_code 8 = .ok (.iload_n 1, 1))
theorem i_Md_ruleAt_9 : iIns M_Md_ruleAt 9 .imul 1 := (by decide +kernel : decode prog_14_method_17_code 9 = .ok (.imul, 1))
theorem i_Md_ruleAt_10 : iIns M_Md_ruleAt 10 .iadd 1 := (by decide +kernel : decode prog_14_method_17_code 10 = .ok (.iadd, 1))
theorem i_Md_ruleAt_11 : iIns M_Md_ruleAt 11 .ireturn 1 := (by decide +kernel : decode prog_14_method_17_code 11 = .ok (.ireturn, 1))
theorem i_Md_removeContextRule_0 : iIns M_Md_removeContextRule 0 (.aload_n 0) 1 := (by decide +kernel : decode prog_14_method_21_code 0 = .ok (.aload_n 0, 1))
theorem i_Md_removeContextRule_1 : iIns M_Md_removeContextRule 1 (.iload_n 1) 1 := (by decide +kernel : decode prog_14_method_21_code 1 = .ok (.iload_n 1, 1))
theorem i_Md_removeContextRule_2 : iIns M_Md_removeContextRule 2 (.iload_n 2) 1 := (by decide +kernel : decode prog_14_method_21_code 2 = .ok (.iload_n 2, 1))
theorem i_Md_removeContextRule_3 : iIns M_Md_removeContextRule 3 (.iload_n 3) 1 := (by decide +kernel : decode prog_14_method_21_code 3 = .ok (.iload_n 3, 1))
theorem i_Md_removeContextRule_4 : iCallS M_Md_removeContextRule 4 M_Md_areLetters 3 := ⟨⟨139, (by decide +kernel : decode prog_14_method_21_code 4 = .ok (.invokestatic 139, 3)), lw_k6 188 rfl rfl⟩, sm_Md_areLetters, me_Md_areLetters, pn_Md_areLetters⟩
theorem i_Md_removeContextRule_7 : iIf M_Md_removeContextRule 7 .eq 14 := ⟨7, (by decide +kernel : decode prog_14_method_21_code 7 = .ok (.ifCond .eq (7), 3)), by decide⟩
theorem i_Md_removeContextRule_10 : iIns M_Md_removeContextRule 10 (.iconst 0) 1 := (by decide +kernel : decode prog_14_method_21_code 10 = .ok (.iconst 0, 1))
theorem i_Md_removeContextRule_11 : iGoto M_Md_removeContextRule 11 15 := ⟨4, (by decide +kernel : decode prog_14_method_21_code 11 = .ok (.goto (4), 3)), by decide⟩
theorem i_Md_removeContextRule_14 : iIns M_Md_removeContextRule 14 (.iconst 1) 1 := (by decide +kernel : decode prog_14_method_21_code 14 = .ok (.iconst 1, 1))
theorem i_Md_removeContextRule_15 : iPutX M_Md_removeContextRule 15 14 0 .int := ⟨97, (by decide +kernel : decode prog_14_method_21_code 15 = .ok (.putfield 97, 3)), px_Md_Md_thrown⟩
theorem i_Md_removeContextRule_18 : iIns M_Md_removeContextRule 18 (.aload_n 0) 1 := (by decide +kernel : decode prog_14_method_21_code 18 = .ok (.aload_n 0, 1))
theorem i_Md_removeContextRule_19 : iGet M_Md_removeContextRule 19 14 0 := ⟨97, (by decide +kernel : decode prog_14_method_21_code 19 = .ok (.getfield 97, 3)), fl_Md_Md_thrown⟩
theorem i_Md_removeContextRule_22 : iIf M_Md_removeContextRule 22 .le 29 := ⟨7, (by decide +kernel : decode prog_14_method_21_code 22 = .ok (.ifCond .le (7), 3)), by decide⟩
theorem i_Md_removeContextRule_25 : iIns M_Md_removeContextRule 25 (.iconst (-1)) 1 := (by decide +kernel : decode prog_14_method_21_code 25 = .ok (.iconst (-1), 1))
theorem i_Md_removeContextRule_26 : iGoto M_Md_removeContextRule 26 36 := ⟨10, (by decide +kernel : decode prog_14_method_21_code 26 = .ok (.goto (10), 3)), by decide⟩
theorem i_Md_removeContextRule_29 : iIns M_Md_removeContextRule 29 (.aload_n 0) 1 := (by decide +kernel : decode prog_14_method_21_code 29 = .ok (.aload_n 0, 1))
theorem i_Md_removeContextRule_30 : iIns M_Md_removeContextRule 30 (.iload_n 1) 1 := (by decide +kernel : decode prog_14_method_21_code 30 = .ok (.iload_n 1, 1))
theorem i_Md_removeContextRule_31 : iIns M_Md_removeContextRule 31 (.iload_n 2) 1 := (by decide +kernel : decode prog_14_method_21_code 31 = .ok (.iload_n 2, 1))
theorem i_Md_removeContextRule_32 : iIns M_Md_removeContextRule 32 (.iload_n 3) 1 := (by decide +kernel : decode prog_14_method_21_code 32 = .ok (.iload_n 3, 1))
theorem i_Md_removeContextRule_33 : iCallV M_Md_removeContextRule 33 M_Md_findRule 3 14 := ⟨⟨142, (by decide +kernel : decode prog_14_method_21_code 33 = .ok (.invokevirtual 142, 3)), lw_k6 191 rfl rfl⟩, vm_Md_findRule, me_Md_findRule, pn_Md_findRule⟩
theorem i_Md_removeContextRule_36 : iIns M_Md_removeContextRule 36 (.istore 4) 2 := (by decide +kernel : decode prog_14_method_21_code 36 = .ok (.istore 4, 2))
theorem i_Md_removeContextRule_38 : iIns M_Md_removeContextRule 38 (.iload 4) 2 := (by decide +kernel : decode prog_14_method_21_code 38 = .ok (.iload 4, 2))
theorem i_Md_removeContextRule_40 : iIf M_Md_removeContextRule 40 .ge 45 := ⟨5, (by decide +kernel : decode prog_14_method_21_code 40 = .ok (.ifCond .ge (5), 3)), by decide⟩
theorem i_Md_removeContextRule_43 : iIns M_Md_removeContextRule 43 (.iconst 0) 1 := (by decide +kernel : decode prog_14_method_21_code 43 = .ok (.iconst 0, 1))
theorem i_Md_removeContextRule_44 : iIns M_Md_removeContextRule 44 .ireturn 1 := (by decide +kernel : decode prog_14_method_21_code 44 = .ok (.ireturn, 1))
theorem i_Md_removeContextRule_45 : iIns M_Md_removeContextRule 45 (.iload_n 1) 1 := (by decide +kernel : decode prog_14_method_21_code 45 = .ok (.iload_n 1, 1))
theorem i_Md_removeContextRule_46 : iIns M_Md_removeContextRule 46 (.aload_n 0) 1 := (by decide +kernel : decode prog_14_method_21_code 46 = .ok (.aload_n 0, 1))
theorem i_Md_removeContextRule_47 : iGet M_Md_removeContextRule 47 14 1 := ⟨9, (by decide +kernel : decode prog_14_method_21_code 47 = .ok (.getfield 9, 3)), fl_Md_Md_tables⟩
theorem i_Md_removeContextRule_50 : iIns M_Md_removeContextRule 50 (.iload_n 1) 1 := (by decide +kernel : decode prog_14_method_21_code 50 = .ok (.iload_n 1, 1))
theorem i_Md_removeContextRule_51 : iCallS M_Md_removeContextRule 51 M_Md_rulesAt 1 := ⟨⟨133, (by decide +kernel : decode prog_14_method_21_code 51 = .ok (.invokestatic 133, 3)), lw_k6 195 rfl rfl⟩, sm_Md_rulesAt, me_Md_rulesAt, pn_Md_rulesAt⟩
theorem i_Md_removeContextRule_54 : iIns M_Md_removeContextRule 54 .iaload 1 := (by decide +kernel : decode prog_14_method_21_code 54 = .ok (.iaload, 1))
theorem i_Md_removeContextRule_55 : iIns M_Md_removeContextRule 55 (.iconst 1) 1 := (by decide +kernel : decode prog_14_method_21_code 55 = .ok (.iconst 1, 1))
theorem i_Md_removeContextRule_56 : iIns M_Md_removeContextRule 56 .isub 1 := (by decide +kernel : decode prog_14_method_21_code 56 = .ok (.isub, 1))
theorem i_Md_removeContextRule_57 : iCallS M_Md_removeContextRule 57 M_Md_ruleAt 2 := ⟨⟨136, (by decide +kernel : decode prog_14_method_21_code 57 = .ok (.invokestatic 136, 3)), lw_k6 198 rfl rfl⟩, sm_Md_ruleAt, me_Md_ruleAt, pn_Md_ruleAt⟩
theorem i_Md_removeContextRule_60 : iIns M_Md_removeContextRule 60 (.istore 5) 2 := (by decide +kernel : decode prog_14_method_21_code 60 = .ok (.istore 5, 2))
theorem i_Md_removeContextRule_62 : iIns M_Md_removeContextRule 62 (.aload_n 0) 1 := (by decide +kernel : decode prog_14_method_21_code 62 = .ok (.aload_n 0, 1))
theorem i_Md_removeContextRule_63 : iGet M_Md_removeContextRule 63 14 1 := ⟨9, (by decide +kernel : decode prog_14_method_21_code 63 = .ok (.getfield 9, 3)), fl_Md_Md_tables⟩
theorem i_Md_removeContextRule_66 : iIns M_Md_removeContextRule 66 (.iload 5) 2 := (by decide +kernel : decode prog_14_method_21_code 66 = .ok (.iload 5, 2))
theorem i_Md_removeContextRule_68 : iIns M_Md_removeContextRule 68 (.aload_n 0) 1 := (by decide +kernel : decode prog_14_method_21_code 68 = .ok (.aload_n 0, 1))
theorem i_Md_removeContextRule_69 : iGet M_Md_removeContextRule 69 14 1 := ⟨9, (by decide +kernel : decode prog_14_method_21_code 69 = .ok (.getfield 9, 3)), fl_Md_Md_tables⟩
theorem i_Md_removeContextRule_72 : iIns M_Md_removeContextRule 72 (.iload 4) 2 := (by decide +kernel : decode prog_14_method_21_code 72 = .ok (.iload 4, 2))
theorem i_Md_removeContextRule_74 : iIns M_Md_removeContextRule 74 (.bipush 7) 2 := (by decide +kernel : decode prog_14_method_21_code 74 = .ok (.bipush 7, 2))
theorem i_Md_removeContextRule_76 : iCpy M_Md_removeContextRule 76 := ⟨146, (by decide +kernel : decode prog_14_method_21_code 76 = .ok (.invokestatic 146, 3)), lw_k6 205 rfl rfl⟩
theorem i_Md_removeContextRule_79 : iIns M_Md_removeContextRule 79 (.aload_n 0) 1 := (by decide +kernel : decode prog_14_method_21_code 79 = .ok (.aload_n 0, 1))
theorem i_Md_removeContextRule_80 : iGet M_Md_removeContextRule 80 14 1 := ⟨9, (by decide +kernel : decode prog_14_method_21_code 80 = .ok (.getfield 9, 3)), fl_Md_Md_tables⟩
theorem i_Md_removeContextRule_83 : iIns M_Md_removeContextRule 83 (.iload_n 1) 1 := (by decide +kernel : decode prog_14_method_21_code 83 = .ok (.iload_n 1, 1))
theorem i_Md_removeContextRule_84 : iCallS M_Md_removeContextRule 84 M_Md_rulesAt 1 := ⟨⟨133, (by decide +kernel : decode prog_14_method_21_code 84 = .ok (.invokestatic 133, 3)), lw_k6 195 rfl rfl⟩, sm_Md_rulesAt, me_Md_rulesAt, pn_Md_rulesAt⟩
theorem i_Md_removeContextRule_87 : iIns M_Md_removeContextRule 87 .dup2 1 := (by decide +kernel : decode prog_14_method_21_code 87 = .ok (.dup2, 1))
theorem i_Md_removeContextRule_88 : iIns M_Md_removeContextRule 88 .iaload 1 := (by decide +kernel : decode prog_14_method_21_code 88 = .ok (.iaload, 1))
theorem i_Md_removeContextRule_89 : iIns M_Md_removeContextRule 89 (.iconst 1) 1 := (by decide +kernel : decode prog_14_method_21_code 89 = .ok (.iconst 1, 1))
theorem i_Md_removeContextRule_90 : iIns M_Md_removeContextRule 90 .isub 1 := (by decide +kernel : decode prog_14_method_21_code 90 = .ok (.isub, 1))
theorem i_Md_removeContextRule_91 : iIns M_Md_removeContextRule 91 .iastore 1 := (by decide +kernel : decode prog_14_method_21_code 91 = .ok (.iastore, 1))
theorem i_Md_removeContextRule_92 : iIns M_Md_removeContextRule 92 (.iconst 1) 1 := (by decide +kernel : decode prog_14_method_21_code 92 = .ok (.iconst 1, 1))
theorem i_Md_removeContextRule_93 : iIns M_Md_removeContextRule 93 .ireturn 1 := (by decide +kernel : decode prog_14_method_21_code 93 = .ok (.ireturn, 1))
theorem i_Md_isDeterministic_0 : iIns M_Md_isDeterministic 0 (.aload_n 0) 1 := (by decide +kernel : decode prog_14_method_24_code 0 = .ok (.aload_n 0, 1))
theorem i_Md_isDeterministic_1 : iIns M_Md_isDeterministic 1 (.iload_n 1) 1 := (by decide +kernel : decode prog_14_method_24_code 1 = .ok (.iload_n 1, 1))
theorem i_Md_isDeterministic_2 : iCallS M_Md_isDeterministic 2 M_Md_isTable 1 := ⟨⟨112, (by decide +kernel : decode prog_14_method_24_code 2 = .ok (.invokestatic 112, 3)), lw_k6 156 rfl rfl⟩, sm_Md_isTable, me_Md_isTable, pn_Md_isTable⟩
theorem i_Md_isDeterministic_5 : iIf M_Md_isDeterministic 5 .eq 12 := ⟨7, (by decide +kernel : decode prog_14_method_24_code 5 = .ok (.ifCond .eq (7), 3)), by decide⟩
theorem i_Md_isDeterministic_8 : iIns M_Md_isDeterministic 8 (.iconst 0) 1 := (by decide +kernel : decode prog_14_method_24_code 8 = .ok (.iconst 0, 1))
theorem i_Md_isDeterministic_9 : iGoto M_Md_isDeterministic 9 13 := ⟨4, (by decide +kernel : decode prog_14_method_24_code 9 = .ok (.goto (4), 3)), by decide⟩
theorem i_Md_isDeterministic_12 : iIns M_Md_isDeterministic 12 (.iconst 1) 1 := (by decide +kernel : decode prog_14_method_24_code 12 = .ok (.iconst 1, 1))
theorem i_Md_isDeterministic_13 : iPutX M_Md_isDeterministic 13 14 0 .int := ⟨97, (by decide +kernel : decode prog_14_method_24_code 13 = .ok (.putfield 97, 3)), px_Md_Md_thrown⟩
theorem i_Md_isDeterministic_16 : iIns M_Md_isDeterministic 16 (.aload_n 0) 1 := (by decide +kernel : decode prog_14_method_24_code 16 = .ok (.aload_n 0, 1))
theorem i_Md_isDeterministic_17 : iGet M_Md_isDeterministic 17 14 0 := ⟨97, (by decide +kernel : decode prog_14_method_24_code 17 = .ok (.getfield 97, 3)), fl_Md_Md_thrown⟩
theorem i_Md_isDeterministic_20 : iIf M_Md_isDeterministic 20 .ne 35 := ⟨15, (by decide +kernel : decode prog_14_method_24_code 20 = .ok (.ifCond .ne (15), 3)), by decide⟩
theorem i_Md_isDeterministic_23 : iIns M_Md_isDeterministic 23 (.aload_n 0) 1 := (by decide +kernel : decode prog_14_method_24_code 23 = .ok (.aload_n 0, 1))
theorem i_Md_isDeterministic_24 : iIns M_Md_isDeterministic 24 (.iload_n 1) 1 := (by decide +kernel : decode prog_14_method_24_code 24 = .ok (.iload_n 1, 1))
theorem i_Md_isDeterministic_25 : iCallV M_Md_isDeterministic 25 M_Md_deterministic 1 14 := ⟨⟨152, (by decide +kernel : decode prog_14_method_24_code 25 = .ok (.invokevirtual 152, 3)), lw_k6 210 rfl rfl⟩, vm_Md_deterministic, me_Md_deterministic, pn_Md_deterministic⟩
theorem i_Md_isDeterministic_28 : iIf M_Md_isDeterministic 28 .eq 35 := ⟨7, (by decide +kernel : decode prog_14_method_24_code 28 = .ok (.ifCond .eq (7), 3)), by decide⟩
theorem i_Md_isDeterministic_31 : iIns M_Md_isDeterministic 31 (.iconst 1) 1 := (by decide +kernel : decode prog_14_method_24_code 31 = .ok (.iconst 1, 1))
theorem i_Md_isDeterministic_32 : iGoto M_Md_isDeterministic 32 36 := ⟨4, (by decide +kernel : decode prog_14_method_24_code 32 = .ok (.goto (4), 3)), by decide⟩
theorem i_Md_isDeterministic_35 : iIns M_Md_isDeterministic 35 (.iconst 0) 1 := (by decide +kernel : decode prog_14_method_24_code 35 = .ok (.iconst 0, 1))
theorem i_Md_isDeterministic_36 : iIns M_Md_isDeterministic 36 .ireturn 1 := (by decide +kernel : decode prog_14_method_24_code 36 = .ok (.ireturn, 1))
theorem i_Md_deterministic_0 : iIns M_Md_deterministic 0 (.iconst 1) 1 := (by decide +kernel : decode prog_14_method_22_code 0 = .ok (.iconst 1, 1))
theorem i_Md_deterministic_1 : iIns M_Md_deterministic 1 (.istore_n 2) 1 := (by decide +kernel : decode prog_14_method_22_code 1 = .ok (.istore_n 2, 1))
theorem i_Md_deterministic_2 : iIns M_Md_deterministic 2 (.iconst 0) 1 := (by decide +kernel : decode prog_14_method_22_code 2 = .ok (.iconst 0, 1))
theorem i_Md_deterministic_3 : iIns M_Md_deterministic 3 (.istore_n 3) 1 := (by decide +kernel : decode prog_14_method_22_code 3 = .ok (.istore_n 3, 1))
theorem i_Md_deterministic_4 : iIns M_Md_deterministic 4 (.iload_n 3) 1 := (by decide +kernel : decode prog_14_method_22_code 4 = .ok (.iload_n 3, 1))
theorem i_Md_deterministic_5 : iIns M_Md_deterministic 5 (.bipush 6) 2 := (by decide +kernel : decode prog_14_method_22_code 5 = .ok (.bipush 6, 2))
theorem i_Md_deterministic_7 : iIcmp M_Md_deterministic 7 .ge 40 := ⟨33, (by decide +kernel : decode prog_14_method_22_code 7 = .ok (.if_icmp .ge (33), 3)), by decide⟩
theorem i_Md_deterministic_10 : iIns M_Md_deterministic 10 (.iload_n 2) 1 := (by decide +kernel : decode prog_14_method_22_code 10 = .ok (.iload_n 2, 1))
theorem i_Md_deterministic_11 : iIf M_Md_deterministic 11 .eq 32 := ⟨21, (by decide +kernel : decode prog_14_method_22_code 11 = .ok (.ifCond .eq (21), 3)), by decide⟩
theorem i_Md_deterministic_14 : iIns M_Md_deterministic 14 (.aload_n 0) 1 := (by decide +kernel : decode prog_14_method_22_code 14 = .ok (.aload_n 0, 1))
theorem i_Md_deterministic_15 : iGet M_Md_deterministic 15 14 1 := ⟨9, (by decide +kernel : decode prog_14_method_22_code 15 = .ok (.getfield 9, 3)), fl_Md_Md_tables⟩
theorem i_Md_deterministic_18 : iIns M_Md_deterministic 18 (.iload_n 1) 1 := (by decide +kernel : decode prog_14_method_22_code 18 = .ok (.iload_n 1, 1))
theorem i_Md_deterministic_19 : iIns M_Md_deterministic 19 (.iload_n 3) 1 := (by decide +kernel : decode prog_14_method_22_code 19 = .ok (.iload_n 3, 1))
theorem i_Md_deterministic_20 : iCallS M_Md_deterministic 20 M_Md_listAt 2 := ⟨⟨122, (by decide +kernel : decode prog_14_method_22_code 20 = .ok (.invokestatic 122, 3)), lw_k6 166 rfl rfl⟩, sm_Md_listAt, me_Md_listAt, pn_Md_listAt⟩
theorem i_Md_deterministic_23 : iIns M_Md_deterministic 23 .iaload 1 := (by decide +kernel : decode prog_14_method_22_code 23 = .ok (.iaload, 1))
theorem i_Md_deterministic_24 : iIns M_Md_deterministic 24 (.iconst 1) 1 := (by decide +kernel : decode prog_14_method_22_code 24 = .ok (.iconst 1, 1))
theorem i_Md_deterministic_25 : iIcmp M_Md_deterministic 25 .ne 32 := ⟨7, (by decide +kernel : decode prog_14_method_22_code 25 = .ok (.if_icmp .ne (7), 3)), by decide⟩
theorem i_Md_deterministic_28 : iIns M_Md_deterministic 28 (.iconst 1) 1 := (by decide +kernel : decode prog_14_method_22_code 28 = .ok (.iconst 1, 1))
theorem i_Md_deterministic_29 : iGoto M_Md_deterministic 29 33 := ⟨4, (by decide +kernel : decode prog_14_method_22_code 29 = .ok (.goto (4), 3)), by decide⟩
theorem i_Md_deterministic_32 : iIns M_Md_deterministic 32 (.iconst 0) 1 := (by decide +kernel : decode prog_14_method_22_code 32 = .ok (.iconst 0, 1))
theorem i_Md_deterministic_33 : iIns M_Md_deterministic 33 (.istore_n 2) 1 := (by decide +kernel : decode prog_14_method_22_code 33 = .ok (.istore_n 2, 1))
theorem i_Md_deterministic_34 : iIns M_Md_deterministic 34 (.iinc 3 (1)) 3 := (by decide +kernel : decode prog_14_method_22_code 34 = .ok (.iinc 3 (1), 3))
theorem i_Md_deterministic_37 : iGoto M_Md_deterministic 37 4 := ⟨-33, (by decide +kernel : decode prog_14_method_22_code 37 = .ok (.goto (-33), 3)), by decide⟩
theorem i_Md_deterministic_40 : iIns M_Md_deterministic 40 (.iload_n 2) 1 := (by decide +kernel : decode prog_14_method_22_code 40 = .ok (.iload_n 2, 1))
theorem i_Md_deterministic_41 : iIns M_Md_deterministic 41 .ireturn 1 := (by decide +kernel : decode prog_14_method_22_code 41 = .ok (.ireturn, 1))
theorem i_Md_isPlain_0 : iIns M_Md_isPlain 0 (.aload_n 0) 1 := (by decide +kernel : decode prog_14_method_25_code 0 = .ok (.aload_n 0, 1))
theorem i_Md_isPlain_1 : iIns M_Md_isPlain 1 (.iload_n 1) 1 := (by decide +kernel : decode prog_14_method_25_code 1 = .ok (.iload_n 1, 1))
theorem i_Md_isPlain_2 : iCallS M_Md_isPlain 2 M_Md_isTable 1 := ⟨⟨112, (by decide +kernel : decode prog_14_method_25_code 2 = .ok (.invokestatic 112, 3)), lw_k6 156 rfl rfl⟩, sm_Md_isTable, me_Md_isTable, pn_Md_isTable⟩
theorem i_Md_isPlain_5 : iIf M_Md_isPlain 5 .eq 12 := ⟨7, (by decide +kernel : decode prog_14_method_25_code 5 = .ok (.ifCond .eq (7), 3)), by decide⟩
theorem i_Md_isPlain_8 : iIns M_Md_isPlain 8 (.iconst 0) 1 := (by decide +kernel : decode prog_14_method_25_code 8 = .ok (.iconst 0, 1))
theorem i_Md_isPlain_9 : iGoto M_Md_isPlain 9 13 := ⟨4, (by decide +kernel : decode prog_14_method_25_code 9 = .ok (.goto (4), 3)), by decide⟩
theorem i_Md_isPlain_12 : iIns M_Md_isPlain 12 (.iconst 1) 1 := (by decide +kernel : decode prog_14_method_25_code 12 = .ok (.iconst 1, 1))
theorem i_Md_isPlain_13 : iPutX M_Md_isPlain 13 14 0 .int := ⟨97, (by decide +kernel : decode prog_14_method_25_code 13 = .ok (.putfield 97, 3)), px_Md_Md_thrown⟩
theorem i_Md_isPlain_16 : iIns M_Md_isPlain 16 (.aload_n 0) 1 := (by decide +kernel : decode prog_14_method_25_code 16 = .ok (.aload_n 0, 1))
theorem i_Md_isPlain_17 : iGet M_Md_isPlain 17 14 0 := ⟨97, (by decide +kernel : decode prog_14_method_25_code 17 = .ok (.getfield 97, 3)), fl_Md_Md_thrown⟩
theorem i_Md_isPlain_20 : iIf M_Md_isPlain 20 .ne 35 := ⟨15, (by decide +kernel : decode prog_14_method_25_code 20 = .ok (.ifCond .ne (15), 3)), by decide⟩
theorem i_Md_isPlain_23 : iIns M_Md_isPlain 23 (.aload_n 0) 1 := (by decide +kernel : decode prog_14_method_25_code 23 = .ok (.aload_n 0, 1))
theorem i_Md_isPlain_24 : iIns M_Md_isPlain 24 (.iload_n 1) 1 := (by decide +kernel : decode prog_14_method_25_code 24 = .ok (.iload_n 1, 1))
theorem i_Md_isPlain_25 : iCallV M_Md_isPlain 25 M_Md_plain 1 14 := ⟨⟨155, (by decide +kernel : decode prog_14_method_25_code 25 = .ok (.invokevirtual 155, 3)), lw_k6 218 rfl rfl⟩, vm_Md_plain, me_Md_plain, pn_Md_plain⟩
theorem i_Md_isPlain_28 : iIf M_Md_isPlain 28 .eq 35 := ⟨7, (by decide +kernel : decode prog_14_method_25_code 28 = .ok (.ifCond .eq (7), 3)), by decide⟩
theorem i_Md_isPlain_31 : iIns M_Md_isPlain 31 (.iconst 1) 1 := (by decide +kernel : decode prog_14_method_25_code 31 = .ok (.iconst 1, 1))
theorem i_Md_isPlain_32 : iGoto M_Md_isPlain 32 36 := ⟨4, (by decide +kernel : decode prog_14_method_25_code 32 = .ok (.goto (4), 3)), by decide⟩
theorem i_Md_isPlain_35 : iIns M_Md_isPlain 35 (.iconst 0) 1 := (by decide +kernel : decode prog_14_method_25_code 35 = .ok (.iconst 0, 1))
theorem i_Md_isPlain_36 : iIns M_Md_isPlain 36 .ireturn 1 := (by decide +kernel : decode prog_14_method_25_code 36 = .ok (.ireturn, 1))
theorem i_Md_plain_0 : iIns M_Md_plain 0 (.aload_n 0) 1 := (by decide +kernel : decode prog_14_method_23_code 0 = .ok (.aload_n 0, 1))
theorem i_Md_plain_1 : iGet M_Md_plain 1 14 1 := ⟨9, (by decide +kernel : decode prog_14_method_23_code 1 = .ok (.getfield 9, 3)), fl_Md_Md_tables⟩
theorem i_Md_plain_4 : iIns M_Md_plain 4 (.iload_n 1) 1 := (by decide +kernel : decode prog_14_method_23_code 4 = .ok (.iload_n 1, 1))
theorem i_Md_plain_5 : iCallS M_Md_plain 5 M_Md_rulesAt 1 := ⟨⟨133, (by decide +kernel : decode prog_14_method_23_code 5 = .ok (.invokestatic 133, 3)), lw_k6 195 rfl rfl⟩, sm_Md_rulesAt, me_Md_rulesAt, pn_Md_rulesAt⟩
theorem i_Md_plain_8 : iIns M_Md_plain 8 .iaload 1 := (by decide +kernel : decode prog_14_method_23_code 8 = .ok (.iaload, 1))
theorem i_Md_plain_9 : iIf M_Md_plain 9 .ne 16 := ⟨7, (by decide +kernel : decode prog_14_method_23_code 9 = .ok (.ifCond .ne (7), 3)), by decide⟩
theorem i_Md_plain_12 : iIns M_Md_plain 12 (.iconst 1) 1 := (by decide +kernel : decode prog_14_method_23_code 12 = .ok (.iconst 1, 1))
theorem i_Md_plain_13 : iGoto M_Md_plain 13 17 := ⟨4, (by decide +kernel : decode prog_14_method_23_code 13 = .ok (.goto (4), 3)), by decide⟩
theorem i_Md_plain_16 : iIns M_Md_plain 16 (.iconst 0) 1 := (by decide +kernel : decode prog_14_method_23_code 16 = .ok (.iconst 0, 1))
theorem i_Md_plain_17 : iIns M_Md_plain 17 .ireturn 1 := (by decide +kernel : decode prog_14_method_23_code 17 = .ok (.ireturn, 1))
theorem i_Md_setWord_0 : iIns M_Md_setWord 0 (.aload_n 0) 1 := (by decide +kernel : decode prog_14_method_26_code 0 = .ok (.aload_n 0, 1))
theorem i_Md_setWord_1 : iIns M_Md_setWord 1 (.aload_n 0) 1 := (by decide +kernel : decode prog_14_method_26_code 1 = .ok (.aload_n 0, 1))
theorem i_Md_setWord_2 : iIns M_Md_setWord 2 (.bipush 60) 2 := (by decide +kernel : decode prog_14_method_26_code 2 = .ok (.bipush 60, 2))
theorem i_Md_setWord_4 : iCallV M_Md_setWord 4 M_Md_isWord 1 14 := ⟨⟨119, (by decide +kernel : decode prog_14_method_26_code 4 = .ok (.invokevirtual 119, 3)), lw_k6 162 rfl rfl⟩, vm_Md_isWord, me_Md_isWord, pn_Md_isWord⟩
theorem i_Md_setWord_7 : iIf M_Md_setWord 7 .eq 14 := ⟨7, (by decide +kernel : decode prog_14_method_26_code 7 = .ok (.ifCond .eq (7), 3)), by decide⟩
theorem i_Md_setWord_10 : iIns M_Md_setWord 10 (.iconst 0) 1 := (by decide +kernel : decode prog_14_method_26_code 10 = .ok (.iconst 0, 1))
theorem i_Md_setWord_11 : iGoto M_Md_setWord 11 15 := ⟨4, (by decide +kernel : decode prog_14_method_26_code 11 = .ok (.goto (4), 3)), by decide⟩
theorem i_Md_setWord_14 : iIns M_Md_setWord 14 (.iconst 1) 1 := (by decide +kernel : decode prog_14_method_26_code 14 = .ok (.iconst 1, 1))
theorem i_Md_setWord_15 : iPutX M_Md_setWord 15 14 0 .int := ⟨97, (by decide +kernel : decode prog_14_method_26_code 15 = .ok (.putfield 97, 3)), px_Md_Md_thrown⟩
theorem i_Md_setWord_18 : iIns M_Md_setWord 18 (.aload_n 0) 1 := (by decide +kernel : decode prog_14_method_26_code 18 = .ok (.aload_n 0, 1))
theorem i_Md_setWord_19 : iGet M_Md_setWord 19 14 0 := ⟨97, (by decide +kernel : decode prog_14_method_26_code 19 = .ok (.getfield 97, 3)), fl_Md_Md_thrown⟩
theorem i_Md_setWord_22 : iIf M_Md_setWord 22 .le 27 := ⟨5, (by decide +kernel : decode prog_14_method_26_code 22 = .ok (.ifCond .le (5), 3)), by decide⟩
theorem i_Md_setWord_25 : iIns M_Md_setWord 25 (.iconst 0) 1 := (by decide +kernel : decode prog_14_method_26_code 25 = .ok (.iconst 0, 1))
theorem i_Md_setWord_26 : iIns M_Md_setWord 26 .ireturn 1 := (by decide +kernel : decode prog_14_method_26_code 26 = .ok (.ireturn, 1))
theorem i_Md_setWord_27 : iIns M_Md_setWord 27 (.aload_n 0) 1 := (by decide +kernel : decode prog_14_method_26_code 27 = .ok (.aload_n 0, 1))
theorem i_Md_setWord_28 : iIns M_Md_setWord 28 (.aload_n 0) 1 := (by decide +kernel : decode prog_14_method_26_code 28 = .ok (.aload_n 0, 1))
theorem i_Md_setWord_29 : iGet M_Md_setWord 29 14 2 := ⟨13, (by decide +kernel : decode prog_14_method_26_code 29 = .ok (.getfield 13, 3)), fl_Md_Md_word⟩
theorem i_Md_setWord_32 : iIns M_Md_setWord 32 (.iconst 0) 1 := (by decide +kernel : decode prog_14_method_26_code 32 = .ok (.iconst 0, 1))
theorem i_Md_setWord_33 : iCallV M_Md_setWord 33 M_Md_putWord 2 14 := ⟨⟨129, (by decide +kernel : decode prog_14_method_26_code 33 = .ok (.invokevirtual 129, 3)), lw_k6 172 rfl rfl⟩, vm_Md_putWord, me_Md_putWord, pn_Md_putWord⟩
theorem i_Md_setWord_36 : iIns M_Md_setWord 36 (.aload_n 0) 1 := (by decide +kernel : decode prog_14_method_26_code 36 = .ok (.aload_n 0, 1))
theorem i_Md_setWord_37 : iIns M_Md_setWord 37 (.iconst 0) 1 := (by decide +kernel : decode prog_14_method_26_code 37 = .ok (.iconst 0, 1))
theorem i_Md_setWord_38 : iPutX M_Md_setWord 38 14 8 .int := ⟨158, (by decide +kernel : decode prog_14_method_26_code 38 = .ok (.putfield 158, 3)), px_Md_Md_steps⟩
theorem i_Md_setWord_41 : iIns M_Md_setWord 41 (.aload_n 0) 1 := (by decide +kernel : decode prog_14_method_26_code 41 = .ok (.aload_n 0, 1))
theorem i_Md_setWord_42 : iGet M_Md_setWord 42 14 6 := ⟨109, (by decide +kernel : decode prog_14_method_26_code 42 = .ok (.getfield 109, 3)), fl_Md_Md_length⟩
theorem i_Md_setWord_45 : iIns M_Md_setWord 45 .ireturn 1 := (by decide +kernel : decode prog_14_method_26_code 45 = .ok (.ireturn, 1))
theorem i_Md_setTarget_0 : iIns M_Md_setTarget 0 (.aload_n 0) 1 := (by decide +kernel : decode prog_14_method_27_code 0 = .ok (.aload_n 0, 1))
theorem i_Md_setTarget_1 : iIns M_Md_setTarget 1 (.aload_n 0) 1 := (by decide +kernel : decode prog_14_method_27_code 1 = .ok (.aload_n 0, 1))
theorem i_Md_setTarget_2 : iIns M_Md_setTarget 2 (.bipush 60) 2 := (by decide +kernel : decode prog_14_method_27_code 2 = .ok (.bipush 60, 2))
theorem i_Md_setTarget_4 : iCallV M_Md_setTarget 4 M_Md_isWord 1 14 := ⟨⟨119, (by decide +kernel : decode prog_14_method_27_code 4 = .ok (.invokevirtual 119, 3)), lw_k6 162 rfl rfl⟩, vm_Md_isWord, me_Md_isWord, pn_Md_isWord⟩
theorem i_Md_setTarget_7 : iIf M_Md_setTarget 7 .eq 14 := ⟨7, (by decide +kernel : decode prog_14_method_27_code 7 = .ok (.ifCond .eq (7), 3)), by decide⟩
theorem i_Md_setTarget_10 : iIns M_Md_setTarget 10 (.iconst 0) 1 := (by decide +kernel : decode prog_14_method_27_code 10 = .ok (.iconst 0, 1))
theorem i_Md_setTarget_11 : iGoto M_Md_setTarget 11 15 := ⟨4, (by decide +kernel : decode prog_14_method_27_code 11 = .ok (.goto (4), 3)), by decide⟩
theorem i_Md_setTarget_14 : iIns M_Md_setTarget 14 (.iconst 1) 1 := (by decide +kernel : decode prog_14_method_27_code 14 = .ok (.iconst 1, 1))
theorem i_Md_setTarget_15 : iPutX M_Md_setTarget 15 14 0 .int := ⟨97, (by decide +kernel : decode prog_14_method_27_code 15 = .ok (.putfield 97, 3)), px_Md_Md_thrown⟩
theorem i_Md_setTarget_18 : iIns M_Md_setTarget 18 (.aload_n 0) 1 := (by decide +kernel : decode prog_14_method_27_code 18 = .ok (.aload_n 0, 1))
theorem i_Md_setTarget_19 : iGet M_Md_setTarget 19 14 0 := ⟨97, (by decide +kernel : decode prog_14_method_27_code 19 = .ok (.getfield 97, 3)), fl_Md_Md_thrown⟩
theorem i_Md_setTarget_22 : iIf M_Md_setTarget 22 .le 27 := ⟨5, (by decide +kernel : decode prog_14_method_27_code 22 = .ok (.ifCond .le (5), 3)), by decide⟩
theorem i_Md_setTarget_25 : iIns M_Md_setTarget 25 (.iconst 0) 1 := (by decide +kernel : decode prog_14_method_27_code 25 = .ok (.iconst 0, 1))
theorem i_Md_setTarget_26 : iIns M_Md_setTarget 26 .ireturn 1 := (by decide +kernel : decode prog_14_method_27_code 26 = .ok (.ireturn, 1))
theorem i_Md_setTarget_27 : iIns M_Md_setTarget 27 (.aload_n 0) 1 := (by decide +kernel : decode prog_14_method_27_code 27 = .ok (.aload_n 0, 1))
theorem i_Md_setTarget_28 : iIns M_Md_setTarget 28 (.aload_n 0) 1 := (by decide +kernel : decode prog_14_method_27_code 28 = .ok (.aload_n 0, 1))
theorem i_Md_setTarget_29 : iGet M_Md_setTarget 29 14 3 := ⟨16, (by decide +kernel : decode prog_14_method_27_code 29 = .ok (.getfield 16, 3)), fl_Md_Md_target⟩
theorem i_Md_setTarget_32 : iIns M_Md_setTarget 32 (.iconst 0) 1 := (by decide +kernel : decode prog_14_method_27_code 32 = .ok (.iconst 0, 1))
theorem i_Md_setTarget_33 : iCallV M_Md_setTarget 33 M_Md_putWord 2 14 := ⟨⟨129, (by decide +kernel : decode prog_14_method_27_code 33 = .ok (.invokevirtual 129, 3)), lw_k6 172 rfl rfl⟩, vm_Md_putWord, me_Md_putWord, pn_Md_putWord⟩
theorem i_Md_setTarget_36 : iIns M_Md_setTarget 36 (.aload_n 0) 1 := (by decide +kernel : decode prog_14_method_27_code 36 = .ok (.aload_n 0, 1))
theorem i_Md_setTarget_37 : iGet M_Md_setTarget 37 14 6 := ⟨109, (by decide +kernel : decode prog_14_method_27_code 37 = .ok (.getfield 109, 3)), fl_Md_Md_length⟩
theorem i_Md_setTarget_40 : iIns M_Md_setTarget 40 .ireturn 1 := (by decide +kernel : decode prog_14_method_27_code 40 = .ok (.ireturn, 1))
theorem i_Md_wordLength_0 : iIns M_Md_wordLength 0 (.aload_n 0) 1 := (by decide +kernel : decode prog_14_method_28_code 0 = .ok (.aload_n 0, 1))
theorem i_Md_wordLength_1 : iIns M_Md_wordLength 1 (.iconst 0) 1 := (by decide +kernel : decode prog_14_method_28_code 1 = .ok (.iconst 0, 1))
theorem i_Md_wordLength_2 : iPutX M_Md_wordLength 2 14 0 .int := ⟨97, (by decide +kernel : decode prog_14_method_28_code 2 = .ok (.putfield 97, 3)), px_Md_Md_thrown⟩
theorem i_Md_wordLength_5 : iIns M_Md_wordLength 5 (.aload_n 0) 1 := (by decide +kernel : decode prog_14_method_28_code 5 = .ok (.aload_n 0, 1))
theorem i_Md_wordLength_6 : iGet M_Md_wordLength 6 14 2 := ⟨13, (by decide +kernel : decode prog_14_method_28_code 6 = .ok (.getfield 13, 3)), fl_Md_Md_word⟩
theorem i_Md_wordLength_9 : iIns M_Md_wordLength 9 (.iconst 0) 1 := (by decide +kernel : decode prog_14_method_28_code 9 = .ok (.iconst 0, 1))
theorem i_Md_wordLength_10 : iIns M_Md_wordLength 10 .iaload 1 := (by decide +kernel : decode prog_14_method_28_code 10 = .ok (.iaload, 1))
theorem i_Md_wordLength_11 : iIns M_Md_wordLength 11 .ireturn 1 := (by decide +kernel : decode prog_14_method_28_code 11 = .ok (.ireturn, 1))
theorem i_Md_wordLetter_0 : iIns M_Md_wordLetter 0 (.aload_n 0) 1 := (by decide +kernel : decode prog_14_method_29_code 0 = .ok (.aload_n 0, 1))
theorem i_Md_wordLetter_1 : iIns M_Md_wordLetter 1 (.iload_n 1) 1 := (by decide +kernel : decode prog_14_method_29_code 1 = .ok (.iload_n 1, 1))
theorem i_Md_wordLetter_2 : iIns M_Md_wordLetter 2 (.iconst 0) 1 := (by decide +kernel : decode prog_14_method_29_code 2 = .ok (.iconst 0, 1))
theorem i_Md_wordLetter_3 : iIns M_Md_wordLetter 3 (.aload_n 0) 1 := (by decide +kernel : decode prog_14_method_29_code 3 = .ok (.aload_n 0, 1))
theorem i_Md_wordLetter_4 : iGet M_Md_wordLetter 4 14 2 := ⟨13, (by decide +kernel : decode prog_14_method_29_code 4 = .ok (.getfield 13, 3)), fl_Md_Md_word⟩
theorem i_Md_wordLetter_7 : iIns M_Md_wordLetter 7 (.iconst 0) 1 := (by decide +kernel : decode prog_14_method_29_code 7 = .ok (.iconst 0, 1))
theorem i_Md_wordLetter_8 : iIns M_Md_wordLetter 8 .iaload 1 := (by decide +kernel : decode prog_14_method_29_code 8 = .ok (.iaload, 1))
theorem i_Md_wordLetter_9 : iIns M_Md_wordLetter 9 (.iconst 1) 1 := (by decide +kernel : decode prog_14_method_29_code 9 = .ok (.iconst 1, 1))
theorem i_Md_wordLetter_10 : iIns M_Md_wordLetter 10 .isub 1 := (by decide +kernel : decode prog_14_method_29_code 10 = .ok (.isub, 1))
theorem i_Md_wordLetter_11 : iCallS M_Md_wordLetter 11 M_Md_in 3 := ⟨⟨101, (by decide +kernel : decode prog_14_method_29_code 11 = .ok (.invokestatic 101, 3)), lw_k6 141 rfl rfl⟩, sm_Md_in, me_Md_in, pn_Md_in⟩
theorem i_Md_wordLetter_14 : iIf M_Md_wordLetter 14 .eq 21 := ⟨7, (by decide +kernel : decode prog_14_method_29_code 14 = .ok (.ifCond .eq (7), 3)), by decide⟩
theorem i_Md_wordLetter_17 : iIns M_Md_wordLetter 17 (.iconst 0) 1 := (by decide +kernel : decode prog_14_method_29_code 17 = .ok (.iconst 0, 1))
theorem i_Md_wordLetter_18 : iGoto M_Md_wordLetter 18 22 := ⟨4, (by decide +kernel : decode prog_14_method_29_code 18 = .ok (.goto (4), 3)), by decide⟩
theorem i_Md_wordLetter_21 : iIns M_Md_wordLetter 21 (.iconst 1) 1 := (by decide +kernel : decode prog_14_method_29_code 21 = .ok (.iconst 1, 1))
theorem i_Md_wordLetter_22 : iPutX M_Md_wordLetter 22 14 0 .int := ⟨97, (by decide +kernel : decode prog_14_method_29_code 22 = .ok (.putfield 97, 3)), px_Md_Md_thrown⟩
theorem i_Md_wordLetter_25 : iIns M_Md_wordLetter 25 (.aload_n 0) 1 := (by decide +kernel : decode prog_14_method_29_code 25 = .ok (.aload_n 0, 1))
theorem i_Md_wordLetter_26 : iGet M_Md_wordLetter 26 14 0 := ⟨97, (by decide +kernel : decode prog_14_method_29_code 26 = .ok (.getfield 97, 3)), fl_Md_Md_thrown⟩
theorem i_Md_wordLetter_29 : iIf M_Md_wordLetter 29 .le 36 := ⟨7, (by decide +kernel : decode prog_14_method_29_code 29 = .ok (.ifCond .le (7), 3)), by decide⟩
theorem i_Md_wordLetter_32 : iIns M_Md_wordLetter 32 (.iconst 0) 1 := (by decide +kernel : decode prog_14_method_29_code 32 = .ok (.iconst 0, 1))
theorem i_Md_wordLetter_33 : iGoto M_Md_wordLetter 33 44 := ⟨11, (by decide +kernel : decode prog_14_method_29_code 33 = .ok (.goto (11), 3)), by decide⟩
theorem i_Md_wordLetter_36 : iIns M_Md_wordLetter 36 (.aload_n 0) 1 := (by decide +kernel : decode prog_14_method_29_code 36 = .ok (.aload_n 0, 1))
theorem i_Md_wordLetter_37 : iGet M_Md_wordLetter 37 14 2 := ⟨13, (by decide +kernel : decode prog_14_method_29_code 37 = .ok (.getfield 13, 3)), fl_Md_Md_word⟩
theorem i_Md_wordLetter_40 : iIns M_Md_wordLetter 40 (.iconst 1) 1 := (by decide +kernel : decode prog_14_method_29_code 40 = .ok (.iconst 1, 1))
theorem i_Md_wordLetter_41 : iIns M_Md_wordLetter 41 (.iload_n 1) 1 := (by decide +kernel : decode prog_14_method_29_code 41 = .ok (.iload_n 1, 1))
theorem i_Md_wordLetter_42 : iIns M_Md_wordLetter 42 .iadd 1 := (by decide +kernel : decode prog_14_method_29_code 42 = .ok (.iadd, 1))
theorem i_Md_wordLetter_43 : iIns M_Md_wordLetter 43 .iaload 1 := (by decide +kernel : decode prog_14_method_29_code 43 = .ok (.iaload, 1))
theorem i_Md_wordLetter_44 : iIns M_Md_wordLetter 44 .ireturn 1 := (by decide +kernel : decode prog_14_method_29_code 44 = .ok (.ireturn, 1))
theorem i_Md_isTarget_0 : iIns M_Md_isTarget 0 (.aload_n 0) 1 := (by decide +kernel : decode prog_14_method_31_code 0 = .ok (.aload_n 0, 1))
theorem i_Md_isTarget_1 : iIns M_Md_isTarget 1 (.iconst 0) 1 := (by decide +kernel : decode prog_14_method_31_code 1 = .ok (.iconst 0, 1))
theorem i_Md_isTarget_2 : iPutX M_Md_isTarget 2 14 0 .int := ⟨97, (by decide +kernel : decode prog_14_method_31_code 2 = .ok (.putfield 97, 3)), px_Md_Md_thrown⟩
theorem i_Md_isTarget_5 : iIns M_Md_isTarget 5 (.aload_n 0) 1 := (by decide +kernel : decode prog_14_method_31_code 5 = .ok (.aload_n 0, 1))
theorem i_Md_isTarget_6 : iGet M_Md_isTarget 6 14 2 := ⟨13, (by decide +kernel : decode prog_14_method_31_code 6 = .ok (.getfield 13, 3)), fl_Md_Md_word⟩
theorem i_Md_isTarget_9 : iIns M_Md_isTarget 9 (.aload_n 0) 1 := (by decide +kernel : decode prog_14_method_31_code 9 = .ok (.aload_n 0, 1))
theorem i_Md_isTarget_10 : iGet M_Md_isTarget 10 14 3 := ⟨16, (by decide +kernel : decode prog_14_method_31_code 10 = .ok (.getfield 16, 3)), fl_Md_Md_target⟩
theorem i_Md_isTarget_13 : iCallS M_Md_isTarget 13 M_Md_same 2 := ⟨⟨161, (by decide +kernel : decode prog_14_method_31_code 13 = .ok (.invokestatic 161, 3)), lw_k7 2 rfl rfl⟩, sm_Md_same, me_Md_same, pn_Md_same⟩
theorem i_Md_isTarget_16 : iIns M_Md_isTarget 16 .ireturn 1 := (by decide +kernel : decode prog_14_method_31_code 16 = .ok (.ireturn, 1))
theorem i_Md_same_0 : iIns M_Md_same 0 (.aload_n 0) 1 := (by decide +kernel : decode prog_14_method_30_code 0 = .ok (.aload_n 0, 1))
theorem i_Md_same_1 : iIns M_Md_same 1 (.iconst 0) 1 := (by decide +kernel : decode prog_14_method_30_code 1 = .ok (.iconst 0, 1))
theorem i_Md_same_2 : iIns M_Md_same 2 .iaload 1 := (by decide +kernel : decode prog_14_method_30_code 2 = .ok (.iaload, 1))
theorem i_Md_same_3 : iIns M_Md_same 3 (.aload_n 1) 1 := (by decide +kernel : decode prog_14_method_30_code 3 = .ok (.aload_n 1, 1))
theorem i_Md_same_4 : iIns M_Md_same 4 (.iconst 0) 1 := (by decide +kernel : decode prog_14_method_30_code 4 = .ok (.iconst 0, 1))
theorem i_Md_same_5 : iIns M_Md_same 5 .iaload 1 := (by decide +kernel : decode prog_14_method_30_code 5 = .ok (.iaload, 1))
theorem i_Md_same_6 : iIcmp M_Md_same 6 .ne 13 := ⟨7, (by decide +kernel : decode prog_14_method_30_code 6 = .ok (.if_icmp .ne (7), 3)), by decide⟩
theorem i_Md_same_9 : iIns M_Md_same 9 (.iconst 1) 1 := (by decide +kernel : decode prog_14_method_30_code 9 = .ok (.iconst 1, 1))
theorem i_Md_same_10 : iGoto M_Md_same 10 14 := ⟨4, (by decide +kernel : decode prog_14_method_30_code 10 = .ok (.goto (4), 3)), by decide⟩
theorem i_Md_same_13 : iIns M_Md_same 13 (.iconst 0) 1 := (by decide +kernel : decode prog_14_method_30_code 13 = .ok (.iconst 0, 1))
theorem i_Md_same_14 : iIns M_Md_same 14 (.istore_n 2) 1 := (by decide +kernel : decode prog_14_method_30_code 14 = .ok (.istore_n 2, 1))
theorem i_Md_same_15 : iIns M_Md_same 15 (.iconst 1) 1 := (by decide +kernel : decode prog_14_method_30_code 15 = .ok (.iconst 1, 1))
theorem i_Md_same_16 : iIns M_Md_same 16 (.istore_n 3) 1 := (by decide +kernel : decode prog_14_method_30_code 16 = .ok (.istore_n 3, 1))
theorem i_Md_same_17 : iIns M_Md_same 17 (.iload_n 3) 1 := (by decide +kernel : decode prog_14_method_30_code 17 = .ok (.iload_n 3, 1))
theorem i_Md_same_18 : iIns M_Md_same 18 (.aload_n 0) 1 := (by decide +kernel : decode prog_14_method_30_code 18 = .ok (.aload_n 0, 1))
theorem i_Md_same_19 : iIns M_Md_same 19 (.iconst 0) 1 := (by decide +kernel : decode prog_14_method_30_code 19 = .ok (.iconst 0, 1))
theorem i_Md_same_20 : iIns M_Md_same 20 .iaload 1 := (by decide +kernel : decode prog_14_method_30_code 20 = .ok (.iaload, 1))
theorem i_Md_same_21 : iIcmp M_Md_same 21 .gt 49 := ⟨28, (by decide +kernel : decode prog_14_method_30_code 21 = .ok (.if_icmp .gt (28), 3)), by decide⟩
theorem i_Md_same_24 : iIns M_Md_same 24 (.iload_n 2) 1 := (by decide +kernel : decode prog_14_method_30_code 24 = .ok (.iload_n 2, 1))
theorem i_Md_same_25 : iIf M_Md_same 25 .eq 49 := ⟨24, (by decide +kernel : decode prog_14_method_30_code 25 = .ok (.ifCond .eq (24), 3)), by decide⟩
theorem i_Md_same_28 : iIns M_Md_same 28 (.aload_n 0) 1 := (by decide +kernel : decode prog_14_method_30_code 28 = .ok (.aload_n 0, 1))
theorem i_Md_same_29 : iIns M_Md_same 29 (.iload_n 3) 1 := (by decide +kernel : decode prog_14_method_30_code 29 = .ok (.iload_n 3, 1))
theorem i_Md_same_30 : iIns M_Md_same 30 .iaload 1 := (by decide +kernel : decode prog_14_method_30_code 30 = .ok (.iaload, 1))
theorem i_Md_same_31 : iIns M_Md_same 31 (.aload_n 1) 1 := (by decide +kernel : decode prog_14_method_30_code 31 = .ok (.aload_n 1, 1))
theorem i_Md_same_32 : iIns M_Md_same 32 (.iload_n 3) 1 := (by decide +kernel : decode prog_14_method_30_code 32 = .ok (.iload_n 3, 1))
theorem i_Md_same_33 : iIns M_Md_same 33 .iaload 1 := (by decide +kernel : decode prog_14_method_30_code 33 = .ok (.iaload, 1))
theorem i_Md_same_34 : iIcmp M_Md_same 34 .ne 41 := ⟨7, (by decide +kernel : decode prog_14_method_30_code 34 = .ok (.if_icmp .ne (7), 3)), by decide⟩
theorem i_Md_same_37 : iIns M_Md_same 37 (.iconst 1) 1 := (by decide +kernel : decode prog_14_method_30_code 37 = .ok (.iconst 1, 1))
theorem i_Md_same_38 : iGoto M_Md_same 38 42 := ⟨4, (by decide +kernel : decode prog_14_method_30_code 38 = .ok (.goto (4), 3)), by decide⟩
theorem i_Md_same_41 : iIns M_Md_same 41 (.iconst 0) 1 := (by decide +kernel : decode prog_14_method_30_code 41 = .ok (.iconst 0, 1))
theorem i_Md_same_42 : iIns M_Md_same 42 (.istore_n 2) 1 := (by decide +kernel : decode prog_14_method_30_code 42 = .ok (.istore_n 2, 1))
theorem i_Md_same_43 : iIns M_Md_same 43 (.iinc 3 (1)) 3 := (by decide +kernel : decode prog_14_method_30_code 43 = .ok (.iinc 3 (1), 3))
theorem i_Md_same_46 : iGoto M_Md_same 46 17 := ⟨-29, (by decide +kernel : decode prog_14_method_30_code 46 = .ok (.goto (-29), 3)), by decide⟩
theorem i_Md_same_49 : iIns M_Md_same 49 (.iload_n 2) 1 := (by decide +kernel : decode prog_14_method_30_code 49 = .ok (.iload_n 2, 1))
theorem i_Md_same_50 : iIns M_Md_same 50 .ireturn 1 := (by decide +kernel : decode prog_14_method_30_code 50 = .ok (.ireturn, 1))
theorem i_Md_step_0 : iIns M_Md_step 0 (.aload_n 0) 1 := (by decide +kernel : decode prog_14_method_34_code 0 = .ok (.aload_n 0, 1))
theorem i_Md_step_1 : iIns M_Md_step 1 (.iload_n 1) 1 := (by decide +kernel : decode prog_14_method_34_code 1 = .ok (.iload_n 1, 1))
theorem i_Md_step_2 : iCallS M_Md_step 2 M_Md_isTable 1 := ⟨⟨112, (by decide +kernel : decode prog_14_method_34_code 2 = .ok (.invokestatic 112, 3)), lw_k6 156 rfl rfl⟩, sm_Md_isTable, me_Md_isTable, pn_Md_isTable⟩
theorem i_Md_step_5 : iIf M_Md_step 5 .eq 12 := ⟨7, (by decide +kernel : decode prog_14_method_34_code 5 = .ok (.ifCond .eq (7), 3)), by decide⟩
theorem i_Md_step_8 : iIns M_Md_step 8 (.iconst 0) 1 := (by decide +kernel : decode prog_14_method_34_code 8 = .ok (.iconst 0, 1))
theorem i_Md_step_9 : iGoto M_Md_step 9 13 := ⟨4, (by decide +kernel : decode prog_14_method_34_code 9 = .ok (.goto (4), 3)), by decide⟩
theorem i_Md_step_12 : iIns M_Md_step 12 (.iconst 1) 1 := (by decide +kernel : decode prog_14_method_34_code 12 = .ok (.iconst 1, 1))
theorem i_Md_step_13 : iPutX M_Md_step 13 14 0 .int := ⟨97, (by decide +kernel : decode prog_14_method_34_code 13 = .ok (.putfield 97, 3)), px_Md_Md_thrown⟩
theorem i_Md_step_16 : iIns M_Md_step 16 (.aload_n 0) 1 := (by decide +kernel : decode prog_14_method_34_code 16 = .ok (.aload_n 0, 1))
theorem i_Md_step_17 : iGet M_Md_step 17 14 0 := ⟨97, (by decide +kernel : decode prog_14_method_34_code 17 = .ok (.getfield 97, 3)), fl_Md_Md_thrown⟩
theorem i_Md_step_20 : iIf M_Md_step 20 .le 25 := ⟨5, (by decide +kernel : decode prog_14_method_34_code 20 = .ok (.ifCond .le (5), 3)), by decide⟩
theorem i_Md_step_23 : iIns M_Md_step 23 (.iconst 0) 1 := (by decide +kernel : decode prog_14_method_34_code 23 = .ok (.iconst 0, 1))
theorem i_Md_step_24 : iIns M_Md_step 24 .ireturn 1 := (by decide +kernel : decode prog_14_method_34_code 24 = .ok (.ireturn, 1))
theorem i_Md_step_25 : iIns M_Md_step 25 (.aload_n 0) 1 := (by decide +kernel : decode prog_14_method_34_code 25 = .ok (.aload_n 0, 1))
theorem i_Md_step_26 : iIns M_Md_step 26 (.iload_n 2) 1 := (by decide +kernel : decode prog_14_method_34_code 26 = .ok (.iload_n 2, 1))
theorem i_Md_step_27 : iPutX M_Md_step 27 14 14 .int := ⟨169, (by decide +kernel : decode prog_14_method_34_code 27 = .ok (.putfield 169, 3)), px_Md_Md_drawn⟩
theorem i_Md_step_30 : iIns M_Md_step 30 (.aload_n 0) 1 := (by decide +kernel : decode prog_14_method_34_code 30 = .ok (.aload_n 0, 1))
theorem i_Md_step_31 : iIns M_Md_step 31 (.iload_n 1) 1 := (by decide +kernel : decode prog_14_method_34_code 31 = .ok (.iload_n 1, 1))
theorem i_Md_step_32 : iIns M_Md_step 32 (.aload_n 0) 1 := (by decide +kernel : decode prog_14_method_34_code 32 = .ok (.aload_n 0, 1))
theorem i_Md_step_33 : iGet M_Md_step 33 14 2 := ⟨13, (by decide +kernel : decode prog_14_method_34_code 33 = .ok (.getfield 13, 3)), fl_Md_Md_word⟩
theorem i_Md_step_36 : iIns M_Md_step 36 (.aload_n 0) 1 := (by decide +kernel : decode prog_14_method_34_code 36 = .ok (.aload_n 0, 1))
theorem i_Md_step_37 : iGet M_Md_step 37 14 15 := ⟨40, (by decide +kernel : decode prog_14_method_34_code 37 = .ok (.getfield 40, 3)), fl_Md_Md_next⟩
theorem i_Md_step_40 : iCallV M_Md_step 40 M_Md_step3 3 14 := ⟨⟨173, (by decide +kernel : decode prog_14_method_34_code 40 = .ok (.invokevirtual 173, 3)), lw_k7 9 rfl rfl⟩, vm_Md_step3, me_Md_step3, pn_Md_step3⟩
theorem i_Md_step_43 : iIf M_Md_step 43 .ne 52 := ⟨9, (by decide +kernel : decode prog_14_method_34_code 43 = .ok (.ifCond .ne (9), 3)), by decide⟩
theorem i_Md_step_46 : iIns M_Md_step 46 (.aload_n 0) 1 := (by decide +kernel : decode prog_14_method_34_code 46 = .ok (.aload_n 0, 1))
theorem i_Md_step_47 : iIns M_Md_step 47 (.iconst 2) 1 := (by decide +kernel : decode prog_14_method_34_code 47 = .ok (.iconst 2, 1))
theorem i_Md_step_48 : iCallV M_Md_step 48 M_Md_fails 1 14 := ⟨⟨105, (by decide +kernel : decode prog_14_method_34_code 48 = .ok (.invokevirtual 105, 3)), lw_k6 144 rfl rfl⟩, vm_Md_fails, me_Md_fails, pn_Md_fails⟩
theorem i_Md_step_51 : iIns M_Md_step 51 .ireturn 1 := (by decide +kernel : decode prog_14_method_34_code 51 = .ok (.ireturn, 1))
theorem i_Md_step_52 : iIns M_Md_step 52 (.aload_n 0) 1 := (by decide +kernel : decode prog_14_method_34_code 52 = .ok (.aload_n 0, 1))
theorem i_Md_step_53 : iGet M_Md_step 53 14 8 := ⟨158, (by decide +kernel : decode prog_14_method_34_code 53 = .ok (.getfield 158, 3)), fl_Md_Md_steps⟩
theorem i_Md_step_56 : iIns M_Md_step 56 (.bipush 8) 2 := (by decide +kernel : decode prog_14_method_34_code 56 = .ok (.bipush 8, 2))
theorem i_Md_step_58 : iIcmp M_Md_step 58 .ne 88 := ⟨30, (by decide +kernel : decode prog_14_method_34_code 58 = .ok (.if_icmp .ne (30), 3)), by decide⟩
theorem i_Md_step_61 : iIns M_Md_step 61 (.aload_n 0) 1 := (by decide +kernel : decode prog_14_method_34_code 61 = .ok (.aload_n 0, 1))
theorem i_Md_step_62 : iGet M_Md_step 62 14 7 := ⟨25, (by decide +kernel : decode prog_14_method_34_code 62 = .ok (.getfield 25, 3)), fl_Md_Md_earlier⟩
theorem i_Md_step_65 : iIns M_Md_step 65 (.bipush 61) 2 := (by decide +kernel : decode prog_14_method_34_code 65 = .ok (.bipush 61, 2))
theorem i_Md_step_67 : iIns M_Md_step 67 (.aload_n 0) 1 := (by decide +kernel : decode prog_14_method_34_code 67 = .ok (.aload_n 0, 1))
theorem i_Md_step_68 : iGet M_Md_step 68 14 7 := ⟨25, (by decide +kernel : decode prog_14_method_34_code 68 = .ok (.getfield 25, 3)), fl_Md_Md_earlier⟩
theorem i_Md_step_71 : iIns M_Md_step 71 (.iconst 0) 1 := (by decide +kernel : decode prog_14_method_34_code 71 = .ok (.iconst 0, 1))
theorem i_Md_step_72 : iIns M_Md_step 72 (.sipush 427) 3 := (by decide +kernel : decode prog_14_method_34_code 72 = .ok (.sipush 427, 3))
theorem i_Md_step_75 : iCpy M_Md_step 75 := ⟨146, (by decide +kernel : decode prog_14_method_34_code 75 = .ok (.invokestatic 146, 3)), lw_k6 205 rfl rfl⟩
theorem i_Md_step_78 : iIns M_Md_step 78 (.aload_n 0) 1 := (by decide +kernel : decode prog_14_method_34_code 78 = .ok (.aload_n 0, 1))
theorem i_Md_step_79 : iIns M_Md_step 79 .dup 1 := (by decide +kernel : decode prog_14_method_34_code 79 = .ok (.dup, 1))
theorem i_Md_step_80 : iGet M_Md_step 80 14 8 := ⟨158, (by decide +kernel : decode prog_14_method_34_code 80 = .ok (.getfield 158, 3)), fl_Md_Md_steps⟩
theorem i_Md_step_83 : iIns M_Md_step 83 (.iconst 1) 1 := (by decide +kernel : decode prog_14_method_34_code 83 = .ok (.iconst 1, 1))
theorem i_Md_step_84 : iIns M_Md_step 84 .isub 1 := (by decide +kernel : decode prog_14_method_34_code 84 = .ok (.isub, 1))
theorem i_Md_step_85 : iPutX M_Md_step 85 14 8 .int := ⟨158, (by decide +kernel : decode prog_14_method_34_code 85 = .ok (.putfield 158, 3)), px_Md_Md_steps⟩
theorem i_Md_step_88 : iIns M_Md_step 88 (.aload_n 0) 1 := (by decide +kernel : decode prog_14_method_34_code 88 = .ok (.aload_n 0, 1))
theorem i_Md_step_89 : iGet M_Md_step 89 14 2 := ⟨13, (by decide +kernel : decode prog_14_method_34_code 89 = .ok (.getfield 13, 3)), fl_Md_Md_word⟩
theorem i_Md_step_92 : iIns M_Md_step 92 (.iconst 0) 1 := (by decide +kernel : decode prog_14_method_34_code 92 = .ok (.iconst 0, 1))
theorem i_Md_step_93 : iIns M_Md_step 93 (.aload_n 0) 1 := (by decide +kernel : decode prog_14_method_34_code 93 = .ok (.aload_n 0, 1))
theorem i_Md_step_94 : iGet M_Md_step 94 14 7 := ⟨25, (by decide +kernel : decode prog_14_method_34_code 94 = .ok (.getfield 25, 3)), fl_Md_Md_earlier⟩
theorem i_Md_step_97 : iIns M_Md_step 97 (.bipush 61) 2 := (by decide +kernel : decode prog_14_method_34_code 97 = .ok (.bipush 61, 2))
theorem i_Md_step_99 : iIns M_Md_step 99 (.aload_n 0) 1 := (by decide +kernel : decode prog_14_method_34_code 99 = .ok (.aload_n 0, 1))
theorem i_Md_step_100 : iGet M_Md_step 100 14 8 := ⟨158, (by decide +kernel : decode prog_14_method_34_code 100 = .ok (.getfield 158, 3)), fl_Md_Md_steps⟩
theorem i_Md_step_103 : iIns M_Md_step 103 .imul 1 := (by decide +kernel : decode prog_14_method_34_code 103 = .ok (.imul, 1))
theorem i_Md_step_104 : iIns M_Md_step 104 (.bipush 61) 2 := (by decide +kernel : decode prog_14_method_34_code 104 = .ok (.bipush 61, 2))
theorem i_Md_step_106 : iCpy M_Md_step 106 := ⟨146, (by decide +kernel : decode prog_14_method_34_code 106 = .ok (.invokestatic 146, 3)), lw_k6 205 rfl rfl⟩
theorem i_Md_step_109 : iIns M_Md_step 109 (.aload_n 0) 1 := (by decide +kernel : decode prog_14_method_34_code 109 = .ok (.aload_n 0, 1))
theorem i_Md_step_110 : iIns M_Md_step 110 .dup 1 := (by decide +kernel : decode prog_14_method_34_code 110 = .ok (.dup, 1))
theorem i_Md_step_111 : iGet M_Md_step 111 14 8 := ⟨158, (by decide +kernel : decode prog_14_method_34_code 111 = .ok (.getfield 158, 3)), fl_Md_Md_steps⟩
theorem i_Md_step_114 : iIns M_Md_step 114 (.iconst 1) 1 := (by decide +kernel : decode prog_14_method_34_code 114 = .ok (.iconst 1, 1))
theorem i_Md_step_115 : iIns M_Md_step 115 .iadd 1 := (by decide +kernel : decode prog_14_method_34_code 115 = .ok (.iadd, 1))
theorem i_Md_step_116 : iPutX M_Md_step 116 14 8 .int := ⟨158, (by decide +kernel : decode prog_14_method_34_code 116 = .ok (.putfield 158, 3)), px_Md_Md_steps⟩
theorem i_Md_step_119 : iIns M_Md_step 119 (.aload_n 0) 1 := (by decide +kernel : decode prog_14_method_34_code 119 = .ok (.aload_n 0, 1))
theorem i_Md_step_120 : iGet M_Md_step 120 14 15 := ⟨40, (by decide +kernel : decode prog_14_method_34_code 120 = .ok (.getfield 40, 3)), fl_Md_Md_next⟩
theorem i_Md_step_123 : iIns M_Md_step 123 (.iconst 0) 1 := (by decide +kernel : decode prog_14_method_34_code 123 = .ok (.iconst 0, 1))
theorem i_Md_step_124 : iIns M_Md_step 124 (.aload_n 0) 1 := (by decide +kernel : decode prog_14_method_34_code 124 = .ok (.aload_n 0, 1))
theorem i_Md_step_125 : iGet M_Md_step 125 14 2 := ⟨13, (by decide +kernel : decode prog_14_method_34_code 125 = .ok (.getfield 13, 3)), fl_Md_Md_word⟩
theorem i_Md_step_128 : iIns M_Md_step 128 (.iconst 0) 1 := (by decide +kernel : decode prog_14_method_34_code 128 = .ok (.iconst 0, 1))
theorem i_Md_step_129 : iIns M_Md_step 129 (.bipush 61) 2 := (by decide +kernel : decode prog_14_method_34_code 129 = .ok (.bipush 61, 2))
theorem i_Md_step_131 : iCpy M_Md_step 131 := ⟨146, (by decide +kernel : decode prog_14_method_34_code 131 = .ok (.invokestatic 146, 3)), lw_k6 205 rfl rfl⟩
theorem i_Md_step_134 : iIns M_Md_step 134 (.aload_n 0) 1 := (by decide +kernel : decode prog_14_method_34_code 134 = .ok (.aload_n 0, 1))
theorem i_Md_step_135 : iGet M_Md_step 135 14 2 := ⟨13, (by decide +kernel : decode prog_14_method_34_code 135 = .ok (.getfield 13, 3)), fl_Md_Md_word⟩
theorem i_Md_step_138 : iIns M_Md_step 138 (.iconst 0) 1 := (by decide +kernel : decode prog_14_method_34_code 138 = .ok (.iconst 0, 1))
theorem i_Md_step_139 : iIns M_Md_step 139 .iaload 1 := (by decide +kernel : decode prog_14_method_34_code 139 = .ok (.iaload, 1))
theorem i_Md_step_140 : iIns M_Md_step 140 .ireturn 1 := (by decide +kernel : decode prog_14_method_34_code 140 = .ok (.ireturn, 1))
theorem i_Md_step3_0 : iIns M_Md_step3 0 (.iconst 0) 1 := (by decide +kernel : decode prog_14_method_33_code 0 = .ok (.iconst 0, 1))
theorem i_Md_step3_1 : iIns M_Md_step3 1 (.istore 4) 2 := (by decide +kernel : decode prog_14_method_33_code 1 = .ok (.istore 4, 2))
theorem i_Md_step3_3 : iIns M_Md_step3 3 (.iconst 1) 1 := (by decide +kernel : decode prog_14_method_33_code 3 = .ok (.iconst 1, 1))
theorem i_Md_step3_4 : iIns M_Md_step3 4 (.istore 5) 2 := (by decide +kernel : decode prog_14_method_33_code 4 = .ok (.istore 5, 2))
theorem i_Md_step3_6 : iIns M_Md_step3 6 (.iload 5) 2 := (by decide +kernel : decode prog_14_method_33_code 6 = .ok (.iload 5, 2))
theorem i_Md_step3_8 : iIns M_Md_step3 8 (.aload_n 2) 1 := (by decide +kernel : decode prog_14_method_33_code 8 = .ok (.aload_n 2, 1))
theorem i_Md_step3_9 : iIns M_Md_step3 9 (.iconst 0) 1 := (by decide +kernel : decode prog_14_method_33_code 9 = .ok (.iconst 0, 1))
theorem i_Md_step3_10 : iIns M_Md_step3 10 .iaload 1 := (by decide +kernel : decode prog_14_method_33_code 10 = .ok (.iaload, 1))
theorem i_Md_step3_11 : iIcmp M_Md_step3 11 .gt 131 := ⟨120, (by decide +kernel : decode prog_14_method_33_code 11 = .ok (.if_icmp .gt (120), 3)), by decide⟩
theorem i_Md_step3_14 : iIns M_Md_step3 14 (.aload_n 0) 1 := (by decide +kernel : decode prog_14_method_33_code 14 = .ok (.aload_n 0, 1))
theorem i_Md_step3_15 : iIns M_Md_step3 15 (.iload_n 1) 1 := (by decide +kernel : decode prog_14_method_33_code 15 = .ok (.iload_n 1, 1))
theorem i_Md_step3_16 : iIns M_Md_step3 16 (.aload_n 2) 1 := (by decide +kernel : decode prog_14_method_33_code 16 = .ok (.aload_n 2, 1))
theorem i_Md_step3_17 : iIns M_Md_step3 17 (.iload 5) 2 := (by decide +kernel : decode prog_14_method_33_code 17 = .ok (.iload 5, 2))
theorem i_Md_step3_19 : iCallV M_Md_step3 19 M_Md_ruled 3 14 := ⟨⟨165, (by decide +kernel : decode prog_14_method_33_code 19 = .ok (.invokevirtual 165, 3)), lw_k7 13 rfl rfl⟩, vm_Md_ruled, me_Md_ruled, pn_Md_ruled⟩
theorem i_Md_step3_22 : iIns M_Md_step3 22 (.istore 6) 2 := (by decide +kernel : decode prog_14_method_33_code 22 = .ok (.istore 6, 2))
theorem i_Md_step3_24 : iIns M_Md_step3 24 (.iload 6) 2 := (by decide +kernel : decode prog_14_method_33_code 24 = .ok (.iload 6, 2))
theorem i_Md_step3_26 : iIf M_Md_step3 26 .ge 76 := ⟨50, (by decide +kernel : decode prog_14_method_33_code 26 = .ok (.ifCond .ge (50), 3)), by decide⟩
theorem i_Md_step3_29 : iIns M_Md_step3 29 (.iload_n 1) 1 := (by decide +kernel : decode prog_14_method_33_code 29 = .ok (.iload_n 1, 1))
theorem i_Md_step3_30 : iIns M_Md_step3 30 (.aload_n 2) 1 := (by decide +kernel : decode prog_14_method_33_code 30 = .ok (.aload_n 2, 1))
theorem i_Md_step3_31 : iIns M_Md_step3 31 (.iload 5) 2 := (by decide +kernel : decode prog_14_method_33_code 31 = .ok (.iload 5, 2))
theorem i_Md_step3_33 : iIns M_Md_step3 33 .iaload 1 := (by decide +kernel : decode prog_14_method_33_code 33 = .ok (.iaload, 1))
theorem i_Md_step3_34 : iCallS M_Md_step3 34 M_Md_listAt 2 := ⟨⟨122, (by decide +kernel : decode prog_14_method_33_code 34 = .ok (.invokestatic 122, 3)), lw_k6 166 rfl rfl⟩, sm_Md_listAt, me_Md_listAt, pn_Md_listAt⟩
theorem i_Md_step3_37 : iIns M_Md_step3 37 (.istore 7) 2 := (by decide +kernel : decode prog_14_method_33_code 37 = .ok (.istore 7, 2))
theorem i_Md_step3_39 : iIns M_Md_step3 39 (.aload_n 0) 1 := (by decide +kernel : decode prog_14_method_33_code 39 = .ok (.aload_n 0, 1))
theorem i_Md_step3_40 : iIns M_Md_step3 40 (.aload_n 0) 1 := (by decide +kernel : decode prog_14_method_33_code 40 = .ok (.aload_n 0, 1))
theorem i_Md_step3_41 : iGet M_Md_step3 41 14 14 := ⟨169, (by decide +kernel : decode prog_14_method_33_code 41 = .ok (.getfield 169, 3)), fl_Md_Md_drawn⟩
theorem i_Md_step3_44 : iLdcI M_Md_step3 44 (1103515245) := ⟨172, (by decide +kernel : decode prog_14_method_33_code 44 = .ok (.ldc 172, 2)), lw_k7 17 rfl rfl⟩
theorem i_Md_step3_46 : iIns M_Md_step3 46 .imul 1 := (by decide +kernel : decode prog_14_method_33_code 46 = .ok (.imul, 1))
theorem i_Md_step3_47 : iIns M_Md_step3 47 (.sipush 12345) 3 := (by decide +kernel : decode prog_14_method_33_code 47 = .ok (.sipush 12345, 3))
theorem i_Md_step3_50 : iIns M_Md_step3 50 .iadd 1 := (by decide +kernel : decode prog_14_method_33_code 50 = .ok (.iadd, 1))
theorem i_Md_step3_51 : iPutX M_Md_step3 51 14 14 .int := ⟨169, (by decide +kernel : decode prog_14_method_33_code 51 = .ok (.putfield 169, 3)), px_Md_Md_drawn⟩
theorem i_Md_step3_54 : iIns M_Md_step3 54 (.iload 7) 2 := (by decide +kernel : decode prog_14_method_33_code 54 = .ok (.iload 7, 2))
theorem i_Md_step3_56 : iIns M_Md_step3 56 (.aload_n 0) 1 := (by decide +kernel : decode prog_14_method_33_code 56 = .ok (.aload_n 0, 1))
theorem i_Md_step3_57 : iGet M_Md_step3 57 14 14 := ⟨169, (by decide +kernel : decode prog_14_method_33_code 57 = .ok (.getfield 169, 3)), fl_Md_Md_drawn⟩
theorem i_Md_step3_60 : iIns M_Md_step3 60 (.bipush 16) 2 := (by decide +kernel : decode prog_14_method_33_code 60 = .ok (.bipush 16, 2))
theorem i_Md_step3_62 : iIns M_Md_step3 62 .iushr 1 := (by decide +kernel : decode prog_14_method_33_code 62 = .ok (.iushr, 1))
theorem i_Md_step3_63 : iIns M_Md_step3 63 (.aload_n 0) 1 := (by decide +kernel : decode prog_14_method_33_code 63 = .ok (.aload_n 0, 1))
theorem i_Md_step3_64 : iGet M_Md_step3 64 14 1 := ⟨9, (by decide +kernel : decode prog_14_method_33_code 64 = .ok (.getfield 9, 3)), fl_Md_Md_tables⟩
theorem i_Md_step3_67 : iIns M_Md_step3 67 (.iload 7) 2 := (by decide +kernel : decode prog_14_method_33_code 67 = .ok (.iload 7, 2))
theorem i_Md_step3_69 : iIns M_Md_step3 69 .iaload 1 := (by decide +kernel : decode prog_14_method_33_code 69 = .ok (.iaload, 1))
theorem i_Md_step3_70 : iIns M_Md_step3 70 .irem 1 := (by decide +kernel : decode prog_14_method_33_code 70 = .ok (.irem, 1))
theorem i_Md_step3_71 : iCallS M_Md_step3 71 M_Md_productionAt 2 := ⟨⟨126, (by decide +kernel : decode prog_14_method_33_code 71 = .ok (.invokestatic 126, 3)), lw_k6 169 rfl rfl⟩, sm_Md_productionAt, me_Md_productionAt, pn_Md_productionAt⟩
theorem i_Md_step3_74 : iIns M_Md_step3 74 (.istore 6) 2 := (by decide +kernel : decode prog_14_method_33_code 74 = .ok (.istore 6, 2))
theorem i_Md_step3_76 : iIns M_Md_step3 76 (.iconst 0) 1 := (by decide +kernel : decode prog_14_method_33_code 76 = .ok (.iconst 0, 1))
theorem i_Md_step3_77 : iIns M_Md_step3 77 (.istore 7) 2 := (by decide +kernel : decode prog_14_method_33_code 77 = .ok (.istore 7, 2))
theorem i_Md_step3_79 : iIns M_Md_step3 79 (.iload 7) 2 := (by decide +kernel : decode prog_14_method_33_code 79 = .ok (.iload 7, 2))
theorem i_Md_step3_81 : iIns M_Md_step3 81 (.aload_n 0) 1 := (by decide +kernel : decode prog_14_method_33_code 81 = .ok (.aload_n 0, 1))
theorem i_Md_step3_82 : iGet M_Md_step3 82 14 1 := ⟨9, (by decide +kernel : decode prog_14_method_33_code 82 = .ok (.getfield 9, 3)), fl_Md_Md_tables⟩
theorem i_Md_step3_85 : iIns M_Md_step3 85 (.iload 6) 2 := (by decide +kernel : decode prog_14_method_33_code 85 = .ok (.iload 6, 2))
theorem i_Md_step3_87 : iIns M_Md_step3 87 .iaload 1 := (by decide +kernel : decode prog_14_method_33_code 87 = .ok (.iaload, 1))
theorem i_Md_step3_88 : iIcmp M_Md_step3 88 .ge 125 := ⟨37, (by decide +kernel : decode prog_14_method_33_code 88 = .ok (.if_icmp .ge (37), 3)), by decide⟩
theorem i_Md_step3_91 : iIns M_Md_step3 91 (.iload 4) 2 := (by decide +kernel : decode prog_14_method_33_code 91 = .ok (.iload 4, 2))
theorem i_Md_step3_93 : iIns M_Md_step3 93 (.bipush 60) 2 := (by decide +kernel : decode prog_14_method_33_code 93 = .ok (.bipush 60, 2))
theorem i_Md_step3_95 : iIcmp M_Md_step3 95 .ne 100 := ⟨5, (by decide +kernel : decode prog_14_method_33_code 95 = .ok (.if_icmp .ne (5), 3)), by decide⟩
theorem i_Md_step3_98 : iIns M_Md_step3 98 (.iconst 0) 1 := (by decide +kernel : decode prog_14_method_33_code 98 = .ok (.iconst 0, 1))
theorem i_Md_step3_99 : iIns M_Md_step3 99 .ireturn 1 := (by decide +kernel : decode prog_14_method_33_code 99 = .ok (.ireturn, 1))
theorem i_Md_step3_100 : iIns M_Md_step3 100 (.iinc 4 (1)) 3 := (by decide +kernel : decode prog_14_method_33_code 100 = .ok (.iinc 4 (1), 3))
theorem i_Md_step3_103 : iIns M_Md_step3 103 (.aload_n 3) 1 := (by decide +kernel : decode prog_14_method_33_code 103 = .ok (.aload_n 3, 1))
theorem i_Md_step3_104 : iIns M_Md_step3 104 (.iload 4) 2 := (by decide +kernel : decode prog_14_method_33_code 104 = .ok (.iload 4, 2))
theorem i_Md_step3_106 : iIns M_Md_step3 106 (.aload_n 0) 1 := (by decide +kernel : decode prog_14_method_33_code 106 = .ok (.aload_n 0, 1))
theorem i_Md_step3_107 : iGet M_Md_step3 107 14 1 := ⟨9, (by decide +kernel : decode prog_14_method_33_code 107 = .ok (.getfield 9, 3)), fl_Md_Md_tables⟩
theorem i_Md_step3_110 : iIns M_Md_step3 110 (.iload 6) 2 := (by decide +kernel : decode prog_14_method_33_code 110 = .ok (.iload 6, 2))
theorem i_Md_step3_112 : iIns M_Md_step3 112 (.iconst 1) 1 := (by decide +kernel : decode prog_14_method_33_code 112 = .ok (.iconst 1, 1))
theorem i_Md_step3_113 : iIns M_Md_step3 113 .iadd 1 := (by decide +kernel : decode prog_14_method_33_code 113 = .ok (.iadd, 1))
theorem i_Md_step3_114 : iIns M_Md_step3 114 (.iload 7) 2 := (by decide +kernel : decode prog_14_method_33_code 114 = .ok (.iload 7, 2))
theorem i_Md_step3_116 : iIns M_Md_step3 116 .iadd 1 := (by decide +kernel : decode prog_14_method_33_code 116 = .ok (.iadd, 1))
theorem i_Md_step3_117 : iIns M_Md_step3 117 .iaload 1 := (by decide +kernel : decode prog_14_method_33_code 117 = .ok (.iaload, 1))
theorem i_Md_step3_118 : iIns M_Md_step3 118 .iastore 1 := (by decide +kernel : decode prog_14_method_33_code 118 = .ok (.iastore, 1))
theorem i_Md_step3_119 : iIns M_Md_step3 119 (.iinc 7 (1)) 3 := (by decide +kernel : decode prog_14_method_33_code 119 = .ok (.iinc 7 (1), 3))
theorem i_Md_step3_122 : iGoto M_Md_step3 122 79 := ⟨-43, (by decide +kernel : decode prog_14_method_33_code 122 = .ok (.goto (-43), 3)), by decide⟩
theorem i_Md_step3_125 : iIns M_Md_step3 125 (.iinc 5 (1)) 3 := (by decide +kernel : decode prog_14_method_33_code 125 = .ok (.iinc 5 (1), 3))
theorem i_Md_step3_128 : iGoto M_Md_step3 128 6 := ⟨-122, (by decide +kernel : decode prog_14_method_33_code 128 = .ok (.goto (-122), 3)), by decide⟩
theorem i_Md_step3_131 : iIns M_Md_step3 131 (.aload_n 3) 1 := (by decide +kernel : decode prog_14_method_33_code 131 = .ok (.aload_n 3, 1))
theorem i_Md_step3_132 : iIns M_Md_step3 132 (.iconst 0) 1 := (by decide +kernel : decode prog_14_method_33_code 132 = .ok (.iconst 0, 1))
theorem i_Md_step3_133 : iIns M_Md_step3 133 (.iload 4) 2 := (by decide +kernel : decode prog_14_method_33_code 133 = .ok (.iload 4, 2))
theorem i_Md_step3_135 : iIns M_Md_step3 135 .iastore 1 := (by decide +kernel : decode prog_14_method_33_code 135 = .ok (.iastore, 1))
theorem i_Md_step3_136 : iIns M_Md_step3 136 (.iconst 1) 1 := (by decide +kernel : decode prog_14_method_33_code 136 = .ok (.iconst 1, 1))
theorem i_Md_step3_137 : iIns M_Md_step3 137 .ireturn 1 := (by decide +kernel : decode prog_14_method_33_code 137 = .ok (.ireturn, 1))
theorem i_Md_ruled_0 : iIns M_Md_ruled 0 (.iload_n 3) 1 := (by decide +kernel : decode prog_14_method_32_code 0 = .ok (.iload_n 3, 1))
theorem i_Md_ruled_1 : iIns M_Md_ruled 1 (.iconst 2) 1 := (by decide +kernel : decode prog_14_method_32_code 1 = .ok (.iconst 2, 1))
theorem i_Md_ruled_2 : iIcmp M_Md_ruled 2 .ge 9 := ⟨7, (by decide +kernel : decode prog_14_method_32_code 2 = .ok (.if_icmp .ge (7), 3)), by decide⟩
theorem i_Md_ruled_5 : iIns M_Md_ruled 5 (.iconst (-1)) 1 := (by decide +kernel : decode prog_14_method_32_code 5 = .ok (.iconst (-1), 1))
theorem i_Md_ruled_6 : iGoto M_Md_ruled 6 22 := ⟨16, (by decide +kernel : decode prog_14_method_32_code 6 = .ok (.goto (16), 3)), by decide⟩
theorem i_Md_ruled_9 : iIns M_Md_ruled 9 (.aload_n 0) 1 := (by decide +kernel : decode prog_14_method_32_code 9 = .ok (.aload_n 0, 1))
theorem i_Md_ruled_10 : iIns M_Md_ruled 10 (.iload_n 1) 1 := (by decide +kernel : decode prog_14_method_32_code 10 = .ok (.iload_n 1, 1))
theorem i_Md_ruled_11 : iIns M_Md_ruled 11 (.aload_n 2) 1 := (by decide +kernel : decode prog_14_method_32_code 11 = .ok (.aload_n 2, 1))
theorem i_Md_ruled_12 : iIns M_Md_ruled 12 (.iload_n 3) 1 := (by decide +kernel : decode prog_14_method_32_code 12 = .ok (.iload_n 3, 1))
theorem i_Md_ruled_13 : iIns M_Md_ruled 13 (.iconst 1) 1 := (by decide +kernel : decode prog_14_method_32_code 13 = .ok (.iconst 1, 1))
theorem i_Md_ruled_14 : iIns M_Md_ruled 14 .isub 1 := (by decide +kernel : decode prog_14_method_32_code 14 = .ok (.isub, 1))
theorem i_Md_ruled_15 : iIns M_Md_ruled 15 .iaload 1 := (by decide +kernel : decode prog_14_method_32_code 15 = .ok (.iaload, 1))
theorem i_Md_ruled_16 : iIns M_Md_ruled 16 (.aload_n 2) 1 := (by decide +kernel : decode prog_14_method_32_code 16 = .ok (.aload_n 2, 1))
theorem i_Md_ruled_17 : iIns M_Md_ruled 17 (.iload_n 3) 1 := (by decide +kernel : decode prog_14_method_32_code 17 = .ok (.iload_n 3, 1))
theorem i_Md_ruled_18 : iIns M_Md_ruled 18 .iaload 1 := (by decide +kernel : decode prog_14_method_32_code 18 = .ok (.iaload, 1))
theorem i_Md_ruled_19 : iCallV M_Md_ruled 19 M_Md_findRule 3 14 := ⟨⟨142, (by decide +kernel : decode prog_14_method_32_code 19 = .ok (.invokevirtual 142, 3)), lw_k6 191 rfl rfl⟩, vm_Md_findRule, me_Md_findRule, pn_Md_findRule⟩
theorem i_Md_ruled_22 : iIns M_Md_ruled 22 (.istore 4) 2 := (by decide +kernel : decode prog_14_method_32_code 22 = .ok (.istore 4, 2))
theorem i_Md_ruled_24 : iIns M_Md_ruled 24 (.iload 4) 2 := (by decide +kernel : decode prog_14_method_32_code 24 = .ok (.iload 4, 2))
theorem i_Md_ruled_26 : iIf M_Md_ruled 26 .ge 33 := ⟨7, (by decide +kernel : decode prog_14_method_32_code 26 = .ok (.ifCond .ge (7), 3)), by decide⟩
theorem i_Md_ruled_29 : iIns M_Md_ruled 29 (.iconst (-1)) 1 := (by decide +kernel : decode prog_14_method_32_code 29 = .ok (.iconst (-1), 1))
theorem i_Md_ruled_30 : iGoto M_Md_ruled 30 37 := ⟨7, (by decide +kernel : decode prog_14_method_32_code 30 = .ok (.goto (7), 3)), by decide⟩
theorem i_Md_ruled_33 : iIns M_Md_ruled 33 (.iload 4) 2 := (by decide +kernel : decode prog_14_method_32_code 33 = .ok (.iload 4, 2))
theorem i_Md_ruled_35 : iIns M_Md_ruled 35 (.iconst 2) 1 := (by decide +kernel : decode prog_14_method_32_code 35 = .ok (.iconst 2, 1))
theorem i_Md_ruled_36 : iIns M_Md_ruled 36 .iadd 1 := (by decide +kernel : decode prog_14_method_32_code 36 = .ok (.iadd, 1))
theorem i_Md_ruled_37 : iIns M_Md_ruled 37 .ireturn 1 := (by decide +kernel : decode prog_14_method_32_code 37 = .ok (.ireturn, 1))
theorem i_Md_undo_0 : iIns M_Md_undo 0 (.aload_n 0) 1 := (by decide +kernel : decode prog_14_method_35_code 0 = .ok (.aload_n 0, 1))
theorem i_Md_undo_1 : iIns M_Md_undo 1 (.iconst 0) 1 := (by decide +kernel : decode prog_14_method_35_code 1 = .ok (.iconst 0, 1))
theorem i_Md_undo_2 : iPutX M_Md_undo 2 14 0 .int := ⟨97, (by decide +kernel : decode prog_14_method_35_code 2 = .ok (.putfield 97, 3)), px_Md_Md_thrown⟩
theorem i_Md_undo_5 : iIns M_Md_undo 5 (.aload_n 0) 1 := (by decide +kernel : decode prog_14_method_35_code 5 = .ok (.aload_n 0, 1))
theorem i_Md_undo_6 : iGet M_Md_undo 6 14 8 := ⟨158, (by decide +kernel : decode prog_14_method_35_code 6 = .ok (.getfield 158, 3)), fl_Md_Md_steps⟩
theorem i_Md_undo_9 : iIf M_Md_undo 9 .ne 14 := ⟨5, (by decide +kernel : decode prog_14_method_35_code 9 = .ok (.ifCond .ne (5), 3)), by decide⟩
theorem i_Md_undo_12 : iIns M_Md_undo 12 (.iconst 0) 1 := (by decide +kernel : decode prog_14_method_35_code 12 = .ok (.iconst 0, 1))
theorem i_Md_undo_13 : iIns M_Md_undo 13 .ireturn 1 := (by decide +kernel : decode prog_14_method_35_code 13 = .ok (.ireturn, 1))
theorem i_Md_undo_14 : iIns M_Md_undo 14 (.aload_n 0) 1 := (by decide +kernel : decode prog_14_method_35_code 14 = .ok (.aload_n 0, 1))
theorem i_Md_undo_15 : iIns M_Md_undo 15 .dup 1 := (by decide +kernel : decode prog_14_method_35_code 15 = .ok (.dup, 1))
theorem i_Md_undo_16 : iGet M_Md_undo 16 14 8 := ⟨158, (by decide +kernel : decode prog_14_method_35_code 16 = .ok (.getfield 158, 3)), fl_Md_Md_steps⟩
theorem i_Md_undo_19 : iIns M_Md_undo 19 (.iconst 1) 1 := (by decide +kernel : decode prog_14_method_35_code 19 = .ok (.iconst 1, 1))
theorem i_Md_undo_20 : iIns M_Md_undo 20 .isub 1 := (by decide +kernel : decode prog_14_method_35_code 20 = .ok (.isub, 1))
theorem i_Md_undo_21 : iPutX M_Md_undo 21 14 8 .int := ⟨158, (by decide +kernel : decode prog_14_method_35_code 21 = .ok (.putfield 158, 3)), px_Md_Md_steps⟩
theorem i_Md_undo_24 : iIns M_Md_undo 24 (.aload_n 0) 1 := (by decide +kernel : decode prog_14_method_35_code 24 = .ok (.aload_n 0, 1))
theorem i_Md_undo_25 : iGet M_Md_undo 25 14 7 := ⟨25, (by decide +kernel : decode prog_14_method_35_code 25 = .ok (.getfield 25, 3)), fl_Md_Md_earlier⟩
theorem i_Md_undo_28 : iIns M_Md_undo 28 (.bipush 61) 2 := (by decide +kernel : decode prog_14_method_35_code 28 = .ok (.bipush 61, 2))
theorem i_Md_undo_30 : iIns M_Md_undo 30 (.aload_n 0) 1 := (by decide +kernel : decode prog_14_method_35_code 30 = .ok (.aload_n 0, 1))
theorem i_Md_undo_31 : iGet M_Md_undo 31 14 8 := ⟨158, (by decide +kernel : decode prog_14_method_35_code 31 = .ok (.getfield 158, 3)), fl_Md_Md_steps⟩
theorem i_Md_undo_34 : iIns M_Md_undo 34 .imul 1 := (by decide +kernel : decode prog_14_method_35_code 34 = .ok (.imul, 1))
theorem i_Md_undo_35 : iIns M_Md_undo 35 (.aload_n 0) 1 := (by decide +kernel : decode prog_14_method_35_code 35 = .ok (.aload_n 0, 1))
theorem i_Md_undo_36 : iGet M_Md_undo 36 14 2 := ⟨13, (by decide +kernel : decode prog_14_method_35_code 36 = .ok (.getfield 13, 3)), fl_Md_Md_word⟩
theorem i_Md_undo_39 : iIns M_Md_undo 39 (.iconst 0) 1 := (by decide +kernel : decode prog_14_method_35_code 39 = .ok (.iconst 0, 1))
theorem i_Md_undo_40 : iIns M_Md_undo 40 (.bipush 61) 2 := (by decide +kernel : decode prog_14_method_35_code 40 = .ok (.bipush 61, 2))
theorem i_Md_undo_42 : iCpy M_Md_undo 42 := ⟨146, (by decide +kernel : decode prog_14_method_35_code 42 = .ok (.invokestatic 146, 3)), lw_k6 205 rfl rfl⟩
theorem i_Md_undo_45 : iIns M_Md_undo 45 (.iconst 1) 1 := (by decide +kernel : decode prog_14_method_35_code 45 = .ok (.iconst 1, 1))
theorem i_Md_undo_46 : iIns M_Md_undo 46 .ireturn 1 := (by decide +kernel : decode prog_14_method_35_code 46 = .ok (.ireturn, 1))
theorem i_Md_lengthAfter_0 : iIns M_Md_lengthAfter 0 (.aload_n 0) 1 := (by decide +kernel : decode prog_14_method_41_code 0 = .ok (.aload_n 0, 1))
theorem i_Md_lengthAfter_1 : iIns M_Md_lengthAfter 1 (.iload_n 1) 1 := (by decide +kernel : decode prog_14_method_41_code 1 = .ok (.iload_n 1, 1))
theorem i_Md_lengthAfter_2 : iCallS M_Md_lengthAfter 2 M_Md_isTable 1 := ⟨⟨112, (by decide +kernel : decode prog_14_method_41_code 2 = .ok (.invokestatic 112, 3)), lw_k6 156 rfl rfl⟩, sm_Md_isTable, me_Md_isTable, pn_Md_isTable⟩
theorem i_Md_lengthAfter_5 : iIf M_Md_lengthAfter 5 .ne 12 := ⟨7, (by decide +kernel : decode prog_14_method_41_code 5 = .ok (.ifCond .ne (7), 3)), by decide⟩
theorem i_Md_lengthAfter_8 : iIns M_Md_lengthAfter 8 (.iconst 1) 1 := (by decide +kernel : decode prog_14_method_41_code 8 = .ok (.iconst 1, 1))
theorem i_Md_lengthAfter_9 : iGoto M_Md_lengthAfter 9 53 := ⟨44, (by decide +kernel : decode prog_14_method_41_code 9 = .ok (.goto (44), 3)), by decide⟩
theorem i_Md_lengthAfter_12 : iIns M_Md_lengthAfter 12 (.iload_n 2) 1 := (by decide +kernel : decode prog_14_method_41_code 12 = .ok (.iload_n 2, 1))
theorem i_Md_lengthAfter_13 : iIns M_Md_lengthAfter 13 (.iconst 0) 1 := (by decide +kernel : decode prog_14_method_41_code 13 = .ok (.iconst 0, 1))
theorem i_Md_lengthAfter_14 : iIns M_Md_lengthAfter 14 (.sipush 1000) 3 := (by decide +kernel : decode prog_14_method_41_code 14 = .ok (.sipush 1000, 3))
theorem i_Md_lengthAfter_17 : iCallS M_Md_lengthAfter 17 M_Md_in 3 := ⟨⟨101, (by decide +kernel : decode prog_14_method_41_code 17 = .ok (.invokestatic 101, 3)), lw_k6 141 rfl rfl⟩, sm_Md_in, me_Md_in, pn_Md_in⟩
theorem i_Md_lengthAfter_20 : iIf M_Md_lengthAfter 20 .ne 27 := ⟨7, (by decide +kernel : decode prog_14_method_41_code 20 = .ok (.ifCond .ne (7), 3)), by decide⟩
theorem i_Md_lengthAfter_23 : iIns M_Md_lengthAfter 23 (.iconst 2) 1 := (by decide +kernel : decode prog_14_method_41_code 23 = .ok (.iconst 2, 1))
theorem i_Md_lengthAfter_24 : iGoto M_Md_lengthAfter 24 53 := ⟨29, (by decide +kernel : decode prog_14_method_41_code 24 = .ok (.goto (29), 3)), by decide⟩
theorem i_Md_lengthAfter_27 : iIns M_Md_lengthAfter 27 (.aload_n 0) 1 := (by decide +kernel : decode prog_14_method_41_code 27 = .ok (.aload_n 0, 1))
theorem i_Md_lengthAfter_28 : iIns M_Md_lengthAfter 28 (.iload_n 1) 1 := (by decide +kernel : decode prog_14_method_41_code 28 = .ok (.iload_n 1, 1))
theorem i_Md_lengthAfter_29 : iCallV M_Md_lengthAfter 29 M_Md_unfit 1 14 := ⟨⟨189, (by decide +kernel : decode prog_14_method_41_code 29 = .ok (.invokevirtual 189, 3)), lw_k7 26 rfl rfl⟩, vm_Md_unfit, me_Md_unfit, pn_Md_unfit⟩
theorem i_Md_lengthAfter_32 : iIf M_Md_lengthAfter 32 .le 39 := ⟨7, (by decide +kernel : decode prog_14_method_41_code 32 = .ok (.ifCond .le (7), 3)), by decide⟩
theorem i_Md_lengthAfter_35 : iIns M_Md_lengthAfter 35 (.iconst 3) 1 := (by decide +kernel : decode prog_14_method_41_code 35 = .ok (.iconst 3, 1))
theorem i_Md_lengthAfter_36 : iGoto M_Md_lengthAfter 36 53 := ⟨17, (by decide +kernel : decode prog_14_method_41_code 36 = .ok (.goto (17), 3)), by decide⟩
theorem i_Md_lengthAfter_39 : iIns M_Md_lengthAfter 39 (.aload_n 0) 1 := (by decide +kernel : decode prog_14_method_41_code 39 = .ok (.aload_n 0, 1))
theorem i_Md_lengthAfter_40 : iIns M_Md_lengthAfter 40 (.iload_n 1) 1 := (by decide +kernel : decode prog_14_method_41_code 40 = .ok (.iload_n 1, 1))
theorem i_Md_lengthAfter_41 : iIns M_Md_lengthAfter 41 (.iload_n 2) 1 := (by decide +kernel : decode prog_14_method_41_code 41 = .ok (.iload_n 2, 1))
theorem i_Md_lengthAfter_42 : iCallV M_Md_lengthAfter 42 M_Md_count 2 14 := ⟨⟨192, (by decide +kernel : decode prog_14_method_41_code 42 = .ok (.invokevirtual 192, 3)), lw_k7 30 rfl rfl⟩, vm_Md_count, me_Md_count, pn_Md_count⟩
theorem i_Md_lengthAfter_45 : iIf M_Md_lengthAfter 45 .ne 52 := ⟨7, (by decide +kernel : decode prog_14_method_41_code 45 = .ok (.ifCond .ne (7), 3)), by decide⟩
theorem i_Md_lengthAfter_48 : iIns M_Md_lengthAfter 48 (.iconst 4) 1 := (by decide +kernel : decode prog_14_method_41_code 48 = .ok (.iconst 4, 1))
theorem i_Md_lengthAfter_49 : iGoto M_Md_lengthAfter 49 53 := ⟨4, (by decide +kernel : decode prog_14_method_41_code 49 = .ok (.goto (4), 3)), by decide⟩
theorem i_Md_lengthAfter_52 : iIns M_Md_lengthAfter 52 (.iconst 0) 1 := (by decide +kernel : decode prog_14_method_41_code 52 = .ok (.iconst 0, 1))
theorem i_Md_lengthAfter_53 : iPutX M_Md_lengthAfter 53 14 0 .int := ⟨97, (by decide +kernel : decode prog_14_method_41_code 53 = .ok (.putfield 97, 3)), px_Md_Md_thrown⟩
theorem i_Md_lengthAfter_56 : iIns M_Md_lengthAfter 56 (.aload_n 0) 1 := (by decide +kernel : decode prog_14_method_41_code 56 = .ok (.aload_n 0, 1))
theorem i_Md_lengthAfter_57 : iGet M_Md_lengthAfter 57 14 0 := ⟨97, (by decide +kernel : decode prog_14_method_41_code 57 = .ok (.getfield 97, 3)), fl_Md_Md_thrown⟩
theorem i_Md_lengthAfter_60 : iIf M_Md_lengthAfter 60 .le 67 := ⟨7, (by decide +kernel : decode prog_14_method_41_code 60 = .ok (.ifCond .le (7), 3)), by decide⟩
theorem i_Md_lengthAfter_63 : iIns M_Md_lengthAfter 63 (.lconst 0) 1 := (by decide +kernel : decode prog_14_method_41_code 63 = .ok (.lconst 0, 1))
theorem i_Md_lengthAfter_64 : iGoto M_Md_lengthAfter 64 74 := ⟨10, (by decide +kernel : decode prog_14_method_41_code 64 = .ok (.goto (10), 3)), by decide⟩
theorem i_Md_lengthAfter_67 : iIns M_Md_lengthAfter 67 (.aload_n 0) 1 := (by decide +kernel : decode prog_14_method_41_code 67 = .ok (.aload_n 0, 1))
theorem i_Md_lengthAfter_68 : iGet M_Md_lengthAfter 68 14 16 := ⟨43, (by decide +kernel : decode prog_14_method_41_code 68 = .ok (.getfield 43, 3)), fl_Md_Md_counts⟩
theorem i_Md_lengthAfter_71 : iCallS M_Md_lengthAfter 71 M_Md_total 1 := ⟨⟨185, (by decide +kernel : decode prog_14_method_41_code 71 = .ok (.invokestatic 185, 3)), lw_k7 42 rfl rfl⟩, sm_Md_total, me_Md_total, pn_Md_total⟩
theorem i_Md_lengthAfter_74 : iIns M_Md_lengthAfter 74 .lreturn 1 := (by decide +kernel : decode prog_14_method_41_code 74 = .ok (.lreturn, 1))
theorem i_Md_unfit_0 : iIns M_Md_unfit 0 (.aload_n 0) 1 := (by decide +kernel : decode prog_14_method_36_code 0 = .ok (.aload_n 0, 1))
theorem i_Md_unfit_1 : iIns M_Md_unfit 1 (.iload_n 1) 1 := (by decide +kernel : decode prog_14_method_36_code 1 = .ok (.iload_n 1, 1))
theorem i_Md_unfit_2 : iCallV M_Md_unfit 2 M_Md_deterministic 1 14 := ⟨⟨152, (by decide +kernel : decode prog_14_method_36_code 2 = .ok (.invokevirtual 152, 3)), lw_k6 210 rfl rfl⟩, vm_Md_deterministic, me_Md_deterministic, pn_Md_deterministic⟩
theorem i_Md_unfit_5 : iIf M_Md_unfit 5 .eq 20 := ⟨15, (by decide +kernel : decode prog_14_method_36_code 5 = .ok (.ifCond .eq (15), 3)), by decide⟩
theorem i_Md_unfit_8 : iIns M_Md_unfit 8 (.aload_n 0) 1 := (by decide +kernel : decode prog_14_method_36_code 8 = .ok (.aload_n 0, 1))
theorem i_Md_unfit_9 : iIns M_Md_unfit 9 (.iload_n 1) 1 := (by decide +kernel : decode prog_14_method_36_code 9 = .ok (.iload_n 1, 1))
theorem i_Md_unfit_10 : iCallV M_Md_unfit 10 M_Md_plain 1 14 := ⟨⟨155, (by decide +kernel : decode prog_14_method_36_code 10 = .ok (.invokevirtual 155, 3)), lw_k6 218 rfl rfl⟩, vm_Md_plain, me_Md_plain, pn_Md_plain⟩
theorem i_Md_unfit_13 : iIf M_Md_unfit 13 .eq 20 := ⟨7, (by decide +kernel : decode prog_14_method_36_code 13 = .ok (.ifCond .eq (7), 3)), by decide⟩
theorem i_Md_unfit_16 : iIns M_Md_unfit 16 (.iconst 0) 1 := (by decide +kernel : decode prog_14_method_36_code 16 = .ok (.iconst 0, 1))
theorem i_Md_unfit_17 : iGoto M_Md_unfit 17 21 := ⟨4, (by decide +kernel : decode prog_14_method_36_code 17 = .ok (.goto (4), 3)), by decide⟩
theorem i_Md_unfit_20 : iIns M_Md_unfit 20 (.iconst 1) 1 := (by decide +kernel : decode prog_14_method_36_code 20 = .ok (.iconst 1, 1))
theorem i_Md_unfit_21 : iIns M_Md_unfit 21 .ireturn 1 := (by decide +kernel : decode prog_14_method_36_code 21 = .ok (.ireturn, 1))
theorem i_Md_count_0 : iIns M_Md_count 0 (.aload_n 0) 1 := (by decide +kernel : decode prog_14_method_40_code 0 = .ok (.aload_n 0, 1))
theorem i_Md_count_1 : iCallV M_Md_count 1 M_Md_countWord 0 14 := ⟨⟨179, (by decide +kernel : decode prog_14_method_40_code 1 = .ok (.invokevirtual 179, 3)), lw_k7 34 rfl rfl⟩, vm_Md_countWord, me_Md_countWord, pn_Md_countWord⟩
theorem i_Md_count_4 : iIns M_Md_count 4 (.iconst 0) 1 := (by decide +kernel : decode prog_14_method_40_code 4 = .ok (.iconst 0, 1))
theorem i_Md_count_5 : iIns M_Md_count 5 (.istore_n 3) 1 := (by decide +kernel : decode prog_14_method_40_code 5 = .ok (.istore_n 3, 1))
theorem i_Md_count_6 : iIns M_Md_count 6 (.iload_n 3) 1 := (by decide +kernel : decode prog_14_method_40_code 6 = .ok (.iload_n 3, 1))
theorem i_Md_count_7 : iIns M_Md_count 7 (.iload_n 2) 1 := (by decide +kernel : decode prog_14_method_40_code 7 = .ok (.iload_n 2, 1))
theorem i_Md_count_8 : iIcmp M_Md_count 8 .ge 131 := ⟨123, (by decide +kernel : decode prog_14_method_40_code 8 = .ok (.if_icmp .ge (123), 3)), by decide⟩
theorem i_Md_count_11 : iIns M_Md_count 11 (.iconst 0) 1 := (by decide +kernel : decode prog_14_method_40_code 11 = .ok (.iconst 0, 1))
theorem i_Md_count_12 : iIns M_Md_count 12 (.istore 4) 2 := (by decide +kernel : decode prog_14_method_40_code 12 = .ok (.istore 4, 2))
theorem i_Md_count_14 : iIns M_Md_count 14 (.iload 4) 2 := (by decide +kernel : decode prog_14_method_40_code 14 = .ok (.iload 4, 2))
theorem i_Md_count_16 : iIns M_Md_count 16 (.bipush 6) 2 := (by decide +kernel : decode prog_14_method_40_code 16 = .ok (.bipush 6, 2))
theorem i_Md_count_18 : iIcmp M_Md_count 18 .ge 96 := ⟨78, (by decide +kernel : decode prog_14_method_40_code 18 = .ok (.if_icmp .ge (78), 3)), by decide⟩
theorem i_Md_count_21 : iIns M_Md_count 21 (.lconst 0) 1 := (by decide +kernel : decode prog_14_method_40_code 21 = .ok (.lconst 0, 1))
theorem i_Md_count_22 : iIns M_Md_count 22 (.lstore 5) 2 := (by decide +kernel : decode prog_14_method_40_code 22 = .ok (.lstore 5, 2))
theorem i_Md_count_24 : iIns M_Md_count 24 (.iconst 0) 1 := (by decide +kernel : decode prog_14_method_40_code 24 = .ok (.iconst 0, 1))
theorem i_Md_count_25 : iIns M_Md_count 25 (.istore 7) 2 := (by decide +kernel : decode prog_14_method_40_code 25 = .ok (.istore 7, 2))
theorem i_Md_count_27 : iIns M_Md_count 27 (.iload 7) 2 := (by decide +kernel : decode prog_14_method_40_code 27 = .ok (.iload 7, 2))
theorem i_Md_count_29 : iIns M_Md_count 29 (.bipush 6) 2 := (by decide +kernel : decode prog_14_method_40_code 29 = .ok (.bipush 6, 2))
theorem i_Md_count_31 : iIcmp M_Md_count 31 .ge 81 := ⟨50, (by decide +kernel : decode prog_14_method_40_code 31 = .ok (.if_icmp .ge (50), 3)), by decide⟩
theorem i_Md_count_34 : iIns M_Md_count 34 (.aload_n 0) 1 := (by decide +kernel : decode prog_14_method_40_code 34 = .ok (.aload_n 0, 1))
theorem i_Md_count_35 : iIns M_Md_count 35 (.iload_n 1) 1 := (by decide +kernel : decode prog_14_method_40_code 35 = .ok (.iload_n 1, 1))
theorem i_Md_count_36 : iIns M_Md_count 36 (.iload 7) 2 := (by decide +kernel : decode prog_14_method_40_code 36 = .ok (.iload 7, 2))
theorem i_Md_count_38 : iIns M_Md_count 38 (.iload 4) 2 := (by decide +kernel : decode prog_14_method_40_code 38 = .ok (.iload 4, 2))
theorem i_Md_count_40 : iCallV M_Md_count 40 M_Md_occurs 3 14 := ⟨⟨182, (by decide +kernel : decode prog_14_method_40_code 40 = .ok (.invokevirtual 182, 3)), lw_k7 38 rfl rfl⟩, vm_Md_occurs, me_Md_occurs, pn_Md_occurs⟩
theorem i_Md_count_43 : iIns M_Md_count 43 (.istore 8) 2 := (by decide +kernel : decode prog_14_method_40_code 43 = .ok (.istore 8, 2))
theorem i_Md_count_45 : iIns M_Md_count 45 (.iload 8) 2 := (by decide +kernel : decode prog_14_method_40_code 45 = .ok (.iload 8, 2))
theorem i_Md_count_47 : iIf M_Md_count 47 .le 75 := ⟨28, (by decide +kernel : decode prog_14_method_40_code 47 = .ok (.ifCond .le (28), 3)), by decide⟩
theorem i_Md_count_50 : iIns M_Md_count 50 (.lload 5) 2 := (by decide +kernel : decode prog_14_method_40_code 50 = .ok (.lload 5, 2))
theorem i_Md_count_52 : iIns M_Md_count 52 (.lconst 0) 1 := (by decide +kernel : decode prog_14_method_40_code 52 = .ok (.lconst 0, 1))
theorem i_Md_count_53 : iIns M_Md_count 53 .lcmp 1 := (by decide +kernel : decode prog_14_method_40_code 53 = .ok (.lcmp, 1))
theorem i_Md_count_54 : iIf M_Md_count 54 .lt 75 := ⟨21, (by decide +kernel : decode prog_14_method_40_code 54 = .ok (.ifCond .lt (21), 3)), by decide⟩
theorem i_Md_count_57 : iIns M_Md_count 57 (.lload 5) 2 := (by decide +kernel : decode prog_14_method_40_code 57 = .ok (.lload 5, 2))
theorem i_Md_count_59 : iIns M_Md_count 59 (.aload_n 0) 1 := (by decide +kernel : decode prog_14_method_40_code 59 = .ok (.aload_n 0, 1))
theorem i_Md_count_60 : iGet M_Md_count 60 14 16 := ⟨43, (by decide +kernel : decode prog_14_method_40_code 60 = .ok (.getfield 43, 3)), fl_Md_Md_counts⟩
theorem i_Md_count_63 : iIns M_Md_count 63 (.iload 7) 2 := (by decide +kernel : decode prog_14_method_40_code 63 = .ok (.iload 7, 2))
theorem i_Md_count_65 : iIns M_Md_count 65 .laload 1 := (by decide +kernel : decode prog_14_method_40_code 65 = .ok (.laload, 1))
theorem i_Md_count_66 : iIns M_Md_count 66 .ladd 1 := (by decide +kernel : decode prog_14_method_40_code 66 = .ok (.ladd, 1))
theorem i_Md_count_67 : iIns M_Md_count 67 (.lstore 5) 2 := (by decide +kernel : decode prog_14_method_40_code 67 = .ok (.lstore 5, 2))
theorem i_Md_count_69 : iIns M_Md_count 69 (.iinc 8 (-1)) 3 := (by decide +kernel : decode prog_14_method_40_code 69 = .ok (.iinc 8 (-1), 3))
theorem i_Md_count_72 : iGoto M_Md_count 72 45 := ⟨-27, (by decide +kernel : decode prog_14_method_40_code 72 = .ok (.goto (-27), 3)), by decide⟩
theorem i_Md_count_75 : iIns M_Md_count 75 (.iinc 7 (1)) 3 := (by decide +kernel : decode prog_14_method_40_code 75 = .ok (.iinc 7 (1), 3))
theorem i_Md_count_78 : iGoto M_Md_count 78 27 := ⟨-51, (by decide +kernel : decode prog_14_method_40_code 78 = .ok (.goto (-51), 3)), by decide⟩
theorem i_Md_count_81 : iIns M_Md_count 81 (.aload_n 0) 1 := (by decide +kernel : decode prog_14_method_40_code 81 = .ok (.aload_n 0, 1))
theorem i_Md_count_82 : iGet M_Md_count 82 14 17 := ⟨47, (by decide +kernel : decode prog_14_method_40_code 82 = .ok (.getfield 47, 3)), fl_Md_Md_nextCounts⟩
theorem i_Md_count_85 : iIns M_Md_count 85 (.iload 4) 2 := (by decide +kernel : decode prog_14_method_40_code 85 = .ok (.iload 4, 2))
theorem i_Md_count_87 : iIns M_Md_count 87 (.lload 5) 2 := (by decide +kernel : decode prog_14_method_40_code 87 = .ok (.lload 5, 2))
theorem i_Md_count_89 : iIns M_Md_count 89 .lastore 1 := (by decide +kernel : decode prog_14_method_40_code 89 = .ok (.lastore, 1))
theorem i_Md_count_90 : iIns M_Md_count 90 (.iinc 4 (1)) 3 := (by decide +kernel : decode prog_14_method_40_code 90 = .ok (.iinc 4 (1), 3))
theorem i_Md_count_93 : iGoto M_Md_count 93 14 := ⟨-79, (by decide +kernel : decode prog_14_method_40_code 93 = .ok (.goto (-79), 3)), by decide⟩
theorem i_Md_count_96 : iIns M_Md_count 96 (.aload_n 0) 1 := (by decide +kernel : decode prog_14_method_40_code 96 = .ok (.aload_n 0, 1))
theorem i_Md_count_97 : iGet M_Md_count 97 14 17 := ⟨47, (by decide +kernel : decode prog_14_method_40_code 97 = .ok (.getfield 47, 3)), fl_Md_Md_nextCounts⟩
theorem i_Md_count_100 : iCallS M_Md_count 100 M_Md_total 1 := ⟨⟨185, (by decide +kernel : decode prog_14_method_40_code 100 = .ok (.invokestatic 185, 3)), lw_k7 42 rfl rfl⟩, sm_Md_total, me_Md_total, pn_Md_total⟩
theorem i_Md_count_103 : iIns M_Md_count 103 (.lconst 0) 1 := (by decide +kernel : decode prog_14_method_40_code 103 = .ok (.lconst 0, 1))
theorem i_Md_count_104 : iIns M_Md_count 104 .lcmp 1 := (by decide +kernel : decode prog_14_method_40_code 104 = .ok (.lcmp, 1))
theorem i_Md_count_105 : iIf M_Md_count 105 .ge 110 := ⟨5, (by decide +kernel : decode prog_14_method_40_code 105 = .ok (.ifCond .ge (5), 3)), by decide⟩
theorem i_Md_count_108 : iIns M_Md_count 108 (.iconst 0) 1 := (by decide +kernel : decode prog_14_method_40_code 108 = .ok (.iconst 0, 1))
theorem i_Md_count_109 : iIns M_Md_count 109 .ireturn 1 := (by decide +kernel : decode prog_14_method_40_code 109 = .ok (.ireturn, 1))
theorem i_Md_count_110 : iIns M_Md_count 110 (.aload_n 0) 1 := (by decide +kernel : decode prog_14_method_40_code 110 = .ok (.aload_n 0, 1))
theorem i_Md_count_111 : iGet M_Md_count 111 14 17 := ⟨47, (by decide +kernel : decode prog_14_method_40_code 111 = .ok (.getfield 47, 3)), fl_Md_Md_nextCounts⟩
theorem i_Md_count_114 : iIns M_Md_count 114 (.iconst 0) 1 := (by decide +kernel : decode prog_14_method_40_code 114 = .ok (.iconst 0, 1))
theorem i_Md_count_115 : iIns M_Md_count 115 (.aload_n 0) 1 := (by decide +kernel : decode prog_14_method_40_code 115 = .ok (.aload_n 0, 1))
theorem i_Md_count_116 : iGet M_Md_count 116 14 16 := ⟨43, (by decide +kernel : decode prog_14_method_40_code 116 = .ok (.getfield 43, 3)), fl_Md_Md_counts⟩
theorem i_Md_count_119 : iIns M_Md_count 119 (.iconst 0) 1 := (by decide +kernel : decode prog_14_method_40_code 119 = .ok (.iconst 0, 1))
theorem i_Md_count_120 : iIns M_Md_count 120 (.bipush 6) 2 := (by decide +kernel : decode prog_14_method_40_code 120 = .ok (.bipush 6, 2))
theorem i_Md_count_122 : iCpy M_Md_count 122 := ⟨146, (by decide +kernel : decode prog_14_method_40_code 122 = .ok (.invokestatic 146, 3)), lw_k6 205 rfl rfl⟩
theorem i_Md_count_125 : iIns M_Md_count 125 (.iinc 3 (1)) 3 := (by decide +kernel : decode prog_14_method_40_code 125 = .ok (.iinc 3 (1), 3))
theorem i_Md_count_128 : iGoto M_Md_count 128 6 := ⟨-122, (by decide +kernel : decode prog_14_method_40_code 128 = .ok (.goto (-122), 3)), by decide⟩
theorem i_Md_count_131 : iIns M_Md_count 131 (.iconst 1) 1 := (by decide +kernel : decode prog_14_method_40_code 131 = .ok (.iconst 1, 1))
theorem i_Md_count_132 : iIns M_Md_count 132 .ireturn 1 := (by decide +kernel : decode prog_14_method_40_code 132 = .ok (.ireturn, 1))
theorem i_Md_countWord_0 : iIns M_Md_countWord 0 (.iconst 0) 1 := (by decide +kernel : decode prog_14_method_38_code 0 = .ok (.iconst 0, 1))
theorem i_Md_countWord_1 : iIns M_Md_countWord 1 (.istore_n 1) 1 := (by decide +kernel : decode prog_14_method_38_code 1 = .ok (.istore_n 1, 1))
theorem i_Md_countWord_2 : iIns M_Md_countWord 2 (.iload_n 1) 1 := (by decide +kernel : decode prog_14_method_38_code 2 = .ok (.iload_n 1, 1))
theorem i_Md_countWord_3 : iIns M_Md_countWord 3 (.bipush 6) 2 := (by decide +kernel : decode prog_14_method_38_code 3 = .ok (.bipush 6, 2))
theorem i_Md_countWord_5 : iIcmp M_Md_countWord 5 .ge 21 := ⟨16, (by decide +kernel : decode prog_14_method_38_code 5 = .ok (.if_icmp .ge (16), 3)), by decide⟩
theorem i_Md_countWord_8 : iIns M_Md_countWord 8 (.aload_n 0) 1 := (by decide +kernel : decode prog_14_method_38_code 8 = .ok (.aload_n 0, 1))
theorem i_Md_countWord_9 : iGet M_Md_countWord 9 14 16 := ⟨43, (by decide +kernel : decode prog_14_method_38_code 9 = .ok (.getfield 43, 3)), fl_Md_Md_counts⟩
theorem i_Md_countWord_12 : iIns M_Md_countWord 12 (.iload_n 1) 1 := (by decide +kernel : decode prog_14_method_38_code 12 = .ok (.iload_n 1, 1))
theorem i_Md_countWord_13 : iIns M_Md_countWord 13 (.lconst 0) 1 := (by decide +kernel : decode prog_14_method_38_code 13 = .ok (.lconst 0, 1))
theorem i_Md_countWord_14 : iIns M_Md_countWord 14 .lastore 1 := (by decide +kernel : decode prog_14_method_38_code 14 = .ok (.lastore, 1))
theorem i_Md_countWord_15 : iIns M_Md_countWord 15 (.iinc 1 (1)) 3 := (by decide +kernel : decode prog_14_method_38_code 15 = .ok (.iinc 1 (1), 3))
theorem i_Md_countWord_18 : iGoto M_Md_countWord 18 2 := ⟨-16, (by decide +kernel : decode prog_14_method_38_code 18 = .ok (.goto (-16), 3)), by decide⟩
theorem i_Md_countWord_21 : iIns M_Md_countWord 21 (.iconst 1) 1 := (by decide +kernel : decode prog_14_method_38_code 21 = .ok (.iconst 1, 1))
theorem i_Md_countWord_22 : iIns M_Md_countWord 22 (.istore_n 1) 1 := (by decide +kernel : decode prog_14_method_38_code 22 = .ok (.istore_n 1, 1))
theorem i_Md_countWord_23 : iIns M_Md_countWord 23 (.iload_n 1) 1 := (by decide +kernel : decode prog_14_method_38_code 23 = .ok (.iload_n 1, 1))
theorem i_Md_countWord_24 : iIns M_Md_countWord 24 (.aload_n 0) 1 := (by decide +kernel : decode prog_14_method_38_code 24 = .ok (.aload_n 0, 1))
theorem i_Md_countWord_25 : iGet M_Md_countWord 25 14 2 := ⟨13, (by decide +kernel : decode prog_14_method_38_code 25 = .ok (.getfield 13, 3)), fl_Md_Md_word⟩
theorem i_Md_countWord_28 : iIns M_Md_countWord 28 (.iconst 0) 1 := (by decide +kernel : decode prog_14_method_38_code 28 = .ok (.iconst 0, 1))
theorem i_Md_countWord_29 : iIns M_Md_countWord 29 .iaload 1 := (by decide +kernel : decode prog_14_method_38_code 29 = .ok (.iaload, 1))
theorem i_Md_countWord_30 : iIcmp M_Md_countWord 30 .gt 54 := ⟨24, (by decide +kernel : decode prog_14_method_38_code 30 = .ok (.if_icmp .gt (24), 3)), by decide⟩
theorem i_Md_countWord_33 : iIns M_Md_countWord 33 (.aload_n 0) 1 := (by decide +kernel : decode prog_14_method_38_code 33 = .ok (.aload_n 0, 1))
theorem i_Md_countWord_34 : iGet M_Md_countWord 34 14 16 := ⟨43, (by decide +kernel : decode prog_14_method_38_code 34 = .ok (.getfield 43, 3)), fl_Md_Md_counts⟩
theorem i_Md_countWord_37 : iIns M_Md_countWord 37 (.aload_n 0) 1 := (by decide +kernel : decode prog_14_method_38_code 37 = .ok (.aload_n 0, 1))
theorem i_Md_countWord_38 : iGet M_Md_countWord 38 14 2 := ⟨13, (by decide +kernel : decode prog_14_method_38_code 38 = .ok (.getfield 13, 3)), fl_Md_Md_word⟩
theorem i_Md_countWord_41 : iIns M_Md_countWord 41 (.iload_n 1) 1 := (by decide +kernel : decode prog_14_method_38_code 41 = .ok (.iload_n 1, 1))
theorem i_Md_countWord_42 : iIns M_Md_countWord 42 .iaload 1 := (by decide +kernel : decode prog_14_method_38_code 42 = .ok (.iaload, 1))
theorem i_Md_countWord_43 : iIns M_Md_countWord 43 .dup2 1 := (by decide +kernel : decode prog_14_method_38_code 43 = .ok (.dup2, 1))
theorem i_Md_countWord_44 : iIns M_Md_countWord 44 .laload 1 := (by decide +kernel : decode prog_14_method_38_code 44 = .ok (.laload, 1))
theorem i_Md_countWord_45 : iIns M_Md_countWord 45 (.lconst 1) 1 := (by decide +kernel : decode prog_14_method_38_code 45 = .ok (.lconst 1, 1))
theorem i_Md_countWord_46 : iIns M_Md_countWord 46 .ladd 1 := (by decide +kernel : decode prog_14_method_38_code 46 = .ok (.ladd, 1))
theorem i_Md_countWord_47 : iIns M_Md_countWord 47 .lastore 1 := (by decide +kernel : decode prog_14_method_38_code 47 = .ok (.lastore, 1))
theorem i_Md_countWord_48 : iIns M_Md_countWord 48 (.iinc 1 (1)) 3 := (by decide +kernel : decode prog_14_method_38_code 48 = .ok (.iinc 1 (1), 3))
theorem i_Md_countWord_51 : iGoto M_Md_countWord 51 23 := ⟨-28, (by decide +kernel : decode prog_14_method_38_code 51 = .ok (.goto (-28), 3)), by decide⟩
theorem i_Md_countWord_54 : iIns M_Md_countWord 54 .return_ 1 := (by decide +kernel : decode prog_14_method_38_code 54 = .ok (.return_, 1))
theorem i_Md_occurs_0 : iIns M_Md_occurs 0 (.iload_n 1) 1 := (by decide +kernel : decode prog_14_method_37_code 0 = .ok (.iload_n 1, 1))
theorem i_Md_occurs_1 : iIns M_Md_occurs 1 (.iload_n 2) 1 := (by decide +kernel : decode prog_14_method_37_code 1 = .ok (.iload_n 2, 1))
theorem i_Md_occurs_2 : iCallS M_Md_occurs 2 M_Md_listAt 2 := ⟨⟨122, (by decide +kernel : decode prog_14_method_37_code 2 = .ok (.invokestatic 122, 3)), lw_k6 166 rfl rfl⟩, sm_Md_listAt, me_Md_listAt, pn_Md_listAt⟩
theorem i_Md_occurs_5 : iIns M_Md_occurs 5 (.iconst 0) 1 := (by decide +kernel : decode prog_14_method_37_code 5 = .ok (.iconst 0, 1))
theorem i_Md_occurs_6 : iCallS M_Md_occurs 6 M_Md_productionAt 2 := ⟨⟨126, (by decide +kernel : decode prog_14_method_37_code 6 = .ok (.invokestatic 126, 3)), lw_k6 169 rfl rfl⟩, sm_Md_productionAt, me_Md_productionAt, pn_Md_productionAt⟩
theorem i_Md_occurs_9 : iIns M_Md_occurs 9 (.istore 4) 2 := (by decide +kernel : decode prog_14_method_37_code 9 = .ok (.istore 4, 2))
theorem i_Md_occurs_11 : iIns M_Md_occurs 11 (.iconst 0) 1 := (by decide +kernel : decode prog_14_method_37_code 11 = .ok (.iconst 0, 1))
theorem i_Md_occurs_12 : iIns M_Md_occurs 12 (.istore 5) 2 := (by decide +kernel : decode prog_14_method_37_code 12 = .ok (.istore 5, 2))
theorem i_Md_occurs_14 : iIns M_Md_occurs 14 (.iconst 0) 1 := (by decide +kernel : decode prog_14_method_37_code 14 = .ok (.iconst 0, 1))
theorem i_Md_occurs_15 : iIns M_Md_occurs 15 (.istore 6) 2 := (by decide +kernel : decode prog_14_method_37_code 15 = .ok (.istore 6, 2))
theorem i_Md_occurs_17 : iIns M_Md_occurs 17 (.iload 6) 2 := (by decide +kernel : decode prog_14_method_37_code 17 = .ok (.iload 6, 2))
theorem i_Md_occurs_19 : iIns M_Md_occurs 19 (.aload_n 0) 1 := (by decide +kernel : decode prog_14_method_37_code 19 = .ok (.aload_n 0, 1))
theorem i_Md_occurs_20 : iGet M_Md_occurs 20 14 1 := ⟨9, (by decide +kernel : decode prog_14_method_37_code 20 = .ok (.getfield 9, 3)), fl_Md_Md_tables⟩
theorem i_Md_occurs_23 : iIns M_Md_occurs 23 (.iload 4) 2 := (by decide +kernel : decode prog_14_method_37_code 23 = .ok (.iload 4, 2))
theorem i_Md_occurs_25 : iIns M_Md_occurs 25 .iaload 1 := (by decide +kernel : decode prog_14_method_37_code 25 = .ok (.iaload, 1))
theorem i_Md_occurs_26 : iIcmp M_Md_occurs 26 .ge 61 := ⟨35, (by decide +kernel : decode prog_14_method_37_code 26 = .ok (.if_icmp .ge (35), 3)), by decide⟩
theorem i_Md_occurs_29 : iIns M_Md_occurs 29 (.iload 5) 2 := (by decide +kernel : decode prog_14_method_37_code 29 = .ok (.iload 5, 2))
theorem i_Md_occurs_31 : iIns M_Md_occurs 31 (.aload_n 0) 1 := (by decide +kernel : decode prog_14_method_37_code 31 = .ok (.aload_n 0, 1))
theorem i_Md_occurs_32 : iGet M_Md_occurs 32 14 1 := ⟨9, (by decide +kernel : decode prog_14_method_37_code 32 = .ok (.getfield 9, 3)), fl_Md_Md_tables⟩
theorem i_Md_occurs_35 : iIns M_Md_occurs 35 (.iload 4) 2 := (by decide +kernel : decode prog_14_method_37_code 35 = .ok (.iload 4, 2))
theorem i_Md_occurs_37 : iIns M_Md_occurs 37 (.iconst 1) 1 := (by decide +kernel : decode prog_14_method_37_code 37 = .ok (.iconst 1, 1))
theorem i_Md_occurs_38 : iIns M_Md_occurs 38 .iadd 1 := (by decide +kernel : decode prog_14_method_37_code 38 = .ok (.iadd, 1))
theorem i_Md_occurs_39 : iIns M_Md_occurs 39 (.iload 6) 2 := (by decide +kernel : decode prog_14_method_37_code 39 = .ok (.iload 6, 2))
theorem i_Md_occurs_41 : iIns M_Md_occurs 41 .iadd 1 := (by decide +kernel : decode prog_14_method_37_code 41 = .ok (.iadd, 1))
theorem i_Md_occurs_42 : iIns M_Md_occurs 42 .iaload 1 := (by decide +kernel : decode prog_14_method_37_code 42 = .ok (.iaload, 1))
theorem i_Md_occurs_43 : iIns M_Md_occurs 43 (.iload_n 3) 1 := (by decide +kernel : decode prog_14_method_37_code 43 = .ok (.iload_n 3, 1))
theorem i_Md_occurs_44 : iIcmp M_Md_occurs 44 .ne 51 := ⟨7, (by decide +kernel : decode prog_14_method_37_code 44 = .ok (.if_icmp .ne (7), 3)), by decide⟩
theorem i_Md_occurs_47 : iIns M_Md_occurs 47 (.iconst 1) 1 := (by decide +kernel : decode prog_14_method_37_code 47 = .ok (.iconst 1, 1))
theorem i_Md_occurs_48 : iGoto M_Md_occurs 48 52 := ⟨4, (by decide +kernel : decode prog_14_method_37_code 48 = .ok (.goto (4), 3)), by decide⟩
theorem i_Md_occurs_51 : iIns M_Md_occurs 51 (.iconst 0) 1 := (by decide +kernel : decode prog_14_method_37_code 51 = .ok (.iconst 0, 1))
theorem i_Md_occurs_52 : iIns M_Md_occurs 52 .iadd 1 := (by decide +kernel : decode prog_14_method_37_code 52 = .ok (.iadd, 1))
theorem i_Md_occurs_53 : iIns M_Md_occurs 53 (.istore 5) 2 := (by decide +kernel : decode prog_14_method_37_code 53 = .ok (.istore 5, 2))
theorem i_Md_occurs_55 : iIns M_Md_occurs 55 (.iinc 6 (1)) 3 := (by decide +kernel : decode prog_14_method_37_code 55 = .ok (.iinc 6 (1), 3))
theorem i_Md_occurs_58 : iGoto M_Md_occurs 58 17 := ⟨-41, (by decide +kernel : decode prog_14_method_37_code 58 = .ok (.goto (-41), 3)), by decide⟩
theorem i_Md_occurs_61 : iIns M_Md_occurs 61 (.iload 5) 2 := (by decide +kernel : decode prog_14_method_37_code 61 = .ok (.iload 5, 2))
theorem i_Md_occurs_63 : iIns M_Md_occurs 63 .ireturn 1 := (by decide +kernel : decode prog_14_method_37_code 63 = .ok (.ireturn, 1))

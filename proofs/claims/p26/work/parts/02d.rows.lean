theorem dL_passing_106 : decode cL_passing 106 = .ok (.aload_n 0, 1) := by decide +kernel
theorem dL_passing_107 : decode cL_passing 107 = .ok (.iconst 2, 1) := by decide +kernel
theorem dL_passing_108 : decode cL_passing 108 = .ok (.aload 4, 2) := by decide +kernel
theorem dL_passing_110 : decode cL_passing 110 = .ok (.iload 6, 2) := by decide +kernel
theorem dL_passing_112 : decode cL_passing 112 = .ok (.iaload, 1) := by decide +kernel
theorem dL_passing_113 : decode cL_passing 113 = .ok (.iconst 0, 1) := by decide +kernel
theorem dL_passing_114 : decode cL_passing 114 = .ok (.invokestatic 62, 3) := by decide +kernel
theorem dL_passing_117 : decode cL_passing 117 = .ok (.iload_n 2, 1) := by decide +kernel
theorem dL_passing_118 : decode cL_passing 118 = .ok (.iload_n 3, 1) := by decide +kernel
theorem dL_passing_119 : decode cL_passing 119 = .ok (.iadd, 1) := by decide +kernel
theorem dL_passing_120 : decode cL_passing 120 = .ok (.iconst 1, 1) := by decide +kernel
theorem dL_passing_121 : decode cL_passing 121 = .ok (.isub, 1) := by decide +kernel
theorem dL_passing_122 : decode cL_passing 122 = .ok (.iload 6, 2) := by decide +kernel
theorem dL_passing_124 : decode cL_passing 124 = .ok (.isub, 1) := by decide +kernel
theorem dL_passing_125 : decode cL_passing 125 = .ok (.if_icmp .ne 7, 3) := by decide +kernel
theorem dL_passing_128 : decode cL_passing 128 = .ok (.iconst 1, 1) := by decide +kernel
theorem dL_passing_129 : decode cL_passing 129 = .ok (.goto 4, 3) := by decide +kernel
theorem dL_passing_132 : decode cL_passing 132 = .ok (.iconst 0, 1) := by decide +kernel
theorem dL_passing_133 : decode cL_passing 133 = .ok (.istore 5, 2) := by decide +kernel
theorem dL_passing_135 : decode cL_passing 135 = .ok (.iinc 6 1, 3) := by decide +kernel
theorem dL_passing_138 : decode cL_passing 138 = .ok (.goto (-59), 3) := by decide +kernel
theorem dL_passing_141 : decode cL_passing 141 = .ok (.iload 5, 2) := by decide +kernel
theorem dL_passing_143 : decode cL_passing 143 = .ok (.ifCond .eq 15, 3) := by decide +kernel
theorem dL_passing_146 : decode cL_passing 146 = .ok (.aload_n 0, 1) := by decide +kernel
theorem dL_passing_147 : decode cL_passing 147 = .ok (.invokevirtual 59, 3) := by decide +kernel
theorem dL_passing_150 : decode cL_passing 150 = .ok (.iload_n 2, 1) := by decide +kernel
theorem dL_passing_151 : decode cL_passing 151 = .ok (.if_icmp .ne 7, 3) := by decide +kernel
theorem dL_passing_154 : decode cL_passing 154 = .ok (.iconst 1, 1) := by decide +kernel
theorem dL_passing_155 : decode cL_passing 155 = .ok (.goto 4, 3) := by decide +kernel
theorem dL_passing_158 : decode cL_passing 158 = .ok (.iconst 0, 1) := by decide +kernel
theorem dL_passing_159 : decode cL_passing 159 = .ok (.ireturn, 1) := by decide +kernel
set_option maxRecDepth 20000 in
theorem ggL_areAlike_X0_first : GoodIn wsL_areAlike wsX0_first := goodIn_r _ [5, 6, 7, 8, 4, 9, 10, 11, 12, 13, 14, 15, 16, 69, 70, 71, 72, 73, 74, 75, 76] (by decide +kernel) (by decide +kernel)
set_option maxRecDepth 20000 in
theorem gL_areAlike_X0_first : GoodIn wsL_areAlike (wsV RL 50 RX0 yX0_first wsX0_first) := goodIn_app (goodIn_of _ (by decide +kernel)) ggL_areAlike_X0_first
set_option maxRecDepth 20000 in
theorem ggL_areAlike_X0_size : GoodIn wsL_areAlike wsX0_size := goodIn_r _ [20, 15, 69, 70, 71, 72, 73, 74, 75, 76] (by decide +kernel) (by decide +kernel)
set_option maxRecDepth 20000 in
theorem gL_areAlike_X0_size : GoodIn wsL_areAlike (wsV RL 59 RX0 yX0_size wsX0_size) := goodIn_app (goodIn_of _ (by decide +kernel)) ggL_areAlike_X0_size
set_option maxRecDepth 20000 in
theorem ggL_areAlike_L_asked : GoodIn wsL_areAlike wsL_asked := goodIn_ca (goodIn_r _ [24, 25, 26, 27, 28, 4, 29, 30, 31, 32, 33, 34, 35, 36, 37, 38, 39, 15, 10, 6, 7, 8, 9, 11, 12, 13, 14, 16, 40, 41, 42, 43, 44, 45, 46, 47, 48, 49, 50, 51, 52, 53, 54, 55, 56, 57, 58, 59, 60, 61, 62, 63, 64, 65, 66, 67, 68, 69, 70, 71, 72, 73, 74, 75, 76] (by decide +kernel) (by decide +kernel)) (goodIn_sub (fun _ h => List.mem_cons_of_mem _ (List.mem_append_right _ h)) (by decide +kernel))
set_option maxRecDepth 20000 in
theorem gL_areAlike_L_asked : GoodIn wsL_areAlike (va_wsS RL 53 yL_asked wsL_asked) := goodIn_app (goodIn_of _ (by decide +kernel)) ggL_areAlike_L_asked
theorem dL_areAlike_0 : decode cL_areAlike 0 = .ok (.aload_n 0, 1) := by decide +kernel
theorem dL_areAlike_1 : decode cL_areAlike 1 = .ok (.invokevirtual 50, 3) := by decide +kernel
theorem dL_areAlike_4 : decode cL_areAlike 4 = .ok (.istore_n 3, 1) := by decide +kernel
theorem dL_areAlike_5 : decode cL_areAlike 5 = .ok (.aload_n 1, 1) := by decide +kernel
theorem dL_areAlike_6 : decode cL_areAlike 6 = .ok (.invokevirtual 50, 3) := by decide +kernel
theorem dL_areAlike_9 : decode cL_areAlike 9 = .ok (.istore 4, 2) := by decide +kernel
theorem dL_areAlike_11 : decode cL_areAlike 11 = .ok (.iconst 0, 1) := by decide +kernel
theorem dL_areAlike_12 : decode cL_areAlike 12 = .ok (.istore 5, 2) := by decide +kernel
theorem dL_areAlike_14 : decode cL_areAlike 14 = .ok (.iconst (-1), 1) := by decide +kernel
theorem dL_areAlike_15 : decode cL_areAlike 15 = .ok (.istore 6, 2) := by decide +kernel
theorem dL_areAlike_17 : decode cL_areAlike 17 = .ok (.aload_n 0, 1) := by decide +kernel
theorem dL_areAlike_18 : decode cL_areAlike 18 = .ok (.invokevirtual 59, 3) := by decide +kernel
theorem dL_areAlike_21 : decode cL_areAlike 21 = .ok (.aload_n 1, 1) := by decide +kernel
theorem dL_areAlike_22 : decode cL_areAlike 22 = .ok (.invokevirtual 59, 3) := by decide +kernel
theorem dL_areAlike_25 : decode cL_areAlike 25 = .ok (.if_icmp .ne 7, 3) := by decide +kernel
theorem dL_areAlike_28 : decode cL_areAlike 28 = .ok (.iconst 1, 1) := by decide +kernel
theorem dL_areAlike_29 : decode cL_areAlike 29 = .ok (.goto 4, 3) := by decide +kernel
theorem dL_areAlike_32 : decode cL_areAlike 32 = .ok (.iconst 0, 1) := by decide +kernel
theorem dL_areAlike_33 : decode cL_areAlike 33 = .ok (.istore 7, 2) := by decide +kernel
theorem dL_areAlike_35 : decode cL_areAlike 35 = .ok (.iload 7, 2) := by decide +kernel
theorem dL_areAlike_37 : decode cL_areAlike 37 = .ok (.ifCond .eq 95, 3) := by decide +kernel
theorem dL_areAlike_40 : decode cL_areAlike 40 = .ok (.iload_n 3, 1) := by decide +kernel
theorem dL_areAlike_41 : decode cL_areAlike 41 = .ok (.iconst (-1), 1) := by decide +kernel
theorem dL_areAlike_42 : decode cL_areAlike 42 = .ok (.if_icmp .eq 90, 3) := by decide +kernel
theorem dL_areAlike_45 : decode cL_areAlike 45 = .ok (.iload 5, 2) := by decide +kernel
theorem dL_areAlike_47 : decode cL_areAlike 47 = .ok (.bipush 61, 2) := by decide +kernel
theorem dL_areAlike_49 : decode cL_areAlike 49 = .ok (.if_icmp .ge 83, 3) := by decide +kernel
theorem dL_areAlike_52 : decode cL_areAlike 52 = .ok (.aload_n 1, 1) := by decide +kernel
theorem dL_areAlike_53 : decode cL_areAlike 53 = .ok (.iconst 1, 1) := by decide +kernel
theorem dL_areAlike_54 : decode cL_areAlike 54 = .ok (.iload 4, 2) := by decide +kernel
theorem dL_areAlike_56 : decode cL_areAlike 56 = .ok (.invokestatic 53, 3) := by decide +kernel
theorem dL_areAlike_59 : decode cL_areAlike 59 = .ok (.istore 8, 2) := by decide +kernel
theorem dL_areAlike_61 : decode cL_areAlike 61 = .ok (.iload 4, 2) := by decide +kernel
theorem dL_areAlike_63 : decode cL_areAlike 63 = .ok (.aload_n 2, 1) := by decide +kernel
theorem dL_areAlike_64 : decode cL_areAlike 64 = .ok (.iload_n 3, 1) := by decide +kernel
theorem dL_areAlike_65 : decode cL_areAlike 65 = .ok (.iaload, 1) := by decide +kernel
theorem dL_areAlike_66 : decode cL_areAlike 66 = .ok (.if_icmp .ne 37, 3) := by decide +kernel
theorem dL_areAlike_69 : decode cL_areAlike 69 = .ok (.aload_n 0, 1) := by decide +kernel
theorem dL_areAlike_70 : decode cL_areAlike 70 = .ok (.iconst 2, 1) := by decide +kernel
theorem dL_areAlike_71 : decode cL_areAlike 71 = .ok (.iload_n 3, 1) := by decide +kernel
theorem dL_areAlike_72 : decode cL_areAlike 72 = .ok (.invokestatic 53, 3) := by decide +kernel
theorem dL_areAlike_75 : decode cL_areAlike 75 = .ok (.iload 5, 2) := by decide +kernel
theorem dL_areAlike_77 : decode cL_areAlike 77 = .ok (.if_icmp .ne 26, 3) := by decide +kernel
theorem dL_areAlike_80 : decode cL_areAlike 80 = .ok (.aload_n 1, 1) := by decide +kernel
theorem dL_areAlike_81 : decode cL_areAlike 81 = .ok (.iconst 2, 1) := by decide +kernel
theorem dL_areAlike_82 : decode cL_areAlike 82 = .ok (.iload 4, 2) := by decide +kernel
theorem dL_areAlike_84 : decode cL_areAlike 84 = .ok (.invokestatic 53, 3) := by decide +kernel
theorem dL_areAlike_87 : decode cL_areAlike 87 = .ok (.iload 5, 2) := by decide +kernel
theorem dL_areAlike_89 : decode cL_areAlike 89 = .ok (.if_icmp .ne 14, 3) := by decide +kernel
theorem dL_areAlike_92 : decode cL_areAlike 92 = .ok (.iload 8, 2) := by decide +kernel
theorem dL_areAlike_94 : decode cL_areAlike 94 = .ok (.iload 6, 2) := by decide +kernel
theorem dL_areAlike_96 : decode cL_areAlike 96 = .ok (.if_icmp .le 7, 3) := by decide +kernel
theorem dL_areAlike_99 : decode cL_areAlike 99 = .ok (.iconst 1, 1) := by decide +kernel
theorem dL_areAlike_100 : decode cL_areAlike 100 = .ok (.goto 4, 3) := by decide +kernel
theorem dL_areAlike_103 : decode cL_areAlike 103 = .ok (.iconst 0, 1) := by decide +kernel
theorem dL_areAlike_104 : decode cL_areAlike 104 = .ok (.istore 7, 2) := by decide +kernel
theorem dL_areAlike_106 : decode cL_areAlike 106 = .ok (.iload 8, 2) := by decide +kernel
theorem dL_areAlike_108 : decode cL_areAlike 108 = .ok (.istore 6, 2) := by decide +kernel
theorem dL_areAlike_110 : decode cL_areAlike 110 = .ok (.aload_n 0, 1) := by decide +kernel
theorem dL_areAlike_111 : decode cL_areAlike 111 = .ok (.iconst 0, 1) := by decide +kernel
theorem dL_areAlike_112 : decode cL_areAlike 112 = .ok (.iload_n 3, 1) := by decide +kernel
theorem dL_areAlike_113 : decode cL_areAlike 113 = .ok (.invokestatic 53, 3) := by decide +kernel
theorem dL_areAlike_116 : decode cL_areAlike 116 = .ok (.istore_n 3, 1) := by decide +kernel
theorem dL_areAlike_117 : decode cL_areAlike 117 = .ok (.aload_n 1, 1) := by decide +kernel
theorem dL_areAlike_118 : decode cL_areAlike 118 = .ok (.iconst 0, 1) := by decide +kernel
theorem dL_areAlike_119 : decode cL_areAlike 119 = .ok (.iload 4, 2) := by decide +kernel
theorem dL_areAlike_121 : decode cL_areAlike 121 = .ok (.invokestatic 53, 3) := by decide +kernel
theorem dL_areAlike_124 : decode cL_areAlike 124 = .ok (.istore 4, 2) := by decide +kernel
theorem dL_areAlike_126 : decode cL_areAlike 126 = .ok (.iinc 5 1, 3) := by decide +kernel
theorem dL_areAlike_129 : decode cL_areAlike 129 = .ok (.goto (-94), 3) := by decide +kernel
theorem dL_areAlike_132 : decode cL_areAlike 132 = .ok (.iload 7, 2) := by decide +kernel
theorem dL_areAlike_134 : decode cL_areAlike 134 = .ok (.ifCond .eq 27, 3) := by decide +kernel
theorem dL_areAlike_137 : decode cL_areAlike 137 = .ok (.iload_n 3, 1) := by decide +kernel
theorem dL_areAlike_138 : decode cL_areAlike 138 = .ok (.iconst (-1), 1) := by decide +kernel
theorem dL_areAlike_139 : decode cL_areAlike 139 = .ok (.if_icmp .ne 22, 3) := by decide +kernel
theorem dL_areAlike_142 : decode cL_areAlike 142 = .ok (.iload 4, 2) := by decide +kernel
theorem dL_areAlike_144 : decode cL_areAlike 144 = .ok (.iconst (-1), 1) := by decide +kernel
theorem dL_areAlike_145 : decode cL_areAlike 145 = .ok (.if_icmp .ne 16, 3) := by decide +kernel
theorem dL_areAlike_148 : decode cL_areAlike 148 = .ok (.iload 5, 2) := by decide +kernel
theorem dL_areAlike_150 : decode cL_areAlike 150 = .ok (.aload_n 0, 1) := by decide +kernel
theorem dL_areAlike_151 : decode cL_areAlike 151 = .ok (.invokevirtual 59, 3) := by decide +kernel
theorem dL_areAlike_154 : decode cL_areAlike 154 = .ok (.if_icmp .ne 7, 3) := by decide +kernel
theorem dL_areAlike_157 : decode cL_areAlike 157 = .ok (.iconst 1, 1) := by decide +kernel
theorem dL_areAlike_158 : decode cL_areAlike 158 = .ok (.goto 4, 3) := by decide +kernel
theorem dL_areAlike_161 : decode cL_areAlike 161 = .ok (.iconst 0, 1) := by decide +kernel
theorem dL_areAlike_162 : decode cL_areAlike 162 = .ok (.istore 7, 2) := by decide +kernel
theorem dL_areAlike_164 : decode cL_areAlike 164 = .ok (.iconst 0, 1) := by decide +kernel
theorem dL_areAlike_165 : decode cL_areAlike 165 = .ok (.istore 8, 2) := by decide +kernel
theorem dL_areAlike_167 : decode cL_areAlike 167 = .ok (.iload 8, 2) := by decide +kernel
theorem dL_areAlike_169 : decode cL_areAlike 169 = .ok (.iconst 4, 1) := by decide +kernel
theorem dL_areAlike_170 : decode cL_areAlike 170 = .ok (.if_icmp .ge 71, 3) := by decide +kernel
theorem dL_areAlike_173 : decode cL_areAlike 173 = .ok (.iload 7, 2) := by decide +kernel
theorem dL_areAlike_175 : decode cL_areAlike 175 = .ok (.ifCond .eq 66, 3) := by decide +kernel
theorem dL_areAlike_178 : decode cL_areAlike 178 = .ok (.aload_n 0, 1) := by decide +kernel
theorem dL_areAlike_179 : decode cL_areAlike 179 = .ok (.iconst 3, 1) := by decide +kernel
theorem dL_areAlike_180 : decode cL_areAlike 180 = .ok (.iload 8, 2) := by decide +kernel
theorem dL_areAlike_182 : decode cL_areAlike 182 = .ok (.invokestatic 53, 3) := by decide +kernel
theorem dL_areAlike_185 : decode cL_areAlike 185 = .ok (.istore 9, 2) := by decide +kernel
theorem dL_areAlike_187 : decode cL_areAlike 187 = .ok (.aload_n 1, 1) := by decide +kernel
theorem dL_areAlike_188 : decode cL_areAlike 188 = .ok (.iconst 3, 1) := by decide +kernel
theorem dL_areAlike_189 : decode cL_areAlike 189 = .ok (.iload 8, 2) := by decide +kernel
theorem dL_areAlike_191 : decode cL_areAlike 191 = .ok (.invokestatic 53, 3) := by decide +kernel
theorem dL_areAlike_194 : decode cL_areAlike 194 = .ok (.iload 9, 2) := by decide +kernel
theorem dL_areAlike_196 : decode cL_areAlike 196 = .ok (.iconst (-1), 1) := by decide +kernel
theorem dL_areAlike_197 : decode cL_areAlike 197 = .ok (.if_icmp .ne 7, 3) := by decide +kernel
theorem dL_areAlike_200 : decode cL_areAlike 200 = .ok (.iconst (-1), 1) := by decide +kernel
theorem dL_areAlike_201 : decode cL_areAlike 201 = .ok (.goto 7, 3) := by decide +kernel
theorem dL_areAlike_204 : decode cL_areAlike 204 = .ok (.aload_n 2, 1) := by decide +kernel
theorem dL_areAlike_205 : decode cL_areAlike 205 = .ok (.iload 9, 2) := by decide +kernel
theorem dL_areAlike_207 : decode cL_areAlike 207 = .ok (.iaload, 1) := by decide +kernel
theorem dL_areAlike_208 : decode cL_areAlike 208 = .ok (.if_icmp .ne 24, 3) := by decide +kernel
theorem dL_areAlike_211 : decode cL_areAlike 211 = .ok (.aload_n 0, 1) := by decide +kernel
theorem dL_areAlike_212 : decode cL_areAlike 212 = .ok (.iconst 4, 1) := by decide +kernel
theorem dL_areAlike_213 : decode cL_areAlike 213 = .ok (.iload 8, 2) := by decide +kernel
theorem dL_areAlike_215 : decode cL_areAlike 215 = .ok (.invokestatic 53, 3) := by decide +kernel
theorem dL_areAlike_218 : decode cL_areAlike 218 = .ok (.aload_n 1, 1) := by decide +kernel
theorem dL_areAlike_219 : decode cL_areAlike 219 = .ok (.iconst 4, 1) := by decide +kernel
theorem dL_areAlike_220 : decode cL_areAlike 220 = .ok (.iload 8, 2) := by decide +kernel
theorem dL_areAlike_222 : decode cL_areAlike 222 = .ok (.invokestatic 53, 3) := by decide +kernel
theorem dL_areAlike_225 : decode cL_areAlike 225 = .ok (.if_icmp .ne 7, 3) := by decide +kernel
theorem dL_areAlike_228 : decode cL_areAlike 228 = .ok (.iconst 1, 1) := by decide +kernel
theorem dL_areAlike_229 : decode cL_areAlike 229 = .ok (.goto 4, 3) := by decide +kernel
theorem dL_areAlike_232 : decode cL_areAlike 232 = .ok (.iconst 0, 1) := by decide +kernel
theorem dL_areAlike_233 : decode cL_areAlike 233 = .ok (.istore 7, 2) := by decide +kernel
theorem dL_areAlike_235 : decode cL_areAlike 235 = .ok (.iinc 8 1, 3) := by decide +kernel
theorem dL_areAlike_238 : decode cL_areAlike 238 = .ok (.goto (-71), 3) := by decide +kernel
theorem dL_areAlike_241 : decode cL_areAlike 241 = .ok (.iload 7, 2) := by decide +kernel
theorem dL_areAlike_243 : decode cL_areAlike 243 = .ok (.ireturn, 1) := by decide +kernel
set_option maxRecDepth 20000 in
theorem ggL_step_X0_size : GoodIn wsL_step wsX0_size := goodIn_r _ [5, 6, 186, 187, 188, 189, 190, 191, 192, 193] (by decide +kernel) (by decide +kernel)
set_option maxRecDepth 20000 in
theorem gL_step_X0_size : GoodIn wsL_step (wsV RL 59 RX0 yX0_size wsX0_size) := goodIn_app (goodIn_of _ (by decide +kernel)) ggL_step_X0_size
set_option maxRecDepth 20000 in
theorem ggL_step_L_folderAt : GoodIn wsL_step wsL_folderAt := goodIn_ca (goodIn_r _ [10, 11, 12, 13, 4, 14, 15, 16, 17, 18, 19, 20, 21, 22, 23, 6, 24, 25, 26, 9, 27, 28, 29, 30, 31, 32, 33, 34, 35, 36, 37, 38, 39, 40, 41, 42, 43, 44, 45, 46, 47, 48, 49, 50, 51, 52, 53, 54, 55, 56, 57, 58, 59, 60, 61, 62, 63, 64, 65, 66, 67, 68, 69, 70, 71, 186, 187, 188, 189, 190, 191, 192, 193] (by decide +kernel) (by decide +kernel)) (goodIn_sub (fun _ h => List.mem_cons_of_mem _ (List.mem_append_left _ (List.mem_append_left _ (List.mem_append_right _ h)))) (by decide +kernel))
set_option maxRecDepth 20000 in
theorem gL_step_L_folderAt : GoodIn wsL_step (va_wsS RL 66 yL_folderAt wsL_folderAt) := goodIn_app (goodIn_of _ (by decide +kernel)) ggL_step_L_folderAt
set_option maxRecDepth 20000 in
theorem ggL_step_L_done : GoodIn wsL_step wsL_done := goodIn_ca (goodIn_ca (goodIn_ca (goodIn_r _ [74, 75, 28, 76, 77, 78, 79, 4, 80, 81, 82, 83, 84, 85, 86, 87, 6, 88, 89, 90, 91, 92, 93, 94, 95, 96, 97, 98, 99, 100, 101, 102, 103, 104, 47, 48, 49, 50, 24, 20, 21, 22, 23, 19, 105, 106, 107, 108, 109, 110, 111, 112, 113, 114, 115, 116, 117, 118, 119, 120, 121, 122, 123, 124, 125, 126, 127, 128, 55, 56, 57, 58, 129, 130, 131, 132, 133, 134, 135, 136, 137, 138, 15, 16, 17, 18, 139, 140, 141, 142, 143, 144, 145, 146, 147, 148, 149, 150, 151, 152, 153, 154, 155, 33, 34, 35, 36, 37, 38, 39, 40, 41, 42, 156, 157, 158, 159, 160, 161, 162, 163, 63, 164, 165, 166, 167, 168, 169, 170, 171, 172, 173, 174, 175, 176, 177, 64, 65, 66, 178, 179, 180, 181, 186, 187, 188, 189, 190, 191, 192, 193] (by decide +kernel) (by decide +kernel)) (goodIn_sub (fun _ h => List.mem_cons_of_mem _ (List.mem_append_left _ (List.mem_append_right _ h))) (by decide +kernel))) (goodIn_sub (fun _ h => List.mem_cons_of_mem _ (List.mem_append_left _ (List.mem_append_left _ (List.mem_append_right _ h)))) (by decide +kernel))) (goodIn_sub (fun _ h => List.mem_cons_of_mem _ (List.mem_append_right _ h)) (by decide +kernel))
set_option maxRecDepth 20000 in
theorem gL_step_L_done : GoodIn wsL_step (va_wsS RL 62 yL_done wsL_done) := goodIn_app (goodIn_of _ (by decide +kernel)) ggL_step_L_done
set_option maxRecDepth 20000 in
theorem ggL_step_X0_passDay : GoodIn wsL_step wsX0_passDay := goodIn_r _ [185, 63, 71, 39, 40, 41, 4, 42, 6, 19, 15, 16, 17, 18, 20, 21, 22, 23, 24, 186, 187, 188, 189, 190, 191, 192, 193] (by decide +kernel) (by decide +kernel)
set_option maxRecDepth 20000 in
theorem gL_step_X0_passDay : GoodIn wsL_step (wsV RL 70 RX0 yX0_passDay wsX0_passDay) := goodIn_app (goodIn_of _ (by decide +kernel)) ggL_step_X0_passDay
theorem dL_step_0 : decode cL_step 0 = .ok (.aload_n 0, 1) := by decide +kernel
theorem dL_step_1 : decode cL_step 1 = .ok (.invokevirtual 59, 3) := by decide +kernel
theorem dL_step_4 : decode cL_step 4 = .ok (.istore 4, 2) := by decide +kernel
theorem dL_step_6 : decode cL_step 6 = .ok (.iload_n 3, 1) := by decide +kernel
theorem dL_step_7 : decode cL_step 7 = .ok (.bipush 12, 2) := by decide +kernel
theorem dL_step_9 : decode cL_step 9 = .ok (.irem, 1) := by decide +kernel
theorem dL_step_10 : decode cL_step 10 = .ok (.istore 5, 2) := by decide +kernel
theorem dL_step_12 : decode cL_step 12 = .ok (.iload_n 3, 1) := by decide +kernel
theorem dL_step_13 : decode cL_step 13 = .ok (.bipush 12, 2) := by decide +kernel
theorem dL_step_15 : decode cL_step 15 = .ok (.idiv, 1) := by decide +kernel
theorem dL_step_16 : decode cL_step 16 = .ok (.istore 6, 2) := by decide +kernel
theorem dL_step_18 : decode cL_step 18 = .ok (.iload 4, 2) := by decide +kernel
theorem dL_step_20 : decode cL_step 20 = .ok (.ifCond .ne 7, 3) := by decide +kernel
theorem dL_step_23 : decode cL_step 23 = .ok (.iconst (-1), 1) := by decide +kernel
theorem dL_step_24 : decode cL_step 24 = .ok (.goto 12, 3) := by decide +kernel
theorem dL_step_27 : decode cL_step 27 = .ok (.aload_n 0, 1) := by decide +kernel
theorem dL_step_28 : decode cL_step 28 = .ok (.iload 6, 2) := by decide +kernel
theorem dL_step_30 : decode cL_step 30 = .ok (.iload 4, 2) := by decide +kernel
theorem dL_step_32 : decode cL_step 32 = .ok (.irem, 1) := by decide +kernel
theorem dL_step_33 : decode cL_step 33 = .ok (.invokestatic 66, 3) := by decide +kernel
theorem dL_step_36 : decode cL_step 36 = .ok (.istore 7, 2) := by decide +kernel
theorem dL_step_38 : decode cL_step 38 = .ok (.iload 4, 2) := by decide +kernel
theorem dL_step_40 : decode cL_step 40 = .ok (.ifCond .eq 8, 3) := by decide +kernel
theorem dL_step_43 : decode cL_step 43 = .ok (.iload 5, 2) := by decide +kernel
theorem dL_step_45 : decode cL_step 45 = .ok (.ifCond .ne 61, 3) := by decide +kernel
theorem dL_step_48 : decode cL_step 48 = .ok (.aload_n 0, 1) := by decide +kernel
theorem dL_step_49 : decode cL_step 49 = .ok (.iconst 0, 1) := by decide +kernel
theorem dL_step_50 : decode cL_step 50 = .ok (.iconst 0, 1) := by decide +kernel
theorem dL_step_51 : decode cL_step 51 = .ok (.iconst 0, 1) := by decide +kernel
theorem dL_step_52 : decode cL_step 52 = .ok (.invokestatic 62, 3) := by decide +kernel
theorem dL_step_55 : decode cL_step 55 = .ok (.istore 8, 2) := by decide +kernel
theorem dL_step_57 : decode cL_step 57 = .ok (.aload_n 1, 1) := by decide +kernel
theorem dL_step_58 : decode cL_step 58 = .ok (.iconst 0, 1) := by decide +kernel
theorem dL_step_59 : decode cL_step 59 = .ok (.iconst 0, 1) := by decide +kernel
theorem dL_step_60 : decode cL_step 60 = .ok (.iconst 0, 1) := by decide +kernel
theorem dL_step_61 : decode cL_step 61 = .ok (.invokestatic 62, 3) := by decide +kernel
theorem dL_step_64 : decode cL_step 64 = .ok (.istore 9, 2) := by decide +kernel
theorem dL_step_66 : decode cL_step 66 = .ok (.iload 8, 2) := by decide +kernel
theorem dL_step_68 : decode cL_step 68 = .ok (.ifCond .lt 9, 3) := by decide +kernel
theorem dL_step_71 : decode cL_step 71 = .ok (.aload_n 2, 1) := by decide +kernel
theorem dL_step_72 : decode cL_step 72 = .ok (.iload 8, 2) := by decide +kernel
theorem dL_step_74 : decode cL_step 74 = .ok (.iload 9, 2) := by decide +kernel
theorem dL_step_76 : decode cL_step 76 = .ok (.iastore, 1) := by decide +kernel
theorem dL_step_77 : decode cL_step 77 = .ok (.iload 8, 2) := by decide +kernel
theorem dL_step_79 : decode cL_step 79 = .ok (.ifCond .ge 7, 3) := by decide +kernel
theorem dL_step_82 : decode cL_step 82 = .ok (.iconst 1, 1) := by decide +kernel
theorem dL_step_83 : decode cL_step 83 = .ok (.goto 4, 3) := by decide +kernel
theorem dL_step_86 : decode cL_step 86 = .ok (.iconst 0, 1) := by decide +kernel
theorem dL_step_87 : decode cL_step 87 = .ok (.iload 9, 2) := by decide +kernel
theorem dL_step_89 : decode cL_step 89 = .ok (.ifCond .ge 7, 3) := by decide +kernel
theorem dL_step_92 : decode cL_step 92 = .ok (.iconst 1, 1) := by decide +kernel
theorem dL_step_93 : decode cL_step 93 = .ok (.goto 4, 3) := by decide +kernel
theorem dL_step_96 : decode cL_step 96 = .ok (.iconst 0, 1) := by decide +kernel
theorem dL_step_97 : decode cL_step 97 = .ok (.if_icmp .ne 7, 3) := by decide +kernel
theorem dL_step_100 : decode cL_step 100 = .ok (.iconst 1, 1) := by decide +kernel
theorem dL_step_101 : decode cL_step 101 = .ok (.goto 4, 3) := by decide +kernel
theorem dL_step_104 : decode cL_step 104 = .ok (.iconst 0, 1) := by decide +kernel
theorem dL_step_105 : decode cL_step 105 = .ok (.ireturn, 1) := by decide +kernel
theorem dL_step_106 : decode cL_step 106 = .ok (.iload 5, 2) := by decide +kernel
theorem dL_step_108 : decode cL_step 108 = .ok (.bipush 7, 2) := by decide +kernel
theorem dL_step_110 : decode cL_step 110 = .ok (.if_icmp .ge 65, 3) := by decide +kernel
theorem dL_step_113 : decode cL_step 113 = .ok (.aload_n 0, 1) := by decide +kernel
theorem dL_step_114 : decode cL_step 114 = .ok (.iconst 1, 1) := by decide +kernel
theorem dL_step_115 : decode cL_step 115 = .ok (.iload 7, 2) := by decide +kernel
theorem dL_step_117 : decode cL_step 117 = .ok (.iconst 0, 1) := by decide +kernel
theorem dL_step_118 : decode cL_step 118 = .ok (.invokestatic 62, 3) := by decide +kernel
theorem dL_step_121 : decode cL_step 121 = .ok (.istore 8, 2) := by decide +kernel
theorem dL_step_123 : decode cL_step 123 = .ok (.aload_n 1, 1) := by decide +kernel
theorem dL_step_124 : decode cL_step 124 = .ok (.iconst 1, 1) := by decide +kernel
theorem dL_step_125 : decode cL_step 125 = .ok (.aload_n 2, 1) := by decide +kernel
theorem dL_step_126 : decode cL_step 126 = .ok (.iload 7, 2) := by decide +kernel
theorem dL_step_128 : decode cL_step 128 = .ok (.iaload, 1) := by decide +kernel
theorem dL_step_129 : decode cL_step 129 = .ok (.iconst 0, 1) := by decide +kernel
theorem dL_step_130 : decode cL_step 130 = .ok (.invokestatic 62, 3) := by decide +kernel
theorem dL_step_133 : decode cL_step 133 = .ok (.istore 9, 2) := by decide +kernel
theorem dL_step_135 : decode cL_step 135 = .ok (.iload 8, 2) := by decide +kernel
theorem dL_step_137 : decode cL_step 137 = .ok (.ifCond .lt 9, 3) := by decide +kernel
theorem dL_step_140 : decode cL_step 140 = .ok (.aload_n 2, 1) := by decide +kernel
theorem dL_step_141 : decode cL_step 141 = .ok (.iload 8, 2) := by decide +kernel
theorem dL_step_143 : decode cL_step 143 = .ok (.iload 9, 2) := by decide +kernel
theorem dL_step_145 : decode cL_step 145 = .ok (.iastore, 1) := by decide +kernel
theorem dL_step_146 : decode cL_step 146 = .ok (.iload 8, 2) := by decide +kernel
theorem dL_step_148 : decode cL_step 148 = .ok (.ifCond .ge 7, 3) := by decide +kernel
theorem dL_step_151 : decode cL_step 151 = .ok (.iconst 1, 1) := by decide +kernel
theorem dL_step_152 : decode cL_step 152 = .ok (.goto 4, 3) := by decide +kernel
theorem dL_step_155 : decode cL_step 155 = .ok (.iconst 0, 1) := by decide +kernel
theorem dL_step_156 : decode cL_step 156 = .ok (.iload 9, 2) := by decide +kernel
theorem dL_step_158 : decode cL_step 158 = .ok (.ifCond .ge 7, 3) := by decide +kernel
theorem dL_step_161 : decode cL_step 161 = .ok (.iconst 1, 1) := by decide +kernel
theorem dL_step_162 : decode cL_step 162 = .ok (.goto 4, 3) := by decide +kernel
theorem dL_step_165 : decode cL_step 165 = .ok (.iconst 0, 1) := by decide +kernel
theorem dL_step_166 : decode cL_step 166 = .ok (.if_icmp .ne 7, 3) := by decide +kernel
theorem dL_step_169 : decode cL_step 169 = .ok (.iconst 1, 1) := by decide +kernel
theorem dL_step_170 : decode cL_step 170 = .ok (.goto 4, 3) := by decide +kernel
theorem dL_step_173 : decode cL_step 173 = .ok (.iconst 0, 1) := by decide +kernel
theorem dL_step_174 : decode cL_step 174 = .ok (.ireturn, 1) := by decide +kernel
theorem dL_step_175 : decode cL_step 175 = .ok (.iload 5, 2) := by decide +kernel
theorem dL_step_177 : decode cL_step 177 = .ok (.bipush 7, 2) := by decide +kernel
theorem dL_step_179 : decode cL_step 179 = .ok (.if_icmp .ne 30, 3) := by decide +kernel
theorem dL_step_182 : decode cL_step 182 = .ok (.aload_n 0, 1) := by decide +kernel
theorem dL_step_183 : decode cL_step 183 = .ok (.iconst 2, 1) := by decide +kernel
theorem dL_step_184 : decode cL_step 184 = .ok (.iload 7, 2) := by decide +kernel
theorem dL_step_186 : decode cL_step 186 = .ok (.iconst 0, 1) := by decide +kernel
theorem dL_step_187 : decode cL_step 187 = .ok (.invokestatic 62, 3) := by decide +kernel
theorem dL_step_190 : decode cL_step 190 = .ok (.aload_n 1, 1) := by decide +kernel
theorem dL_step_191 : decode cL_step 191 = .ok (.iconst 2, 1) := by decide +kernel
theorem dL_step_192 : decode cL_step 192 = .ok (.aload_n 2, 1) := by decide +kernel
theorem dL_step_193 : decode cL_step 193 = .ok (.iload 7, 2) := by decide +kernel
theorem dL_step_195 : decode cL_step 195 = .ok (.iaload, 1) := by decide +kernel
theorem dL_step_196 : decode cL_step 196 = .ok (.iconst 0, 1) := by decide +kernel
theorem dL_step_197 : decode cL_step 197 = .ok (.invokestatic 62, 3) := by decide +kernel
theorem dL_step_200 : decode cL_step 200 = .ok (.if_icmp .ne 7, 3) := by decide +kernel
theorem dL_step_203 : decode cL_step 203 = .ok (.iconst 1, 1) := by decide +kernel
theorem dL_step_204 : decode cL_step 204 = .ok (.goto 4, 3) := by decide +kernel
theorem dL_step_207 : decode cL_step 207 = .ok (.iconst 0, 1) := by decide +kernel
theorem dL_step_208 : decode cL_step 208 = .ok (.ireturn, 1) := by decide +kernel
theorem dL_step_209 : decode cL_step 209 = .ok (.iload 5, 2) := by decide +kernel
theorem dL_step_211 : decode cL_step 211 = .ok (.bipush 8, 2) := by decide +kernel
theorem dL_step_213 : decode cL_step 213 = .ok (.if_icmp .ne 72, 3) := by decide +kernel
theorem dL_step_216 : decode cL_step 216 = .ok (.aload_n 0, 1) := by decide +kernel
theorem dL_step_217 : decode cL_step 217 = .ok (.iload 6, 2) := by decide +kernel
theorem dL_step_219 : decode cL_step 219 = .ok (.bipush 64, 2) := by decide +kernel
theorem dL_step_221 : decode cL_step 221 = .ok (.idiv, 1) := by decide +kernel
theorem dL_step_222 : decode cL_step 222 = .ok (.iload 4, 2) := by decide +kernel
theorem dL_step_224 : decode cL_step 224 = .ok (.irem, 1) := by decide +kernel
theorem dL_step_225 : decode cL_step 225 = .ok (.invokestatic 66, 3) := by decide +kernel
theorem dL_step_228 : decode cL_step 228 = .ok (.istore 8, 2) := by decide +kernel
theorem dL_step_230 : decode cL_step 230 = .ok (.aload_n 0, 1) := by decide +kernel
theorem dL_step_231 : decode cL_step 231 = .ok (.iconst 3, 1) := by decide +kernel
theorem dL_step_232 : decode cL_step 232 = .ok (.iload 7, 2) := by decide +kernel
theorem dL_step_234 : decode cL_step 234 = .ok (.iload 8, 2) := by decide +kernel
theorem dL_step_236 : decode cL_step 236 = .ok (.invokestatic 62, 3) := by decide +kernel
theorem dL_step_239 : decode cL_step 239 = .ok (.istore 9, 2) := by decide +kernel
theorem dL_step_241 : decode cL_step 241 = .ok (.aload_n 1, 1) := by decide +kernel
theorem dL_step_242 : decode cL_step 242 = .ok (.iconst 3, 1) := by decide +kernel
theorem dL_step_243 : decode cL_step 243 = .ok (.aload_n 2, 1) := by decide +kernel
theorem dL_step_244 : decode cL_step 244 = .ok (.iload 7, 2) := by decide +kernel
theorem dL_step_246 : decode cL_step 246 = .ok (.iaload, 1) := by decide +kernel
theorem dL_step_247 : decode cL_step 247 = .ok (.aload_n 2, 1) := by decide +kernel
theorem dL_step_248 : decode cL_step 248 = .ok (.iload 8, 2) := by decide +kernel
theorem dL_step_250 : decode cL_step 250 = .ok (.iaload, 1) := by decide +kernel
theorem dL_step_251 : decode cL_step 251 = .ok (.invokestatic 62, 3) := by decide +kernel
theorem dL_step_254 : decode cL_step 254 = .ok (.istore 10, 2) := by decide +kernel
theorem dL_step_256 : decode cL_step 256 = .ok (.iload 9, 2) := by decide +kernel
theorem dL_step_258 : decode cL_step 258 = .ok (.ifCond .ge 7, 3) := by decide +kernel
theorem dL_step_261 : decode cL_step 261 = .ok (.iconst 1, 1) := by decide +kernel
theorem dL_step_262 : decode cL_step 262 = .ok (.goto 4, 3) := by decide +kernel
theorem dL_step_265 : decode cL_step 265 = .ok (.iconst 0, 1) := by decide +kernel
theorem dL_step_266 : decode cL_step 266 = .ok (.iload 10, 2) := by decide +kernel
theorem dL_step_268 : decode cL_step 268 = .ok (.ifCond .ge 7, 3) := by decide +kernel
theorem dL_step_271 : decode cL_step 271 = .ok (.iconst 1, 1) := by decide +kernel
theorem dL_step_272 : decode cL_step 272 = .ok (.goto 4, 3) := by decide +kernel
theorem dL_step_275 : decode cL_step 275 = .ok (.iconst 0, 1) := by decide +kernel
theorem dL_step_276 : decode cL_step 276 = .ok (.if_icmp .ne 7, 3) := by decide +kernel
theorem dL_step_279 : decode cL_step 279 = .ok (.iconst 1, 1) := by decide +kernel
theorem dL_step_280 : decode cL_step 280 = .ok (.goto 4, 3) := by decide +kernel
theorem dL_step_283 : decode cL_step 283 = .ok (.iconst 0, 1) := by decide +kernel
theorem dL_step_284 : decode cL_step 284 = .ok (.ireturn, 1) := by decide +kernel
theorem dL_step_285 : decode cL_step 285 = .ok (.iload 5, 2) := by decide +kernel
theorem dL_step_287 : decode cL_step 287 = .ok (.bipush 9, 2) := by decide +kernel
theorem dL_step_289 : decode cL_step 289 = .ok (.if_icmp .ne 36, 3) := by decide +kernel
theorem dL_step_292 : decode cL_step 292 = .ok (.aload_n 0, 1) := by decide +kernel
theorem dL_step_293 : decode cL_step 293 = .ok (.iconst 4, 1) := by decide +kernel
theorem dL_step_294 : decode cL_step 294 = .ok (.iload 7, 2) := by decide +kernel
theorem dL_step_296 : decode cL_step 296 = .ok (.iload 6, 2) := by decide +kernel
theorem dL_step_298 : decode cL_step 298 = .ok (.iconst 4, 1) := by decide +kernel
theorem dL_step_299 : decode cL_step 299 = .ok (.irem, 1) := by decide +kernel
theorem dL_step_300 : decode cL_step 300 = .ok (.invokestatic 62, 3) := by decide +kernel
theorem dL_step_303 : decode cL_step 303 = .ok (.aload_n 1, 1) := by decide +kernel
theorem dL_step_304 : decode cL_step 304 = .ok (.iconst 4, 1) := by decide +kernel
theorem dL_step_305 : decode cL_step 305 = .ok (.aload_n 2, 1) := by decide +kernel
theorem dL_step_306 : decode cL_step 306 = .ok (.iload 7, 2) := by decide +kernel
theorem dL_step_308 : decode cL_step 308 = .ok (.iaload, 1) := by decide +kernel
theorem dL_step_309 : decode cL_step 309 = .ok (.iload 6, 2) := by decide +kernel
theorem dL_step_311 : decode cL_step 311 = .ok (.iconst 4, 1) := by decide +kernel
theorem dL_step_312 : decode cL_step 312 = .ok (.irem, 1) := by decide +kernel
theorem dL_step_313 : decode cL_step 313 = .ok (.invokestatic 62, 3) := by decide +kernel
theorem dL_step_316 : decode cL_step 316 = .ok (.if_icmp .ne 7, 3) := by decide +kernel
theorem dL_step_319 : decode cL_step 319 = .ok (.iconst 1, 1) := by decide +kernel
theorem dL_step_320 : decode cL_step 320 = .ok (.goto 4, 3) := by decide +kernel
theorem dL_step_323 : decode cL_step 323 = .ok (.iconst 0, 1) := by decide +kernel
theorem dL_step_324 : decode cL_step 324 = .ok (.ireturn, 1) := by decide +kernel
theorem dL_step_325 : decode cL_step 325 = .ok (.aload_n 0, 1) := by decide +kernel
theorem dL_step_326 : decode cL_step 326 = .ok (.invokevirtual 70, 3) := by decide +kernel
theorem dL_step_329 : decode cL_step 329 = .ok (.aload_n 1, 1) := by decide +kernel
theorem dL_step_330 : decode cL_step 330 = .ok (.invokevirtual 70, 3) := by decide +kernel
theorem dL_step_333 : decode cL_step 333 = .ok (.if_icmp .ne 7, 3) := by decide +kernel
theorem dL_step_336 : decode cL_step 336 = .ok (.iconst 1, 1) := by decide +kernel
theorem dL_step_337 : decode cL_step 337 = .ok (.goto 4, 3) := by decide +kernel
theorem dL_step_340 : decode cL_step 340 = .ok (.iconst 0, 1) := by decide +kernel
theorem dL_step_341 : decode cL_step 341 = .ok (.ireturn, 1) := by decide +kernel
set_option maxRecDepth 20000 in
theorem ggL_law_X0_init : GoodIn wsL_law wsX0_init := goodIn_r _ [6, 7, 8, 9, 3, 10, 11, 12, 13, 14, 15, 208, 209, 210, 211, 212, 213, 214, 215] (by decide +kernel) (by decide +kernel)
set_option maxRecDepth 20000 in
theorem gL_law_X0_init : GoodIn wsL_law (wsX0_init) := ggL_law_X0_init
set_option maxRecDepth 20000 in
theorem ggL_law_L_drawn : GoodIn wsL_law wsL_drawn := goodIn_r _ [19, 20, 21] (by decide +kernel) (by decide +kernel)
set_option maxRecDepth 20000 in
theorem gL_law_L_drawn : GoodIn wsL_law (va_wsS RL 74 yL_drawn wsL_drawn) := goodIn_app (goodIn_of _ (by decide +kernel)) ggL_law_L_drawn
set_option maxRecDepth 20000 in
theorem ggL_law_L_passing : GoodIn wsL_law wsL_passing := goodIn_ca (goodIn_ca (goodIn_ca (goodIn_r _ [24, 3, 25, 26, 27, 2, 28, 29, 30, 31, 18, 32, 33, 34, 35, 36, 37, 38, 39, 40, 41, 42, 43, 44, 45, 46, 47, 48, 49, 50, 51, 52, 53, 54, 55, 56, 57, 58, 59, 60, 61, 62, 63, 64, 65, 66, 67, 11, 68, 69, 70, 71, 10, 72, 73, 74, 75, 12, 76, 77, 78, 79, 80, 81, 82, 83, 84, 85, 86, 87, 88, 89, 90, 91, 92, 93, 94, 95, 96, 97, 98, 99, 100, 101, 102, 103, 104, 105, 106, 107, 108, 109, 110, 111, 112, 113, 114, 115, 116, 117, 118, 119, 120, 121, 122, 123, 124, 13, 125, 126, 127, 128, 129, 130, 131, 132, 133, 134, 135, 136, 137, 138, 139, 140, 141, 142, 143, 144, 145, 146, 14, 147, 148, 149, 150, 151, 152, 153, 154, 155, 156, 157, 158, 159, 160, 161, 162, 163, 164, 165, 166, 167, 168, 169, 170, 171, 172, 173, 174, 175, 176, 177, 178, 179, 180, 181, 182, 183, 184, 185, 186, 187, 188, 189, 190, 191, 192, 193, 194, 195, 196, 197, 15, 208, 209, 210, 211, 212, 213, 214, 215] (by decide +kernel) (by decide +kernel)) (goodIn_sub (fun _ h => List.mem_append_left _ (List.mem_append_left _ (List.mem_append_right _ h))) (by decide +kernel))) (goodIn_sub (fun _ h => List.mem_append_left _ (List.mem_append_right _ h)) (by decide +kernel))) (goodIn_sub (fun _ h => List.mem_append_right _ h) (by decide +kernel))
set_option maxRecDepth 20000 in
theorem gL_law_L_passing : GoodIn wsL_law (va_wsS RL 78 yL_passing wsL_passing) := goodIn_app (goodIn_of _ (by decide +kernel)) ggL_law_L_passing
set_option maxRecDepth 20000 in
theorem ggL_law_L_step : GoodIn wsL_law wsL_step := goodIn_ca (goodIn_ca (goodIn_ca (goodIn_r _ [200, 25, 26, 27, 2, 28, 29, 168, 169, 18, 170, 171, 172, 173, 174, 109, 110, 111, 112, 10, 68, 69, 70, 71, 11, 175, 176, 177, 34, 178, 179, 180, 181, 129, 130, 131, 132, 133, 134, 135, 136, 137, 138, 182, 183, 184, 185, 64, 65, 66, 67, 186, 187, 188, 189, 95, 96, 97, 98, 190, 191, 192, 193, 14, 161, 162, 163, 194, 195, 196, 197, 15, 30, 31, 32, 33, 35, 36, 37, 38, 39, 40, 41, 42, 43, 44, 45, 46, 47, 48, 49, 50, 51, 52, 53, 54, 55, 56, 57, 58, 59, 60, 61, 62, 63, 72, 73, 74, 75, 12, 76, 77, 78, 79, 80, 81, 82, 83, 84, 85, 86, 87, 88, 89, 90, 91, 92, 93, 94, 99, 100, 101, 102, 103, 104, 105, 106, 107, 108, 113, 114, 115, 116, 117, 118, 119, 120, 121, 122, 123, 124, 13, 125, 126, 127, 128, 139, 140, 141, 142, 143, 144, 145, 146, 147, 148, 149, 150, 151, 152, 153, 154, 155, 156, 157, 158, 159, 160, 164, 165, 166, 167, 201, 202, 203, 204, 208, 209, 210, 211, 212, 213, 214, 215] (by decide +kernel) (by decide +kernel)) (goodIn_sub (fun _ h => List.mem_append_left _ (List.mem_append_right _ h)) (by decide +kernel))) (goodIn_sub (fun _ h => List.mem_append_left _ (List.mem_append_left _ (List.mem_append_right _ h))) (by decide +kernel))) (goodIn_sub (fun _ h => List.mem_append_right _ h) (by decide +kernel))
set_option maxRecDepth 20000 in
theorem gL_law_L_step : GoodIn wsL_law (va_wsS RL 82 yL_step wsL_step) := goodIn_app (goodIn_of _ (by decide +kernel)) ggL_law_L_step
set_option maxRecDepth 20000 in
theorem ggL_law_L_areAlike : GoodIn wsL_law wsL_areAlike := goodIn_ca (goodIn_r _ [207, 171, 172, 173, 2, 174, 109, 110, 111, 112, 10, 68, 69, 70, 71, 29, 11, 25, 26, 27, 28, 175, 176, 18, 177, 34, 178, 179, 180, 181, 129, 130, 131, 132, 133, 134, 135, 136, 137, 138, 182, 183, 184, 185, 64, 65, 66, 67, 186, 187, 188, 189, 95, 96, 97, 98, 190, 191, 192, 193, 14, 161, 162, 163, 194, 195, 196, 197, 15, 208, 209, 210, 211, 212, 213, 214, 215] (by decide +kernel) (by decide +kernel)) (goodIn_sub (fun _ h => List.mem_append_left _ (List.mem_append_right _ h)) (by decide +kernel))
set_option maxRecDepth 20000 in
theorem gL_law_L_areAlike : GoodIn wsL_law (va_wsS RL 86 yL_areAlike wsL_areAlike) := goodIn_app (goodIn_of _ (by decide +kernel)) ggL_law_L_areAlike
theorem dL_law_0 : decode cL_law 0 = .ok (.new 10, 3) := by decide +kernel
theorem dL_law_3 : decode cL_law 3 = .ok (.dup, 1) := by decide +kernel
theorem dL_law_4 : decode cL_law 4 = .ok (.invokespecial 73, 3) := by decide +kernel
theorem dL_law_7 : decode cL_law 7 = .ok (.astore_n 1, 1) := by decide +kernel
theorem dL_law_8 : decode cL_law 8 = .ok (.new 10, 3) := by decide +kernel
theorem dL_law_11 : decode cL_law 11 = .ok (.dup, 1) := by decide +kernel
theorem dL_law_12 : decode cL_law 12 = .ok (.invokespecial 73, 3) := by decide +kernel
theorem dL_law_15 : decode cL_law 15 = .ok (.astore_n 2, 1) := by decide +kernel
theorem dL_law_16 : decode cL_law 16 = .ok (.bipush 64, 2) := by decide +kernel
theorem dL_law_18 : decode cL_law 18 = .ok (.newarray .int, 2) := by decide +kernel
theorem dL_law_20 : decode cL_law 20 = .ok (.astore_n 3, 1) := by decide +kernel
theorem dL_law_21 : decode cL_law 21 = .ok (.iconst 1, 1) := by decide +kernel
theorem dL_law_22 : decode cL_law 22 = .ok (.istore 4, 2) := by decide +kernel
theorem dL_law_24 : decode cL_law 24 = .ok (.iconst 0, 1) := by decide +kernel
theorem dL_law_25 : decode cL_law 25 = .ok (.istore 5, 2) := by decide +kernel
theorem dL_law_27 : decode cL_law 27 = .ok (.iload 5, 2) := by decide +kernel
theorem dL_law_29 : decode cL_law 29 = .ok (.bipush 60, 2) := by decide +kernel
theorem dL_law_31 : decode cL_law 31 = .ok (.if_icmp .ge 68, 3) := by decide +kernel
theorem dL_law_34 : decode cL_law 34 = .ok (.iload 4, 2) := by decide +kernel
theorem dL_law_36 : decode cL_law 36 = .ok (.ifCond .eq 63, 3) := by decide +kernel
theorem dL_law_39 : decode cL_law 39 = .ok (.aload_n 0, 1) := by decide +kernel
theorem dL_law_40 : decode cL_law 40 = .ok (.iload 5, 2) := by decide +kernel
theorem dL_law_42 : decode cL_law 42 = .ok (.invokestatic 74, 3) := by decide +kernel
theorem dL_law_45 : decode cL_law 45 = .ok (.istore 6, 2) := by decide +kernel
theorem dL_law_47 : decode cL_law 47 = .ok (.iload 5, 2) := by decide +kernel
theorem dL_law_49 : decode cL_law 49 = .ok (.iconst 3, 1) := by decide +kernel
theorem dL_law_50 : decode cL_law 50 = .ok (.irem, 1) := by decide +kernel
theorem dL_law_51 : decode cL_law 51 = .ok (.ifCond .gt 15, 3) := by decide +kernel
theorem dL_law_54 : decode cL_law 54 = .ok (.aload_n 2, 1) := by decide +kernel
theorem dL_law_55 : decode cL_law 55 = .ok (.iload 6, 2) := by decide +kernel
theorem dL_law_57 : decode cL_law 57 = .ok (.bipush 8, 2) := by decide +kernel
theorem dL_law_59 : decode cL_law 59 = .ok (.idiv, 1) := by decide +kernel
theorem dL_law_60 : decode cL_law 60 = .ok (.invokestatic 78, 3) := by decide +kernel
theorem dL_law_63 : decode cL_law 63 = .ok (.ifCond .eq 27, 3) := by decide +kernel
theorem dL_law_66 : decode cL_law 66 = .ok (.aload_n 1, 1) := by decide +kernel
theorem dL_law_67 : decode cL_law 67 = .ok (.aload_n 2, 1) := by decide +kernel
theorem dL_law_68 : decode cL_law 68 = .ok (.aload_n 3, 1) := by decide +kernel
theorem dL_law_69 : decode cL_law 69 = .ok (.iload 6, 2) := by decide +kernel
theorem dL_law_71 : decode cL_law 71 = .ok (.invokestatic 82, 3) := by decide +kernel
theorem dL_law_74 : decode cL_law 74 = .ok (.ifCond .eq 16, 3) := by decide +kernel
theorem dL_law_77 : decode cL_law 77 = .ok (.aload_n 1, 1) := by decide +kernel
theorem dL_law_78 : decode cL_law 78 = .ok (.aload_n 2, 1) := by decide +kernel
theorem dL_law_79 : decode cL_law 79 = .ok (.aload_n 3, 1) := by decide +kernel
theorem dL_law_80 : decode cL_law 80 = .ok (.invokestatic 86, 3) := by decide +kernel
theorem dL_law_83 : decode cL_law 83 = .ok (.ifCond .eq 7, 3) := by decide +kernel
theorem dL_law_86 : decode cL_law 86 = .ok (.iconst 1, 1) := by decide +kernel
theorem dL_law_87 : decode cL_law 87 = .ok (.goto 4, 3) := by decide +kernel
theorem dL_law_90 : decode cL_law 90 = .ok (.iconst 0, 1) := by decide +kernel
theorem dL_law_91 : decode cL_law 91 = .ok (.istore 4, 2) := by decide +kernel
theorem dL_law_93 : decode cL_law 93 = .ok (.iinc 5 1, 3) := by decide +kernel
theorem dL_law_96 : decode cL_law 96 = .ok (.goto (-69), 3) := by decide +kernel
theorem dL_law_99 : decode cL_law 99 = .ok (.iload 4, 2) := by decide +kernel
theorem dL_law_101 : decode cL_law 101 = .ok (.ireturn, 1) := by decide +kernel
abbrev vwCl : List vw_C := [(RX0, TX0, 8)]


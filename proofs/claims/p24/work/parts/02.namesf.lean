theorem goodIn_hd {big a : List Cond} {c : Cond} (i : Nat) (hi : big[i]? = some c) (hg : goodWord c = true) (ha : GoodIn big a) : GoodIn big (c :: a) := by
  intro w h
  rcases List.mem_cons.mp h with h | h
  · subst h
    exact ⟨List.mem_of_getElem? hi, good_of_word hg⟩
  · exact ha w h
theorem dL_isMarked_125 : decode cL_isMarked 125 = .ok (.ireturn, 1) := by decide +kernel
theorem dL_isMarked_126 : decode cL_isMarked 126 = .ok (.iconst 5, 1) := by decide +kernel
theorem dL_isMarked_127 : decode cL_isMarked 127 = .ok (.aload_n 2, 1) := by decide +kernel
theorem dL_isMarked_128 : decode cL_isMarked 128 = .ok (.iconst 5, 1) := by decide +kernel
theorem dL_isMarked_129 : decode cL_isMarked 129 = .ok (.iaload, 1) := by decide +kernel
theorem dL_isMarked_130 : decode cL_isMarked 130 = .ok (.imul, 1) := by decide +kernel
theorem dL_isMarked_131 : decode cL_isMarked 131 = .ok (.istore 16, 2) := by decide +kernel
theorem dL_isMarked_133 : decode cL_isMarked 133 = .ok (.aload_n 1, 1) := by decide +kernel
theorem dL_isMarked_134 : decode cL_isMarked 134 = .ok (.iload 16, 2) := by decide +kernel
theorem dL_isMarked_136 : decode cL_isMarked 136 = .ok (.iload_n 3, 1) := by decide +kernel
theorem dL_isMarked_137 : decode cL_isMarked 137 = .ok (.iastore, 1) := by decide +kernel
theorem dL_isMarked_138 : decode cL_isMarked 138 = .ok (.aload_n 1, 1) := by decide +kernel
theorem dL_isMarked_139 : decode cL_isMarked 139 = .ok (.iload 16, 2) := by decide +kernel
theorem dL_isMarked_141 : decode cL_isMarked 141 = .ok (.iconst 1, 1) := by decide +kernel
theorem dL_isMarked_142 : decode cL_isMarked 142 = .ok (.iadd, 1) := by decide +kernel
theorem dL_isMarked_143 : decode cL_isMarked 143 = .ok (.iload 4, 2) := by decide +kernel
theorem dL_isMarked_145 : decode cL_isMarked 145 = .ok (.iastore, 1) := by decide +kernel
theorem dL_isMarked_146 : decode cL_isMarked 146 = .ok (.aload_n 1, 1) := by decide +kernel
theorem dL_isMarked_147 : decode cL_isMarked 147 = .ok (.iload 16, 2) := by decide +kernel
theorem dL_isMarked_149 : decode cL_isMarked 149 = .ok (.iconst 2, 1) := by decide +kernel
theorem dL_isMarked_150 : decode cL_isMarked 150 = .ok (.iadd, 1) := by decide +kernel
theorem dL_isMarked_151 : decode cL_isMarked 151 = .ok (.iload 5, 2) := by decide +kernel
theorem dL_isMarked_153 : decode cL_isMarked 153 = .ok (.iastore, 1) := by decide +kernel
theorem dL_isMarked_154 : decode cL_isMarked 154 = .ok (.aload_n 1, 1) := by decide +kernel
theorem dL_isMarked_155 : decode cL_isMarked 155 = .ok (.iload 16, 2) := by decide +kernel
theorem dL_isMarked_157 : decode cL_isMarked 157 = .ok (.iconst 3, 1) := by decide +kernel
theorem dL_isMarked_158 : decode cL_isMarked 158 = .ok (.iadd, 1) := by decide +kernel
theorem dL_isMarked_159 : decode cL_isMarked 159 = .ok (.iload 6, 2) := by decide +kernel
theorem dL_isMarked_161 : decode cL_isMarked 161 = .ok (.iastore, 1) := by decide +kernel
theorem dL_isMarked_162 : decode cL_isMarked 162 = .ok (.aload_n 1, 1) := by decide +kernel
theorem dL_isMarked_163 : decode cL_isMarked 163 = .ok (.iload 16, 2) := by decide +kernel
theorem dL_isMarked_165 : decode cL_isMarked 165 = .ok (.iconst 4, 1) := by decide +kernel
theorem dL_isMarked_166 : decode cL_isMarked 166 = .ok (.iadd, 1) := by decide +kernel
theorem dL_isMarked_167 : decode cL_isMarked 167 = .ok (.iload 7, 2) := by decide +kernel
theorem dL_isMarked_169 : decode cL_isMarked 169 = .ok (.iastore, 1) := by decide +kernel
theorem dL_isMarked_170 : decode cL_isMarked 170 = .ok (.aload_n 2, 1) := by decide +kernel
theorem dL_isMarked_171 : decode cL_isMarked 171 = .ok (.iconst 5, 1) := by decide +kernel
theorem dL_isMarked_172 : decode cL_isMarked 172 = .ok (.dup2, 1) := by decide +kernel
theorem dL_isMarked_173 : decode cL_isMarked 173 = .ok (.iaload, 1) := by decide +kernel
theorem dL_isMarked_174 : decode cL_isMarked 174 = .ok (.iconst 1, 1) := by decide +kernel
theorem dL_isMarked_175 : decode cL_isMarked 175 = .ok (.iadd, 1) := by decide +kernel
theorem dL_isMarked_176 : decode cL_isMarked 176 = .ok (.iastore, 1) := by decide +kernel
theorem dL_isMarked_177 : decode cL_isMarked 177 = .ok (.iload 15, 2) := by decide +kernel
theorem dL_isMarked_179 : decode cL_isMarked 179 = .ok (.ifCond .ne 57, 3) := by decide +kernel
theorem dL_isMarked_182 : decode cL_isMarked 182 = .ok (.aload_n 0, 1) := by decide +kernel
theorem dL_isMarked_183 : decode cL_isMarked 183 = .ok (.iload_n 3, 1) := by decide +kernel
theorem dL_isMarked_184 : decode cL_isMarked 184 = .ok (.iload 5, 2) := by decide +kernel
theorem dL_isMarked_186 : decode cL_isMarked 186 = .ok (.invokevirtual 69, 3) := by decide +kernel
theorem dL_isMarked_189 : decode cL_isMarked 189 = .ok (.iload 10, 2) := by decide +kernel
theorem dL_isMarked_191 : decode cL_isMarked 191 = .ok (.iload 8, 2) := by decide +kernel
theorem dL_isMarked_193 : decode cL_isMarked 193 = .ok (.if_icmp .ge 8, 3) := by decide +kernel
theorem dL_isMarked_196 : decode cL_isMarked 196 = .ok (.iload 10, 2) := by decide +kernel
theorem dL_isMarked_198 : decode cL_isMarked 198 = .ok (.goto 5, 3) := by decide +kernel
theorem dL_isMarked_201 : decode cL_isMarked 201 = .ok (.iload 8, 2) := by decide +kernel
theorem dL_isMarked_203 : decode cL_isMarked 203 = .ok (.if_icmp .ne 33, 3) := by decide +kernel
theorem dL_isMarked_206 : decode cL_isMarked 206 = .ok (.aload_n 0, 1) := by decide +kernel
theorem dL_isMarked_207 : decode cL_isMarked 207 = .ok (.iload 5, 2) := by decide +kernel
theorem dL_isMarked_209 : decode cL_isMarked 209 = .ok (.iload_n 3, 1) := by decide +kernel
theorem dL_isMarked_210 : decode cL_isMarked 210 = .ok (.invokevirtual 69, 3) := by decide +kernel
theorem dL_isMarked_213 : decode cL_isMarked 213 = .ok (.iload 11, 2) := by decide +kernel
theorem dL_isMarked_215 : decode cL_isMarked 215 = .ok (.iload 9, 2) := by decide +kernel
theorem dL_isMarked_217 : decode cL_isMarked 217 = .ok (.ineg, 1) := by decide +kernel
theorem dL_isMarked_218 : decode cL_isMarked 218 = .ok (.if_icmp .ge 8, 3) := by decide +kernel
theorem dL_isMarked_221 : decode cL_isMarked 221 = .ok (.iload 11, 2) := by decide +kernel
theorem dL_isMarked_223 : decode cL_isMarked 223 = .ok (.goto 6, 3) := by decide +kernel
theorem dL_isMarked_226 : decode cL_isMarked 226 = .ok (.iload 9, 2) := by decide +kernel
theorem dL_isMarked_228 : decode cL_isMarked 228 = .ok (.ineg, 1) := by decide +kernel
theorem dL_isMarked_229 : decode cL_isMarked 229 = .ok (.if_icmp .ne 7, 3) := by decide +kernel
theorem dL_isMarked_232 : decode cL_isMarked 232 = .ok (.iconst 1, 1) := by decide +kernel
theorem dL_isMarked_233 : decode cL_isMarked 233 = .ok (.goto 4, 3) := by decide +kernel
theorem dL_isMarked_236 : decode cL_isMarked 236 = .ok (.iconst 0, 1) := by decide +kernel
theorem dL_isMarked_237 : decode cL_isMarked 237 = .ok (.ireturn, 1) := by decide +kernel
set_option maxRecDepth 20000 in
theorem ggL_isMeasured_X4_impact : GoodIn wsL_isMeasured wsX4_impact := goodIn_ca (goodIn_r _ [5, 6, 7, 8, 9, 10, 4, 11, 12, 13, 14, 15, 16, 17, 18, 19, 20, 21, 22, 23, 24, 25, 26, 27, 28, 29, 30, 31, 32, 33, 34, 35, 36, 37, 38, 39, 147, 148, 149, 150, 151, 152, 153, 154, 155] (by decide +kernel) (by decide +kernel)) (goodIn_sub (fun _ h => List.mem_cons_of_mem _ (List.mem_append_left _ (List.mem_append_right _ h))) (by decide +kernel))
set_option maxRecDepth 20000 in
theorem gL_isMeasured_X4_impact : GoodIn wsL_isMeasured (wsV RL 76 RX4 yX4_impact wsX4_impact) := goodIn_app (goodIn_of _ (by decide +kernel)) ggL_isMeasured_X4_impact
set_option maxRecDepth 20000 in
theorem ggL_isMeasured_X4_minutes : GoodIn wsL_isMeasured wsX4_minutes := goodIn_r _ [43, 8, 44, 45, 46, 18, 47, 20, 21, 22, 23, 24, 25, 26, 27, 28, 29, 30, 31, 32, 33, 34, 35, 36, 37, 38, 39, 13, 4, 14, 147, 148, 149, 150, 151, 152, 153, 154, 155] (by decide +kernel) (by decide +kernel)
set_option maxRecDepth 20000 in
theorem gL_isMeasured_X4_minutes : GoodIn wsL_isMeasured (wsV RL 98 RX4 yX4_minutes wsX4_minutes) := goodIn_app (goodIn_of _ (by decide +kernel)) ggL_isMeasured_X4_minutes
set_option maxRecDepth 20000 in
theorem ggL_isMeasured_L_add : GoodIn wsL_isMeasured wsL_add := goodIn_ca (goodIn_ca (goodIn_r _ [51, 52, 53, 54, 55, 56, 57, 58, 4, 59, 6, 7, 60, 61, 62, 63, 64, 65, 66, 12, 13, 14, 67, 68, 69, 9, 10, 11, 70, 71, 72, 73, 74, 75, 76, 77, 78, 79, 80, 81, 82, 83, 84, 85, 86, 87, 88, 89, 90, 91, 92, 93, 94, 95, 96, 97, 98, 99, 100, 101, 102, 103, 104, 105, 106, 107, 108, 109, 110, 111, 112, 113, 114, 115, 116, 117, 118, 119, 120, 121, 122, 8, 123, 124, 125, 18, 126, 20, 127, 128, 129, 130, 35, 26, 25, 36, 131, 132, 133, 134, 135, 136, 137, 138, 139, 140, 141, 142, 143, 144, 145, 146, 147, 148, 149, 150, 156, 157, 158, 159, 160, 161, 162, 163, 164, 165, 151, 152, 153, 154, 155, 166, 167, 168] (by decide +kernel) (by decide +kernel)) (goodIn_sub (fun _ h => List.mem_cons_of_mem _ (List.mem_append_left _ (List.mem_append_right _ h))) (by decide +kernel))) (goodIn_sub (fun _ h => List.mem_cons_of_mem _ (List.mem_append_right _ h)) (by decide +kernel))
set_option maxRecDepth 20000 in
theorem gL_isMeasured_L_add : GoodIn wsL_isMeasured (va_wsS RL 126 yL_add wsL_add) := goodIn_app (goodIn_of _ (by decide +kernel)) ggL_isMeasured_L_add
theorem dL_isMeasured_0 : decode cL_isMeasured 0 = .ok (.aload_n 0, 1) := by decide +kernel
theorem dL_isMeasured_1 : decode cL_isMeasured 1 = .ok (.iload_n 2, 1) := by decide +kernel
theorem dL_isMeasured_2 : decode cL_isMeasured 2 = .ok (.invokevirtual 76, 3) := by decide +kernel
theorem dL_isMeasured_5 : decode cL_isMeasured 5 = .ok (.istore 6, 2) := by decide +kernel
theorem dL_isMeasured_7 : decode cL_isMeasured 7 = .ok (.aload_n 0, 1) := by decide +kernel
theorem dL_isMeasured_8 : decode cL_isMeasured 8 = .ok (.iload_n 2, 1) := by decide +kernel
theorem dL_isMeasured_9 : decode cL_isMeasured 9 = .ok (.iconst 1, 1) := by decide +kernel
theorem dL_isMeasured_10 : decode cL_isMeasured 10 = .ok (.iadd, 1) := by decide +kernel
theorem dL_isMeasured_11 : decode cL_isMeasured 11 = .ok (.bipush 6, 2) := by decide +kernel
theorem dL_isMeasured_13 : decode cL_isMeasured 13 = .ok (.irem, 1) := by decide +kernel
theorem dL_isMeasured_14 : decode cL_isMeasured 14 = .ok (.invokevirtual 76, 3) := by decide +kernel
theorem dL_isMeasured_17 : decode cL_isMeasured 17 = .ok (.istore 7, 2) := by decide +kernel
theorem dL_isMeasured_19 : decode cL_isMeasured 19 = .ok (.aload_n 0, 1) := by decide +kernel
theorem dL_isMeasured_20 : decode cL_isMeasured 20 = .ok (.invokevirtual 98, 3) := by decide +kernel
theorem dL_isMeasured_23 : decode cL_isMeasured 23 = .ok (.istore 8, 2) := by decide +kernel
theorem dL_isMeasured_25 : decode cL_isMeasured 25 = .ok (.aload_n 0, 1) := by decide +kernel
theorem dL_isMeasured_26 : decode cL_isMeasured 26 = .ok (.iconst 1, 1) := by decide +kernel
theorem dL_isMeasured_27 : decode cL_isMeasured 27 = .ok (.iload_n 2, 1) := by decide +kernel
theorem dL_isMeasured_28 : decode cL_isMeasured 28 = .ok (.iload_n 3, 1) := by decide +kernel
theorem dL_isMeasured_29 : decode cL_isMeasured 29 = .ok (.iload 4, 2) := by decide +kernel
theorem dL_isMeasured_31 : decode cL_isMeasured 31 = .ok (.iload 5, 2) := by decide +kernel
theorem dL_isMeasured_33 : decode cL_isMeasured 33 = .ok (.invokestatic 126, 3) := by decide +kernel
theorem dL_isMeasured_36 : decode cL_isMeasured 36 = .ok (.istore 9, 2) := by decide +kernel
theorem dL_isMeasured_38 : decode cL_isMeasured 38 = .ok (.aload_n 1, 1) := by decide +kernel
theorem dL_isMeasured_39 : decode cL_isMeasured 39 = .ok (.iconst 1, 1) := by decide +kernel
theorem dL_isMeasured_40 : decode cL_isMeasured 40 = .ok (.dup2, 1) := by decide +kernel
theorem dL_isMeasured_41 : decode cL_isMeasured 41 = .ok (.iaload, 1) := by decide +kernel
theorem dL_isMeasured_42 : decode cL_isMeasured 42 = .ok (.iconst 1, 1) := by decide +kernel
theorem dL_isMeasured_43 : decode cL_isMeasured 43 = .ok (.iadd, 1) := by decide +kernel
theorem dL_isMeasured_44 : decode cL_isMeasured 44 = .ok (.iastore, 1) := by decide +kernel
theorem dL_isMeasured_45 : decode cL_isMeasured 45 = .ok (.aload_n 0, 1) := by decide +kernel
theorem dL_isMeasured_46 : decode cL_isMeasured 46 = .ok (.iload_n 2, 1) := by decide +kernel
theorem dL_isMeasured_47 : decode cL_isMeasured 47 = .ok (.invokevirtual 76, 3) := by decide +kernel
theorem dL_isMeasured_50 : decode cL_isMeasured 50 = .ok (.istore 10, 2) := by decide +kernel
theorem dL_isMeasured_52 : decode cL_isMeasured 52 = .ok (.iload 9, 2) := by decide +kernel
theorem dL_isMeasured_54 : decode cL_isMeasured 54 = .ok (.aload_n 1, 1) := by decide +kernel
theorem dL_isMeasured_55 : decode cL_isMeasured 55 = .ok (.iconst 1, 1) := by decide +kernel
theorem dL_isMeasured_56 : decode cL_isMeasured 56 = .ok (.iaload, 1) := by decide +kernel
theorem dL_isMeasured_57 : decode cL_isMeasured 57 = .ok (.iconst 1, 1) := by decide +kernel
theorem dL_isMeasured_58 : decode cL_isMeasured 58 = .ok (.isub, 1) := by decide +kernel
theorem dL_isMeasured_59 : decode cL_isMeasured 59 = .ok (.if_icmp .ne 116, 3) := by decide +kernel
theorem dL_isMeasured_62 : decode cL_isMeasured 62 = .ok (.iload 10, 2) := by decide +kernel
theorem dL_isMeasured_64 : decode cL_isMeasured 64 = .ok (.iload 6, 2) := by decide +kernel
theorem dL_isMeasured_66 : decode cL_isMeasured 66 = .ok (.if_icmp .lt 109, 3) := by decide +kernel
theorem dL_isMeasured_69 : decode cL_isMeasured 69 = .ok (.iload 10, 2) := by decide +kernel
theorem dL_isMeasured_71 : decode cL_isMeasured 71 = .ok (.iload 6, 2) := by decide +kernel
theorem dL_isMeasured_73 : decode cL_isMeasured 73 = .ok (.iload 5, 2) := by decide +kernel
theorem dL_isMeasured_75 : decode cL_isMeasured 75 = .ok (.iload 4, 2) := by decide +kernel
theorem dL_isMeasured_77 : decode cL_isMeasured 77 = .ok (.iload_n 3, 1) := by decide +kernel
theorem dL_isMeasured_78 : decode cL_isMeasured 78 = .ok (.isub, 1) := by decide +kernel
theorem dL_isMeasured_79 : decode cL_isMeasured 79 = .ok (.iconst 1, 1) := by decide +kernel
theorem dL_isMeasured_80 : decode cL_isMeasured 80 = .ok (.iadd, 1) := by decide +kernel
theorem dL_isMeasured_81 : decode cL_isMeasured 81 = .ok (.imul, 1) := by decide +kernel
theorem dL_isMeasured_82 : decode cL_isMeasured 82 = .ok (.iadd, 1) := by decide +kernel
theorem dL_isMeasured_83 : decode cL_isMeasured 83 = .ok (.if_icmp .gt 92, 3) := by decide +kernel
theorem dL_isMeasured_86 : decode cL_isMeasured 86 = .ok (.iload 10, 2) := by decide +kernel
theorem dL_isMeasured_88 : decode cL_isMeasured 88 = .ok (.iload 5, 2) := by decide +kernel
theorem dL_isMeasured_90 : decode cL_isMeasured 90 = .ok (.iload 4, 2) := by decide +kernel
theorem dL_isMeasured_92 : decode cL_isMeasured 92 = .ok (.iload_n 3, 1) := by decide +kernel
theorem dL_isMeasured_93 : decode cL_isMeasured 93 = .ok (.isub, 1) := by decide +kernel
theorem dL_isMeasured_94 : decode cL_isMeasured 94 = .ok (.iconst 1, 1) := by decide +kernel
theorem dL_isMeasured_95 : decode cL_isMeasured 95 = .ok (.iadd, 1) := by decide +kernel
theorem dL_isMeasured_96 : decode cL_isMeasured 96 = .ok (.imul, 1) := by decide +kernel
theorem dL_isMeasured_97 : decode cL_isMeasured 97 = .ok (.if_icmp .lt 78, 3) := by decide +kernel
theorem dL_isMeasured_100 : decode cL_isMeasured 100 = .ok (.aload_n 0, 1) := by decide +kernel
theorem dL_isMeasured_101 : decode cL_isMeasured 101 = .ok (.iload_n 2, 1) := by decide +kernel
theorem dL_isMeasured_102 : decode cL_isMeasured 102 = .ok (.iconst 1, 1) := by decide +kernel
theorem dL_isMeasured_103 : decode cL_isMeasured 103 = .ok (.iadd, 1) := by decide +kernel
theorem dL_isMeasured_104 : decode cL_isMeasured 104 = .ok (.bipush 6, 2) := by decide +kernel
theorem dL_isMeasured_106 : decode cL_isMeasured 106 = .ok (.irem, 1) := by decide +kernel
theorem dL_isMeasured_107 : decode cL_isMeasured 107 = .ok (.invokevirtual 76, 3) := by decide +kernel
theorem dL_isMeasured_110 : decode cL_isMeasured 110 = .ok (.iload 7, 2) := by decide +kernel
theorem dL_isMeasured_112 : decode cL_isMeasured 112 = .ok (.if_icmp .ne 63, 3) := by decide +kernel
theorem dL_isMeasured_115 : decode cL_isMeasured 115 = .ok (.aload_n 0, 1) := by decide +kernel
theorem dL_isMeasured_116 : decode cL_isMeasured 116 = .ok (.invokevirtual 98, 3) := by decide +kernel
theorem dL_isMeasured_119 : decode cL_isMeasured 119 = .ok (.iload 8, 2) := by decide +kernel
theorem dL_isMeasured_121 : decode cL_isMeasured 121 = .ok (.if_icmp .lt 54, 3) := by decide +kernel
theorem dL_isMeasured_124 : decode cL_isMeasured 124 = .ok (.aload_n 0, 1) := by decide +kernel
theorem dL_isMeasured_125 : decode cL_isMeasured 125 = .ok (.invokevirtual 98, 3) := by decide +kernel
theorem dL_isMeasured_128 : decode cL_isMeasured 128 = .ok (.iload 8, 2) := by decide +kernel
theorem dL_isMeasured_130 : decode cL_isMeasured 130 = .ok (.iload 5, 2) := by decide +kernel
theorem dL_isMeasured_132 : decode cL_isMeasured 132 = .ok (.ifCond .le 12, 3) := by decide +kernel
theorem dL_isMeasured_135 : decode cL_isMeasured 135 = .ok (.iload 4, 2) := by decide +kernel
theorem dL_isMeasured_137 : decode cL_isMeasured 137 = .ok (.iload_n 3, 1) := by decide +kernel
theorem dL_isMeasured_138 : decode cL_isMeasured 138 = .ok (.isub, 1) := by decide +kernel
theorem dL_isMeasured_139 : decode cL_isMeasured 139 = .ok (.iconst 1, 1) := by decide +kernel
theorem dL_isMeasured_140 : decode cL_isMeasured 140 = .ok (.iadd, 1) := by decide +kernel
theorem dL_isMeasured_141 : decode cL_isMeasured 141 = .ok (.goto 4, 3) := by decide +kernel
theorem dL_isMeasured_144 : decode cL_isMeasured 144 = .ok (.iconst 0, 1) := by decide +kernel
theorem dL_isMeasured_145 : decode cL_isMeasured 145 = .ok (.iadd, 1) := by decide +kernel
theorem dL_isMeasured_146 : decode cL_isMeasured 146 = .ok (.if_icmp .gt 29, 3) := by decide +kernel
theorem dL_isMeasured_149 : decode cL_isMeasured 149 = .ok (.aload_n 0, 1) := by decide +kernel
theorem dL_isMeasured_150 : decode cL_isMeasured 150 = .ok (.invokevirtual 98, 3) := by decide +kernel
theorem dL_isMeasured_153 : decode cL_isMeasured 153 = .ok (.iload 5, 2) := by decide +kernel
theorem dL_isMeasured_155 : decode cL_isMeasured 155 = .ok (.ifCond .le 12, 3) := by decide +kernel
theorem dL_isMeasured_158 : decode cL_isMeasured 158 = .ok (.iload 4, 2) := by decide +kernel
theorem dL_isMeasured_160 : decode cL_isMeasured 160 = .ok (.iload_n 3, 1) := by decide +kernel
theorem dL_isMeasured_161 : decode cL_isMeasured 161 = .ok (.isub, 1) := by decide +kernel
theorem dL_isMeasured_162 : decode cL_isMeasured 162 = .ok (.iconst 1, 1) := by decide +kernel
theorem dL_isMeasured_163 : decode cL_isMeasured 163 = .ok (.iadd, 1) := by decide +kernel
theorem dL_isMeasured_164 : decode cL_isMeasured 164 = .ok (.goto 4, 3) := by decide +kernel
theorem dL_isMeasured_167 : decode cL_isMeasured 167 = .ok (.iconst 0, 1) := by decide +kernel
theorem dL_isMeasured_168 : decode cL_isMeasured 168 = .ok (.if_icmp .lt 7, 3) := by decide +kernel
theorem dL_isMeasured_171 : decode cL_isMeasured 171 = .ok (.iconst 1, 1) := by decide +kernel
theorem dL_isMeasured_172 : decode cL_isMeasured 172 = .ok (.goto 4, 3) := by decide +kernel
theorem dL_isMeasured_175 : decode cL_isMeasured 175 = .ok (.iconst 0, 1) := by decide +kernel
theorem dL_isMeasured_176 : decode cL_isMeasured 176 = .ok (.ireturn, 1) := by decide +kernel
set_option maxRecDepth 20000 in
theorem ggL_isReasoned_L_act : GoodIn wsL_isReasoned wsL_act := goodIn_ca (goodIn_ca (goodIn_ca (goodIn_r _ [5, 6, 7, 8, 9, 10, 1, 11, 12, 13, 14, 15, 16, 17, 18, 19, 20, 21, 22, 23, 24, 25, 26, 27, 28, 29, 30, 31, 32, 33, 34, 35, 36, 37, 38, 39, 40, 41, 42, 43, 44, 45, 46, 47, 48, 49, 50, 51, 52, 53, 54, 55, 56, 57, 58, 59, 60, 61, 62, 63, 64, 65, 66, 67, 68, 69, 70, 71, 72, 73, 74, 75, 76, 77, 78, 79, 80, 81, 82, 83, 84, 85, 86, 87, 88, 89, 90, 91, 92, 93, 94, 95, 96, 97, 98, 99, 100, 101, 102, 103, 104, 105, 106, 107, 108, 109, 110, 111, 112, 113, 114, 115, 116, 117, 118, 119, 120, 121, 122, 123, 124, 125, 126, 127, 128, 129, 130, 131, 132, 133, 134, 135, 136, 137, 138, 139, 140, 141, 142, 143, 144, 145, 146, 147, 148, 149, 150, 151, 152, 153, 154, 155, 156, 157, 158, 159, 160, 161, 162, 163, 164, 165, 166, 167, 168, 169, 170, 171, 172, 173, 174, 175, 176, 177, 178, 179, 180, 181, 182, 183, 184, 185, 186, 187, 188, 189, 190, 191, 192, 193, 194, 195, 196, 197, 198, 199, 200, 201, 202, 203, 204, 205, 206, 207, 208, 209, 210, 211, 212, 213, 214, 215, 216, 217, 218, 219, 220, 221, 222, 223, 224, 225, 226, 227, 228, 229, 230, 231, 232] (by decide +kernel) (by decide +kernel)) (goodIn_sub (fun _ h => List.mem_cons_of_mem _ (List.mem_append_left _ (List.mem_append_left _ (List.mem_append_right _ h)))) (by decide +kernel))) (goodIn_sub (fun _ h => List.mem_cons_of_mem _ (List.mem_append_left _ (List.mem_append_right _ h))) (by decide +kernel))) (goodIn_sub (fun _ h => List.mem_cons_of_mem _ (List.mem_append_right _ h)) (by decide +kernel))
set_option maxRecDepth 20000 in
theorem gL_isReasoned_L_act : GoodIn wsL_isReasoned (va_wsS RL 112 yL_act wsL_act) := goodIn_app (goodIn_of _ (by decide +kernel)) ggL_isReasoned_L_act
theorem dL_isReasoned_0 : decode cL_isReasoned 0 = .ok (.iconst 1, 1) := by decide +kernel
theorem dL_isReasoned_1 : decode cL_isReasoned 1 = .ok (.iload 4, 2) := by decide +kernel
theorem dL_isReasoned_3 : decode cL_isReasoned 3 = .ok (.ishl, 1) := by decide +kernel
theorem dL_isReasoned_4 : decode cL_isReasoned 4 = .ok (.istore 6, 2) := by decide +kernel
theorem dL_isReasoned_6 : decode cL_isReasoned 6 = .ok (.iconst 0, 1) := by decide +kernel
theorem dL_isReasoned_7 : decode cL_isReasoned 7 = .ok (.istore 7, 2) := by decide +kernel
theorem dL_isReasoned_9 : decode cL_isReasoned 9 = .ok (.iload 7, 2) := by decide +kernel
theorem dL_isReasoned_11 : decode cL_isReasoned 11 = .ok (.bipush 8, 2) := by decide +kernel
theorem dL_isReasoned_13 : decode cL_isReasoned 13 = .ok (.if_icmp .ge 62, 3) := by decide +kernel
theorem dL_isReasoned_16 : decode cL_isReasoned 16 = .ok (.iconst 0, 1) := by decide +kernel
theorem dL_isReasoned_17 : decode cL_isReasoned 17 = .ok (.istore 8, 2) := by decide +kernel
theorem dL_isReasoned_19 : decode cL_isReasoned 19 = .ok (.iload 8, 2) := by decide +kernel
theorem dL_isReasoned_21 : decode cL_isReasoned 21 = .ok (.bipush 64, 2) := by decide +kernel
theorem dL_isReasoned_23 : decode cL_isReasoned 23 = .ok (.if_icmp .ge 46, 3) := by decide +kernel
theorem dL_isReasoned_26 : decode cL_isReasoned 26 = .ok (.iload 6, 2) := by decide +kernel
theorem dL_isReasoned_28 : decode cL_isReasoned 28 = .ok (.iload 6, 2) := by decide +kernel
theorem dL_isReasoned_30 : decode cL_isReasoned 30 = .ok (.iload 8, 2) := by decide +kernel
theorem dL_isReasoned_32 : decode cL_isReasoned 32 = .ok (.bipush 8, 2) := by decide +kernel
theorem dL_isReasoned_34 : decode cL_isReasoned 34 = .ok (.idiv, 1) := by decide +kernel
theorem dL_isReasoned_35 : decode cL_isReasoned 35 = .ok (.ishr, 1) := by decide +kernel
theorem dL_isReasoned_36 : decode cL_isReasoned 36 = .ok (.iconst 1, 1) := by decide +kernel
theorem dL_isReasoned_37 : decode cL_isReasoned 37 = .ok (.iand, 1) := by decide +kernel
theorem dL_isReasoned_38 : decode cL_isReasoned 38 = .ok (.iconst 1, 1) := by decide +kernel
theorem dL_isReasoned_39 : decode cL_isReasoned 39 = .ok (.if_icmp .ne 20, 3) := by decide +kernel
theorem dL_isReasoned_42 : decode cL_isReasoned 42 = .ok (.aload_n 1, 1) := by decide +kernel
theorem dL_isReasoned_43 : decode cL_isReasoned 43 = .ok (.iload 8, 2) := by decide +kernel
theorem dL_isReasoned_45 : decode cL_isReasoned 45 = .ok (.iaload, 1) := by decide +kernel
theorem dL_isReasoned_46 : decode cL_isReasoned 46 = .ok (.ifCond .le 13, 3) := by decide +kernel
theorem dL_isReasoned_49 : decode cL_isReasoned 49 = .ok (.iconst 1, 1) := by decide +kernel
theorem dL_isReasoned_50 : decode cL_isReasoned 50 = .ok (.iload 8, 2) := by decide +kernel
theorem dL_isReasoned_52 : decode cL_isReasoned 52 = .ok (.bipush 8, 2) := by decide +kernel
theorem dL_isReasoned_54 : decode cL_isReasoned 54 = .ok (.irem, 1) := by decide +kernel
theorem dL_isReasoned_55 : decode cL_isReasoned 55 = .ok (.ishl, 1) := by decide +kernel
theorem dL_isReasoned_56 : decode cL_isReasoned 56 = .ok (.goto 4, 3) := by decide +kernel
theorem dL_isReasoned_59 : decode cL_isReasoned 59 = .ok (.iconst 0, 1) := by decide +kernel
theorem dL_isReasoned_60 : decode cL_isReasoned 60 = .ok (.ior, 1) := by decide +kernel
theorem dL_isReasoned_61 : decode cL_isReasoned 61 = .ok (.istore 6, 2) := by decide +kernel
theorem dL_isReasoned_63 : decode cL_isReasoned 63 = .ok (.iinc 8 1, 3) := by decide +kernel
theorem dL_isReasoned_66 : decode cL_isReasoned 66 = .ok (.goto (-47), 3) := by decide +kernel
theorem dL_isReasoned_69 : decode cL_isReasoned 69 = .ok (.iinc 7 1, 3) := by decide +kernel
theorem dL_isReasoned_72 : decode cL_isReasoned 72 = .ok (.goto (-63), 3) := by decide +kernel
theorem dL_isReasoned_75 : decode cL_isReasoned 75 = .ok (.iload 5, 2) := by decide +kernel
theorem dL_isReasoned_77 : decode cL_isReasoned 77 = .ok (.ifCond .le 17, 3) := by decide +kernel
theorem dL_isReasoned_80 : decode cL_isReasoned 80 = .ok (.iload 6, 2) := by decide +kernel
theorem dL_isReasoned_82 : decode cL_isReasoned 82 = .ok (.iload_n 3, 1) := by decide +kernel
theorem dL_isReasoned_83 : decode cL_isReasoned 83 = .ok (.ishr, 1) := by decide +kernel
theorem dL_isReasoned_84 : decode cL_isReasoned 84 = .ok (.iconst 1, 1) := by decide +kernel
theorem dL_isReasoned_85 : decode cL_isReasoned 85 = .ok (.iand, 1) := by decide +kernel
theorem dL_isReasoned_86 : decode cL_isReasoned 86 = .ok (.iconst 1, 1) := by decide +kernel
theorem dL_isReasoned_87 : decode cL_isReasoned 87 = .ok (.if_icmp .ne 7, 3) := by decide +kernel
theorem dL_isReasoned_90 : decode cL_isReasoned 90 = .ok (.iconst 1, 1) := by decide +kernel
theorem dL_isReasoned_91 : decode cL_isReasoned 91 = .ok (.goto 4, 3) := by decide +kernel
theorem dL_isReasoned_94 : decode cL_isReasoned 94 = .ok (.iconst 0, 1) := by decide +kernel
theorem dL_isReasoned_95 : decode cL_isReasoned 95 = .ok (.istore 7, 2) := by decide +kernel
theorem dL_isReasoned_97 : decode cL_isReasoned 97 = .ok (.aload_n 1, 1) := by decide +kernel
theorem dL_isReasoned_98 : decode cL_isReasoned 98 = .ok (.bipush 8, 2) := by decide +kernel
theorem dL_isReasoned_100 : decode cL_isReasoned 100 = .ok (.iload_n 3, 1) := by decide +kernel
theorem dL_isReasoned_101 : decode cL_isReasoned 101 = .ok (.imul, 1) := by decide +kernel
theorem dL_isReasoned_102 : decode cL_isReasoned 102 = .ok (.iload 4, 2) := by decide +kernel
theorem dL_isReasoned_104 : decode cL_isReasoned 104 = .ok (.iadd, 1) := by decide +kernel
theorem dL_isReasoned_105 : decode cL_isReasoned 105 = .ok (.iaload, 1) := by decide +kernel
theorem dL_isReasoned_106 : decode cL_isReasoned 106 = .ok (.istore 8, 2) := by decide +kernel
theorem dL_isReasoned_108 : decode cL_isReasoned 108 = .ok (.aload_n 0, 1) := by decide +kernel
theorem dL_isReasoned_109 : decode cL_isReasoned 109 = .ok (.iconst 1, 1) := by decide +kernel
theorem dL_isReasoned_110 : decode cL_isReasoned 110 = .ok (.iload_n 3, 1) := by decide +kernel
theorem dL_isReasoned_111 : decode cL_isReasoned 111 = .ok (.iload 4, 2) := by decide +kernel
theorem dL_isReasoned_113 : decode cL_isReasoned 113 = .ok (.iload 5, 2) := by decide +kernel
theorem dL_isReasoned_115 : decode cL_isReasoned 115 = .ok (.invokestatic 112, 3) := by decide +kernel
theorem dL_isReasoned_118 : decode cL_isReasoned 118 = .ok (.istore 9, 2) := by decide +kernel
theorem dL_isReasoned_120 : decode cL_isReasoned 120 = .ok (.aload_n 1, 1) := by decide +kernel
theorem dL_isReasoned_121 : decode cL_isReasoned 121 = .ok (.bipush 8, 2) := by decide +kernel
theorem dL_isReasoned_123 : decode cL_isReasoned 123 = .ok (.iload_n 3, 1) := by decide +kernel
theorem dL_isReasoned_124 : decode cL_isReasoned 124 = .ok (.imul, 1) := by decide +kernel
theorem dL_isReasoned_125 : decode cL_isReasoned 125 = .ok (.iload 4, 2) := by decide +kernel
theorem dL_isReasoned_127 : decode cL_isReasoned 127 = .ok (.iadd, 1) := by decide +kernel
theorem dL_isReasoned_128 : decode cL_isReasoned 128 = .ok (.iload 7, 2) := by decide +kernel
theorem dL_isReasoned_130 : decode cL_isReasoned 130 = .ok (.ifCond .eq 8, 3) := by decide +kernel
theorem dL_isReasoned_133 : decode cL_isReasoned 133 = .ok (.iload 8, 2) := by decide +kernel
theorem dL_isReasoned_135 : decode cL_isReasoned 135 = .ok (.goto 5, 3) := by decide +kernel
theorem dL_isReasoned_138 : decode cL_isReasoned 138 = .ok (.iload 5, 2) := by decide +kernel
theorem dL_isReasoned_140 : decode cL_isReasoned 140 = .ok (.iastore, 1) := by decide +kernel
theorem dL_isReasoned_141 : decode cL_isReasoned 141 = .ok (.iload 9, 2) := by decide +kernel
theorem dL_isReasoned_143 : decode cL_isReasoned 143 = .ok (.iload 7, 2) := by decide +kernel
theorem dL_isReasoned_145 : decode cL_isReasoned 145 = .ok (.ifCond .eq 8, 3) := by decide +kernel
theorem dL_isReasoned_148 : decode cL_isReasoned 148 = .ok (.ldc 20, 2) := by decide +kernel
theorem dL_isReasoned_150 : decode cL_isReasoned 150 = .ok (.goto 5, 3) := by decide +kernel
theorem dL_isReasoned_153 : decode cL_isReasoned 153 = .ok (.iload 8, 2) := by decide +kernel
theorem dL_isReasoned_155 : decode cL_isReasoned 155 = .ok (.if_icmp .ne 7, 3) := by decide +kernel
theorem dL_isReasoned_158 : decode cL_isReasoned 158 = .ok (.iconst 1, 1) := by decide +kernel
theorem dL_isReasoned_159 : decode cL_isReasoned 159 = .ok (.goto 4, 3) := by decide +kernel
theorem dL_isReasoned_162 : decode cL_isReasoned 162 = .ok (.iconst 0, 1) := by decide +kernel
theorem dL_isReasoned_163 : decode cL_isReasoned 163 = .ok (.ireturn, 1) := by decide +kernel
set_option maxRecDepth 20000 in
theorem ggL_law_X4_init : GoodIn wsL_law wsX4_init := goodIn_r _ [6, 7, 8, 9, 10, 11, 12, 13, 14, 15, 16, 17, 18, 19, 20, 21, 22, 23, 24, 25, 26, 27, 28, 29, 30, 3, 31, 32, 33, 34, 35, 36, 37, 38, 39, 40, 41, 42, 43, 44, 45, 46, 47, 48, 49, 50, 51, 52, 53, 54, 55, 56, 57, 58, 59, 60, 61, 401, 397, 398, 399, 400, 402, 403, 404, 405, 406, 407, 408, 409, 410, 411, 412, 413, 414, 415, 416, 417, 418] (by decide +kernel) (by decide +kernel)
set_option maxRecDepth 20000 in
theorem gL_law_X4_init : GoodIn wsL_law (wsX4_init) := ggL_law_X4_init
set_option maxRecDepth 20000 in
theorem ggL_law_L_isRefused : GoodIn wsL_law wsL_isRefused := goodIn_ca (goodIn_ca (goodIn_ca (goodIn_hd 65 rfl (by decide +kernel) (goodIn_r _ [66, 67, 68, 69, 70, 71, 64, 72, 73, 74, 75, 76, 77, 78, 79, 80, 81, 82, 2, 83, 17, 84, 85, 86, 16, 87, 46, 88, 89, 90, 91, 92, 93, 94, 95, 96, 97, 98, 99, 43, 100, 101, 102, 103, 104, 105, 106, 107, 40, 41, 108, 109, 110, 111, 21, 112, 113, 114, 20, 115, 54, 116, 117, 118, 119, 52, 51, 120, 121, 122, 123, 124, 125, 126, 127, 50, 53, 128, 129, 130, 131, 132, 133, 134, 135, 136, 137, 138, 139, 140, 141, 142, 143, 144, 145, 146, 147, 148, 149, 150, 13, 151, 152, 153, 154, 155, 156, 12, 157, 32, 31, 158, 159, 160, 161, 162, 163, 164, 165, 166, 167, 168, 169, 170, 171, 172, 173, 174, 175, 176, 177, 25, 178, 179, 180, 24, 181, 61, 182, 183, 184, 185, 60, 186, 187, 188, 189, 190, 191, 192, 193, 194, 195, 196, 197, 198, 199, 200, 201, 202, 59, 203, 204, 205, 206, 207, 208, 209, 210, 211, 212, 213, 214, 215, 216, 217, 218, 219, 220, 221, 222, 223, 224, 225, 226, 227, 228, 229, 230, 231, 232, 233, 234, 235, 236, 237, 238, 239, 42, 240, 241, 242, 243, 244, 245, 246, 247, 36, 248, 37, 249, 250, 251, 252, 253, 254, 255, 256, 257, 258, 259, 260, 261, 262, 263, 264, 265, 266, 267, 268, 269, 270, 271, 272, 273, 274, 275, 276, 277, 278, 279, 280, 281, 282, 283, 284, 285, 286, 287, 288, 289, 290, 291, 292, 293, 294, 295, 296, 297, 298, 299, 300, 301, 302, 303, 304, 305, 306, 307, 308, 309, 310, 311, 312, 313, 314, 315, 316, 317, 318, 38, 319, 320, 321, 322, 323, 324, 325, 326, 327, 328, 329, 330, 331, 332, 333, 334, 335, 336, 337, 338, 339, 340, 341, 342, 343, 344, 345, 346, 347, 348, 349, 350, 351, 352, 353, 354, 355, 356, 357, 358, 359, 360, 361, 362, 363, 364, 45, 365, 366, 367, 368, 397, 398, 399, 400, 402, 403, 404, 405, 406, 407, 408, 409, 410, 411, 412, 413, 414, 415, 401, 416, 417, 418] (by decide +kernel) (by decide +kernel))) (goodIn_sub (fun _ h => List.mem_append_left _ (List.mem_append_left _ (List.mem_append_right _ h))) (by decide +kernel))) (goodIn_sub (fun _ h => List.mem_append_left _ (List.mem_append_right _ h)) (by decide +kernel))) (goodIn_sub (fun _ h => List.mem_append_right _ h) (by decide +kernel))
set_option maxRecDepth 20000 in
theorem gL_law_L_isRefused : GoodIn wsL_law (va_wsS RL 133 yL_isRefused wsL_isRefused) := goodIn_app (goodIn_of _ (by decide +kernel)) ggL_law_L_isRefused
set_option maxRecDepth 20000 in
theorem ggL_law_L_orders : GoodIn wsL_law wsL_orders := goodIn_ca (goodIn_r _ [356, 216, 68, 357, 358, 359, 2, 360, 221, 222, 17, 84, 85, 86, 16, 87, 46, 361, 362, 363, 364, 45, 189, 190, 365, 366, 367, 368, 42, 397, 398, 399, 400, 402, 403, 404, 405, 406, 407, 408, 409, 410] (by decide +kernel) (by decide +kernel)) (goodIn_sub (fun _ h => List.mem_append_right _ h) (by decide +kernel))
set_option maxRecDepth 20000 in
theorem gL_law_L_orders : GoodIn wsL_law (va_wsS RL 129 yL_orders wsL_orders) := goodIn_app (goodIn_of _ (by decide +kernel)) ggL_law_L_orders
set_option maxRecDepth 20000 in
theorem ggL_law_L_dice : GoodIn wsL_law wsL_dice := goodIn_r _ [371, 372, 373] (by decide +kernel) (by decide +kernel)
set_option maxRecDepth 20000 in
theorem gL_law_L_dice : GoodIn wsL_law (va_wsS RL 137 yL_dice wsL_dice) := goodIn_app (goodIn_of _ (by decide +kernel)) ggL_law_L_dice
set_option maxRecDepth 20000 in
theorem ggL_law_L_isMarked : GoodIn wsL_law wsL_isMarked := goodIn_ca (goodIn_ca (goodIn_ca (goodIn_hd 376 rfl (by decide +kernel) (goodIn_r _ [377, 69, 147, 148, 149, 2, 150, 137, 138, 13, 151, 152, 153, 142, 131, 132, 154, 155, 156, 12, 157, 32, 31, 70, 71, 64, 72, 73, 74, 75, 76, 77, 78, 79, 80, 81, 82, 83, 17, 84, 85, 86, 16, 87, 46, 88, 89, 90, 91, 92, 93, 94, 95, 96, 97, 98, 99, 43, 100, 101, 102, 103, 104, 105, 106, 107, 40, 41, 108, 109, 110, 111, 21, 112, 113, 114, 20, 115, 54, 116, 117, 118, 119, 52, 51, 120, 121, 122, 123, 124, 125, 126, 127, 50, 53, 128, 129, 130, 133, 134, 135, 136, 139, 140, 141, 143, 144, 145, 146, 158, 159, 160, 161, 162, 163, 164, 165, 166, 167, 168, 169, 170, 171, 172, 173, 174, 175, 176, 177, 25, 178, 179, 180, 24, 181, 61, 182, 183, 184, 185, 60, 186, 187, 188, 189, 190, 191, 192, 193, 194, 195, 196, 197, 198, 199, 200, 201, 202, 59, 203, 204, 205, 206, 207, 208, 209, 210, 211, 212, 213, 214, 215, 216, 66, 217, 218, 219, 220, 221, 222, 223, 224, 225, 226, 227, 228, 229, 230, 231, 232, 233, 234, 235, 236, 237, 238, 239, 42, 240, 241, 242, 243, 244, 245, 246, 247, 36, 248, 37, 249, 250, 251, 252, 253, 397, 398, 399, 400, 401, 402, 403, 404, 405, 406, 407, 408, 409, 410, 411, 412, 413, 414, 415, 416, 417, 418] (by decide +kernel) (by decide +kernel))) (goodIn_sub (fun _ h => List.mem_append_left _ (List.mem_append_left _ (List.mem_append_right _ h))) (by decide +kernel))) (goodIn_sub (fun _ h => List.mem_append_left _ (List.mem_append_right _ h)) (by decide +kernel))) (goodIn_sub (fun _ h => List.mem_append_right _ h) (by decide +kernel))
set_option maxRecDepth 20000 in
theorem gL_law_L_isMarked : GoodIn wsL_law (va_wsS RL 141 yL_isMarked wsL_isMarked) := goodIn_app (goodIn_of _ (by decide +kernel)) ggL_law_L_isMarked
set_option maxRecDepth 20000 in
theorem ggL_law_L_add : GoodIn wsL_law wsL_add := goodIn_ca (goodIn_ca (goodIn_r _ [321, 215, 216, 66, 69, 322, 323, 324, 2, 325, 137, 138, 221, 222, 17, 13, 151, 152, 153, 142, 131, 132, 223, 224, 225, 139, 140, 141, 84, 85, 86, 16, 87, 46, 326, 327, 328, 329, 36, 37, 38, 40, 236, 237, 238, 239, 42, 43, 240, 241, 242, 243, 244, 245, 246, 247, 248, 100, 101, 102, 103, 249, 155, 156, 12, 157, 32, 31, 189, 190, 250, 251, 252, 253, 186, 187, 188, 330, 331, 332, 333, 21, 334, 335, 336, 20, 337, 54, 338, 339, 340, 341, 50, 51, 52, 53, 342, 343, 344, 345, 25, 346, 347, 348, 24, 349, 61, 350, 351, 352, 353, 60, 397, 398, 399, 400, 402, 403, 404, 405, 406, 407, 408, 409, 410, 401, 411, 412, 413, 414, 415, 416, 417, 418] (by decide +kernel) (by decide +kernel)) (goodIn_sub (fun _ h => List.mem_append_left _ (List.mem_append_left _ (List.mem_append_right _ h))) (by decide +kernel))) (goodIn_sub (fun _ h => List.mem_append_right _ h) (by decide +kernel))
set_option maxRecDepth 20000 in
theorem gL_law_L_add : GoodIn wsL_law (va_wsS RL 126 yL_add wsL_add) := goodIn_app (goodIn_of _ (by decide +kernel)) ggL_law_L_add
set_option maxRecDepth 20000 in
theorem ggL_law_L_act : GoodIn wsL_law wsL_act := goodIn_ca (goodIn_ca (goodIn_ca (goodIn_r _ [256, 257, 215, 216, 67, 66, 69, 258, 259, 260, 2, 261, 162, 163, 137, 138, 17, 164, 101, 102, 16, 103, 46, 142, 131, 132, 262, 263, 264, 265, 41, 100, 266, 267, 268, 269, 221, 222, 25, 178, 179, 180, 24, 181, 61, 270, 271, 272, 273, 189, 190, 191, 192, 193, 194, 186, 187, 188, 195, 196, 197, 198, 199, 200, 201, 202, 59, 203, 274, 275, 276, 277, 278, 279, 280, 281, 282, 283, 284, 285, 60, 286, 287, 288, 289, 290, 291, 292, 293, 42, 158, 159, 160, 161, 165, 97, 98, 99, 43, 166, 167, 168, 169, 170, 171, 172, 173, 294, 295, 296, 297, 298, 299, 300, 301, 96, 104, 105, 106, 107, 40, 302, 303, 304, 305, 13, 306, 307, 308, 309, 310, 36, 248, 37, 249, 155, 156, 12, 157, 32, 31, 152, 153, 174, 175, 176, 177, 182, 183, 184, 185, 204, 205, 206, 207, 208, 209, 210, 211, 147, 148, 149, 150, 151, 154, 311, 312, 313, 314, 139, 140, 141, 315, 316, 317, 318, 38, 133, 134, 135, 136, 21, 143, 144, 145, 20, 146, 54, 116, 117, 118, 119, 52, 51, 120, 121, 122, 123, 124, 125, 126, 127, 50, 53, 128, 129, 130, 397, 398, 399, 400, 402, 403, 404, 405, 406, 407, 408, 409, 410, 416, 417, 418, 401, 411, 412, 413, 414, 415] (by decide +kernel) (by decide +kernel)) (goodIn_sub (fun _ h => List.mem_append_left _ (List.mem_append_right _ h)) (by decide +kernel))) (goodIn_sub (fun _ h => List.mem_append_left _ (List.mem_append_left _ (List.mem_append_right _ h))) (by decide +kernel))) (goodIn_sub (fun _ h => List.mem_append_right _ h) (by decide +kernel))
set_option maxRecDepth 20000 in
theorem gL_law_L_act : GoodIn wsL_law (va_wsS RL 112 yL_act wsL_act) := goodIn_app (goodIn_of _ (by decide +kernel)) ggL_law_L_act
set_option maxRecDepth 20000 in
theorem ggL_law_L_isMeasured : GoodIn wsL_law wsL_isMeasured := goodIn_ca (goodIn_ca (goodIn_hd 380 rfl (by decide +kernel) (goodIn_r _ [133, 134, 135, 2, 136, 137, 138, 21, 139, 140, 141, 142, 131, 132, 143, 144, 145, 20, 146, 54, 116, 117, 118, 119, 52, 51, 120, 121, 122, 123, 124, 125, 126, 127, 50, 53, 128, 129, 130, 108, 109, 110, 111, 112, 113, 114, 115, 319, 320, 64, 321, 215, 216, 66, 69, 322, 323, 324, 325, 221, 222, 17, 13, 151, 152, 153, 223, 224, 225, 84, 85, 86, 16, 87, 46, 326, 327, 328, 329, 36, 37, 38, 40, 236, 237, 238, 239, 42, 43, 240, 241, 242, 243, 244, 245, 246, 247, 248, 100, 101, 102, 103, 249, 155, 156, 12, 157, 32, 31, 189, 190, 250, 251, 252, 253, 186, 187, 188, 330, 331, 332, 333, 334, 335, 336, 337, 338, 339, 340, 341, 342, 343, 344, 345, 25, 346, 347, 348, 24, 349, 61, 350, 351, 352, 353, 60, 397, 398, 399, 400, 411, 412, 413, 414, 415, 402, 403, 404, 405, 406, 407, 408, 409, 410, 401, 416, 417, 418] (by decide +kernel) (by decide +kernel))) (goodIn_sub (fun _ h => List.mem_append_left _ (List.mem_append_left _ (List.mem_append_right _ h))) (by decide +kernel))) (goodIn_sub (fun _ h => List.mem_append_right _ h) (by decide +kernel))
set_option maxRecDepth 20000 in
theorem gL_law_L_isMeasured : GoodIn wsL_law (va_wsS RL 145 yL_isMeasured wsL_isMeasured) := goodIn_app (goodIn_of _ (by decide +kernel)) ggL_law_L_isMeasured
set_option maxRecDepth 20000 in
theorem ggL_law_L_isReasoned : GoodIn wsL_law wsL_isReasoned := goodIn_ca (goodIn_ca (goodIn_ca (goodIn_hd 383 rfl (by decide +kernel) (goodIn_r _ [69, 254, 255, 64, 256, 257, 215, 216, 67, 66, 258, 259, 260, 2, 261, 162, 163, 137, 138, 17, 164, 101, 102, 16, 103, 46, 142, 131, 132, 262, 263, 264, 265, 41, 100, 266, 267, 268, 269, 221, 222, 25, 178, 179, 180, 24, 181, 61, 270, 271, 272, 273, 189, 190, 191, 192, 193, 194, 186, 187, 188, 195, 196, 197, 198, 199, 200, 201, 202, 59, 203, 274, 275, 276, 277, 278, 279, 280, 281, 282, 283, 284, 285, 60, 286, 287, 288, 289, 290, 291, 292, 293, 42, 158, 159, 160, 161, 165, 97, 98, 99, 43, 166, 167, 168, 169, 170, 171, 172, 173, 294, 295, 296, 297, 298, 299, 300, 301, 96, 104, 105, 106, 107, 40, 302, 303, 304, 305, 13, 306, 307, 308, 309, 310, 36, 248, 37, 249, 155, 156, 12, 157, 32, 31, 152, 153, 174, 175, 176, 177, 182, 183, 184, 185, 204, 205, 206, 207, 208, 209, 210, 211, 147, 148, 149, 150, 151, 154, 311, 312, 313, 314, 139, 140, 141, 315, 316, 317, 318, 38, 133, 134, 135, 136, 21, 143, 144, 145, 20, 146, 54, 116, 117, 118, 119, 52, 51, 120, 121, 122, 123, 124, 125, 126, 127, 50, 53, 128, 129, 130, 397, 398, 399, 400, 402, 403, 404, 405, 406, 407, 408, 409, 410, 416, 417, 418, 401, 411, 412, 413, 414, 415] (by decide +kernel) (by decide +kernel))) (goodIn_sub (fun _ h => List.mem_append_left _ (List.mem_append_right _ h)) (by decide +kernel))) (goodIn_sub (fun _ h => List.mem_append_left _ (List.mem_append_left _ (List.mem_append_right _ h))) (by decide +kernel))) (goodIn_sub (fun _ h => List.mem_append_right _ h) (by decide +kernel))
set_option maxRecDepth 20000 in
theorem gL_law_L_isReasoned : GoodIn wsL_law (va_wsS RL 149 yL_isReasoned wsL_isReasoned) := goodIn_app (goodIn_of _ (by decide +kernel)) ggL_law_L_isReasoned
set_option maxRecDepth 20000 in
theorem ggL_law_L_areClocks : GoodIn wsL_law wsL_areClocks := goodIn_ca (goodIn_hd 386 rfl (by decide +kernel) (goodIn_r _ [377, 147, 148, 149, 2, 150, 137, 138, 13, 151, 152, 153, 142, 131, 132, 154, 155, 156, 12, 157, 32, 31, 397, 398, 399, 400, 401] (by decide +kernel) (by decide +kernel))) (goodIn_sub (fun _ h => List.mem_append_left _ (List.mem_append_left _ (List.mem_append_right _ h))) (by decide +kernel))
set_option maxRecDepth 20000 in
theorem gL_law_L_areClocks : GoodIn wsL_law (va_wsS RL 153 yL_areClocks wsL_areClocks) := goodIn_app (goodIn_of _ (by decide +kernel)) ggL_law_L_areClocks
set_option maxRecDepth 20000 in
theorem ggL_law_L_areLines : GoodIn wsL_law wsL_areLines := goodIn_ca (goodIn_ca (goodIn_ca (goodIn_hd 389 rfl (by decide +kernel) (goodIn_r _ [67, 80, 81, 82, 2, 83, 17, 84, 85, 86, 16, 87, 46, 254, 255, 64, 256, 257, 215, 216, 66, 69, 258, 259, 260, 261, 162, 163, 137, 138, 164, 101, 102, 103, 142, 131, 132, 262, 263, 264, 265, 41, 100, 266, 267, 268, 269, 221, 222, 25, 178, 179, 180, 24, 181, 61, 270, 271, 272, 273, 189, 190, 191, 192, 193, 194, 186, 187, 188, 195, 196, 197, 198, 199, 200, 201, 202, 59, 203, 274, 275, 276, 277, 278, 279, 280, 281, 282, 283, 284, 285, 60, 286, 287, 288, 289, 290, 291, 292, 293, 42, 158, 159, 160, 161, 165, 97, 98, 99, 43, 166, 167, 168, 169, 170, 171, 172, 173, 294, 295, 296, 297, 298, 299, 300, 301, 96, 104, 105, 106, 107, 40, 302, 303, 304, 305, 13, 306, 307, 308, 309, 310, 36, 248, 37, 249, 155, 156, 12, 157, 32, 31, 152, 153, 174, 175, 176, 177, 182, 183, 184, 185, 204, 205, 206, 207, 208, 209, 210, 211, 147, 148, 149, 150, 151, 154, 311, 312, 313, 314, 139, 140, 141, 315, 316, 317, 318, 38, 133, 134, 135, 136, 21, 143, 144, 145, 20, 146, 54, 116, 117, 118, 119, 52, 51, 120, 121, 122, 123, 124, 125, 126, 127, 50, 53, 128, 129, 130, 88, 89, 90, 91, 92, 93, 94, 95, 397, 398, 399, 400, 402, 403, 404, 405, 406, 407, 408, 409, 410, 416, 417, 418, 401, 411, 412, 413, 414, 415] (by decide +kernel) (by decide +kernel))) (goodIn_sub (fun _ h => List.mem_append_left _ (List.mem_append_right _ h)) (by decide +kernel))) (goodIn_sub (fun _ h => List.mem_append_left _ (List.mem_append_left _ (List.mem_append_right _ h))) (by decide +kernel))) (goodIn_sub (fun _ h => List.mem_append_right _ h) (by decide +kernel))
set_option maxRecDepth 20000 in
theorem gL_law_L_areLines : GoodIn wsL_law (va_wsS RL 156 yL_areLines wsL_areLines) := goodIn_app (goodIn_of _ (by decide +kernel)) ggL_law_L_areLines
set_option maxRecDepth 20000 in
theorem ggL_law_L_areTimes : GoodIn wsL_law wsL_areTimes := goodIn_ca (goodIn_ca (goodIn_hd 392 rfl (by decide +kernel) (goodIn_r _ [377, 393, 147, 148, 149, 2, 150, 137, 138, 13, 151, 152, 153, 142, 131, 132, 154, 155, 156, 12, 157, 32, 31, 286, 287, 288, 289, 162, 163, 17, 164, 101, 102, 16, 103, 46, 290, 291, 292, 293, 42, 100, 186, 187, 188, 189, 190, 302, 303, 304, 305, 306, 307, 308, 309, 310, 36, 248, 37, 249, 397, 398, 399, 400, 401, 402, 403, 404, 405, 406, 407, 408, 409, 410] (by decide +kernel) (by decide +kernel))) (goodIn_sub (fun _ h => List.mem_append_left _ (List.mem_append_left _ (List.mem_append_right _ h))) (by decide +kernel))) (goodIn_sub (fun _ h => List.mem_append_left _ (List.mem_append_right _ h)) (by decide +kernel))
set_option maxRecDepth 20000 in
theorem gL_law_L_areTimes : GoodIn wsL_law (va_wsS RL 160 yL_areTimes wsL_areTimes) := goodIn_app (goodIn_of _ (by decide +kernel)) ggL_law_L_areTimes
set_option maxRecDepth 20000 in
theorem ggL_law_L_areCauses : GoodIn wsL_law wsL_areCauses := goodIn_ca (goodIn_hd 396 rfl (by decide +kernel) (goodIn_r _ [174, 175, 176, 2, 177, 162, 163, 25, 178, 179, 180, 24, 181, 61, 182, 183, 184, 185, 60, 186, 187, 188, 189, 190, 191, 192, 193, 194, 195, 196, 197, 198, 199, 200, 201, 202, 59, 203, 204, 205, 206, 207, 208, 209, 210, 211, 397, 398, 399, 400, 416, 417, 418] (by decide +kernel) (by decide +kernel))) (goodIn_sub (fun _ h => List.mem_append_left _ (List.mem_append_right _ h)) (by decide +kernel))
set_option maxRecDepth 20000 in
theorem gL_law_L_areCauses : GoodIn wsL_law (va_wsS RL 163 yL_areCauses wsL_areCauses) := goodIn_app (goodIn_of _ (by decide +kernel)) ggL_law_L_areCauses
theorem dL_law_0 : decode cL_law 0 = .ok (.new 10, 3) := by decide +kernel
theorem dL_law_3 : decode cL_law 3 = .ok (.dup, 1) := by decide +kernel
theorem dL_law_4 : decode cL_law 4 = .ok (.invokespecial 132, 3) := by decide +kernel
theorem dL_law_7 : decode cL_law 7 = .ok (.astore_n 1, 1) := by decide +kernel
theorem dL_law_8 : decode cL_law 8 = .ok (.bipush 60, 2) := by decide +kernel
theorem dL_law_10 : decode cL_law 10 = .ok (.newarray .int, 2) := by decide +kernel
theorem dL_law_12 : decode cL_law 12 = .ok (.astore_n 2, 1) := by decide +kernel
theorem dL_law_13 : decode cL_law 13 = .ok (.bipush 64, 2) := by decide +kernel
theorem dL_law_15 : decode cL_law 15 = .ok (.newarray .int, 2) := by decide +kernel
theorem dL_law_17 : decode cL_law 17 = .ok (.astore_n 3, 1) := by decide +kernel
theorem dL_law_18 : decode cL_law 18 = .ok (.bipush 60, 2) := by decide +kernel
theorem dL_law_20 : decode cL_law 20 = .ok (.newarray .int, 2) := by decide +kernel
theorem dL_law_22 : decode cL_law 22 = .ok (.astore 4, 2) := by decide +kernel
theorem dL_law_24 : decode cL_law 24 = .ok (.bipush 6, 2) := by decide +kernel
theorem dL_law_26 : decode cL_law 26 = .ok (.newarray .int, 2) := by decide +kernel
theorem dL_law_28 : decode cL_law 28 = .ok (.astore 5, 2) := by decide +kernel
theorem dL_law_30 : decode cL_law 30 = .ok (.aload_n 1, 1) := by decide +kernel
theorem dL_law_31 : decode cL_law 31 = .ok (.aload 5, 2) := by decide +kernel
theorem dL_law_33 : decode cL_law 33 = .ok (.iconst 0, 1) := by decide +kernel
theorem dL_law_34 : decode cL_law 34 = .ok (.invokestatic 133, 3) := by decide +kernel
theorem dL_law_37 : decode cL_law 37 = .ok (.ifCond .eq 26, 3) := by decide +kernel
theorem dL_law_40 : decode cL_law 40 = .ok (.aload_n 1, 1) := by decide +kernel
theorem dL_law_41 : decode cL_law 41 = .ok (.aload 5, 2) := by decide +kernel
theorem dL_law_43 : decode cL_law 43 = .ok (.iconst 1, 1) := by decide +kernel
theorem dL_law_44 : decode cL_law 44 = .ok (.invokestatic 133, 3) := by decide +kernel
theorem dL_law_47 : decode cL_law 47 = .ok (.ifCond .eq 16, 3) := by decide +kernel
theorem dL_law_50 : decode cL_law 50 = .ok (.aload_n 1, 1) := by decide +kernel
theorem dL_law_51 : decode cL_law 51 = .ok (.invokestatic 129, 3) := by decide +kernel
theorem dL_law_54 : decode cL_law 54 = .ok (.lconst 1, 1) := by decide +kernel
theorem dL_law_55 : decode cL_law 55 = .ok (.lcmp, 1) := by decide +kernel
theorem dL_law_56 : decode cL_law 56 = .ok (.ifCond .ne 7, 3) := by decide +kernel
theorem dL_law_59 : decode cL_law 59 = .ok (.iconst 1, 1) := by decide +kernel
theorem dL_law_60 : decode cL_law 60 = .ok (.goto 4, 3) := by decide +kernel
theorem dL_law_63 : decode cL_law 63 = .ok (.iconst 0, 1) := by decide +kernel
theorem dL_law_64 : decode cL_law 64 = .ok (.istore 6, 2) := by decide +kernel
theorem dL_law_66 : decode cL_law 66 = .ok (.iconst 0, 1) := by decide +kernel
theorem dL_law_67 : decode cL_law 67 = .ok (.istore 7, 2) := by decide +kernel
theorem dL_law_69 : decode cL_law 69 = .ok (.iload 7, 2) := by decide +kernel
theorem dL_law_71 : decode cL_law 71 = .ok (.bipush 80, 2) := by decide +kernel
theorem dL_law_73 : decode cL_law 73 = .ok (.if_icmp .ge 850, 3) := by decide +kernel
theorem dL_law_76 : decode cL_law 76 = .ok (.iload 6, 2) := by decide +kernel
theorem dL_law_78 : decode cL_law 78 = .ok (.ifCond .eq 845, 3) := by decide +kernel
theorem dL_law_81 : decode cL_law 81 = .ok (.aload_n 0, 1) := by decide +kernel
theorem dL_law_82 : decode cL_law 82 = .ok (.iload 7, 2) := by decide +kernel
theorem dL_law_84 : decode cL_law 84 = .ok (.invokestatic 137, 3) := by decide +kernel
theorem dL_law_87 : decode cL_law 87 = .ok (.istore 8, 2) := by decide +kernel
theorem dL_law_89 : decode cL_law 89 = .ok (.iload 8, 2) := by decide +kernel
theorem dL_law_91 : decode cL_law 91 = .ok (.bipush 32, 2) := by decide +kernel
theorem dL_law_93 : decode cL_law 93 = .ok (.idiv, 1) := by decide +kernel
theorem dL_law_94 : decode cL_law 94 = .ok (.istore 9, 2) := by decide +kernel
theorem dL_law_96 : decode cL_law 96 = .ok (.iload 8, 2) := by decide +kernel
theorem dL_law_98 : decode cL_law 98 = .ok (.bipush 32, 2) := by decide +kernel
theorem dL_law_100 : decode cL_law 100 = .ok (.irem, 1) := by decide +kernel
theorem dL_law_101 : decode cL_law 101 = .ok (.istore 10, 2) := by decide +kernel
theorem dL_law_103 : decode cL_law 103 = .ok (.iload 9, 2) := by decide +kernel
theorem dL_law_105 : decode cL_law 105 = .ok (.iconst 3, 1) := by decide +kernel
theorem dL_law_106 : decode cL_law 106 = .ok (.irem, 1) := by decide +kernel
theorem dL_law_107 : decode cL_law 107 = .ok (.ifCond .ne 9, 3) := by decide +kernel
theorem dL_law_110 : decode cL_law 110 = .ok (.sipush 10001, 3) := by decide +kernel
theorem dL_law_113 : decode cL_law 113 = .ok (.goto 5, 3) := by decide +kernel
theorem dL_law_116 : decode cL_law 116 = .ok (.bipush 60, 2) := by decide +kernel
theorem dL_law_118 : decode cL_law 118 = .ok (.istore 11, 2) := by decide +kernel
theorem dL_law_120 : decode cL_law 120 = .ok (.iload 10, 2) := by decide +kernel
theorem dL_law_122 : decode cL_law 122 = .ok (.bipush 6, 2) := by decide +kernel
theorem dL_law_124 : decode cL_law 124 = .ok (.if_icmp .ge 90, 3) := by decide +kernel
theorem dL_law_127 : decode cL_law 127 = .ok (.aload 5, 2) := by decide +kernel
theorem dL_law_129 : decode cL_law 129 = .ok (.iconst 5, 1) := by decide +kernel
theorem dL_law_130 : decode cL_law 130 = .ok (.iaload, 1) := by decide +kernel
theorem dL_law_131 : decode cL_law 131 = .ok (.bipush 12, 2) := by decide +kernel
theorem dL_law_133 : decode cL_law 133 = .ok (.if_icmp .ge 81, 3) := by decide +kernel
theorem dL_law_136 : decode cL_law 136 = .ok (.iload 9, 2) := by decide +kernel
theorem dL_law_138 : decode cL_law 138 = .ok (.iconst 5, 1) := by decide +kernel
theorem dL_law_139 : decode cL_law 139 = .ok (.irem, 1) := by decide +kernel
theorem dL_law_140 : decode cL_law 140 = .ok (.istore 12, 2) := by decide +kernel
theorem dL_law_142 : decode cL_law 142 = .ok (.aload_n 1, 1) := by decide +kernel
theorem dL_law_143 : decode cL_law 143 = .ok (.aload 4, 2) := by decide +kernel
theorem dL_law_145 : decode cL_law 145 = .ok (.aload 5, 2) := by decide +kernel
theorem dL_law_147 : decode cL_law 147 = .ok (.iload 12, 2) := by decide +kernel
theorem dL_law_149 : decode cL_law 149 = .ok (.iload 9, 2) := by decide +kernel
theorem dL_law_151 : decode cL_law 151 = .ok (.bipush 20, 2) := by decide +kernel
theorem dL_law_153 : decode cL_law 153 = .ok (.idiv, 1) := by decide +kernel
theorem dL_law_154 : decode cL_law 154 = .ok (.iload 11, 2) := by decide +kernel
theorem dL_law_156 : decode cL_law 156 = .ok (.irem, 1) := by decide +kernel
theorem dL_law_157 : decode cL_law 157 = .ok (.iload 12, 2) := by decide +kernel
theorem dL_law_159 : decode cL_law 159 = .ok (.iconst 1, 1) := by decide +kernel
theorem dL_law_160 : decode cL_law 160 = .ok (.iadd, 1) := by decide +kernel
theorem dL_law_161 : decode cL_law 161 = .ok (.iload 9, 2) := by decide +kernel
theorem dL_law_163 : decode cL_law 163 = .ok (.iconst 5, 1) := by decide +kernel
theorem dL_law_164 : decode cL_law 164 = .ok (.idiv, 1) := by decide +kernel
theorem dL_law_165 : decode cL_law 165 = .ok (.iconst 4, 1) := by decide +kernel
theorem dL_law_166 : decode cL_law 166 = .ok (.irem, 1) := by decide +kernel
theorem dL_law_167 : decode cL_law 167 = .ok (.iadd, 1) := by decide +kernel
theorem dL_law_168 : decode cL_law 168 = .ok (.iconst 5, 1) := by decide +kernel
theorem dL_law_169 : decode cL_law 169 = .ok (.irem, 1) := by decide +kernel
theorem dL_law_170 : decode cL_law 170 = .ok (.iload 9, 2) := by decide +kernel
theorem dL_law_172 : decode cL_law 172 = .ok (.sipush 700, 3) := by decide +kernel
theorem dL_law_175 : decode cL_law 175 = .ok (.idiv, 1) := by decide +kernel
theorem dL_law_176 : decode cL_law 176 = .ok (.iload 11, 2) := by decide +kernel
theorem dL_law_178 : decode cL_law 178 = .ok (.irem, 1) := by decide +kernel
theorem dL_law_179 : decode cL_law 179 = .ok (.iload 9, 2) := by decide +kernel
theorem dL_law_181 : decode cL_law 181 = .ok (.iconst 4, 1) := by decide +kernel
theorem dL_law_182 : decode cL_law 182 = .ok (.irem, 1) := by decide +kernel
theorem dL_law_183 : decode cL_law 183 = .ok (.ifCond .ne 15, 3) := by decide +kernel
theorem dL_law_186 : decode cL_law 186 = .ok (.iload 9, 2) := by decide +kernel
theorem dL_law_188 : decode cL_law 188 = .ok (.bipush 9, 2) := by decide +kernel
theorem dL_law_190 : decode cL_law 190 = .ok (.idiv, 1) := by decide +kernel
theorem dL_law_191 : decode cL_law 191 = .ok (.sipush 1001, 3) := by decide +kernel
theorem dL_law_194 : decode cL_law 194 = .ok (.irem, 1) := by decide +kernel
theorem dL_law_195 : decode cL_law 195 = .ok (.goto 11, 3) := by decide +kernel
theorem dL_law_198 : decode cL_law 198 = .ok (.iload 9, 2) := by decide +kernel
theorem dL_law_200 : decode cL_law 200 = .ok (.bipush 9, 2) := by decide +kernel
theorem dL_law_202 : decode cL_law 202 = .ok (.idiv, 1) := by decide +kernel
theorem dL_law_203 : decode cL_law 203 = .ok (.bipush 30, 2) := by decide +kernel
theorem dL_law_205 : decode cL_law 205 = .ok (.irem, 1) := by decide +kernel
theorem dL_law_206 : decode cL_law 206 = .ok (.invokestatic 141, 3) := by decide +kernel
theorem dL_law_209 : decode cL_law 209 = .ok (.istore 6, 2) := by decide +kernel
theorem dL_law_211 : decode cL_law 211 = .ok (.goto 615, 3) := by decide +kernel
theorem dL_law_214 : decode cL_law 214 = .ok (.iload 10, 2) := by decide +kernel
theorem dL_law_216 : decode cL_law 216 = .ok (.bipush 15, 2) := by decide +kernel
theorem dL_law_218 : decode cL_law 218 = .ok (.if_icmp .ge 176, 3) := by decide +kernel
theorem dL_law_221 : decode cL_law 221 = .ok (.aload 5, 2) := by decide +kernel
theorem dL_law_223 : decode cL_law 223 = .ok (.iconst 0, 1) := by decide +kernel
theorem dL_law_224 : decode cL_law 224 = .ok (.iaload, 1) := by decide +kernel
theorem dL_law_225 : decode cL_law 225 = .ok (.bipush 12, 2) := by decide +kernel
theorem dL_law_227 : decode cL_law 227 = .ok (.if_icmp .ge 167, 3) := by decide +kernel
theorem dL_law_230 : decode cL_law 230 = .ok (.iconst 5, 1) := by decide +kernel
theorem dL_law_231 : decode cL_law 231 = .ok (.aload 5, 2) := by decide +kernel
theorem dL_law_233 : decode cL_law 233 = .ok (.iconst 0, 1) := by decide +kernel
theorem dL_law_234 : decode cL_law 234 = .ok (.iaload, 1) := by decide +kernel
theorem dL_law_235 : decode cL_law 235 = .ok (.imul, 1) := by decide +kernel
theorem dL_law_236 : decode cL_law 236 = .ok (.istore 12, 2) := by decide +kernel
theorem dL_law_238 : decode cL_law 238 = .ok (.aload_n 1, 1) := by decide +kernel
theorem dL_law_239 : decode cL_law 239 = .ok (.invokestatic 129, 3) := by decide +kernel
theorem dL_law_242 : decode cL_law 242 = .ok (.lstore 13, 2) := by decide +kernel
theorem dL_law_244 : decode cL_law 244 = .ok (.aload_n 2, 1) := by decide +kernel
theorem dL_law_245 : decode cL_law 245 = .ok (.iload 12, 2) := by decide +kernel
theorem dL_law_247 : decode cL_law 247 = .ok (.iload 9, 2) := by decide +kernel
theorem dL_law_249 : decode cL_law 249 = .ok (.bipush 7, 2) := by decide +kernel
theorem dL_law_251 : decode cL_law 251 = .ok (.irem, 1) := by decide +kernel
theorem dL_law_252 : decode cL_law 252 = .ok (.iconst 4, 1) := by decide +kernel
theorem dL_law_253 : decode cL_law 253 = .ok (.if_icmp .le 7, 3) := by decide +kernel
theorem dL_law_256 : decode cL_law 256 = .ok (.iconst 0, 1) := by decide +kernel
theorem dL_law_257 : decode cL_law 257 = .ok (.goto 8, 3) := by decide +kernel
theorem dL_law_260 : decode cL_law 260 = .ok (.iload 9, 2) := by decide +kernel
theorem dL_law_262 : decode cL_law 262 = .ok (.bipush 7, 2) := by decide +kernel
theorem dL_law_264 : decode cL_law 264 = .ok (.irem, 1) := by decide +kernel
theorem dL_law_265 : decode cL_law 265 = .ok (.iastore, 1) := by decide +kernel
theorem dL_law_266 : decode cL_law 266 = .ok (.aload_n 2, 1) := by decide +kernel
theorem dL_law_267 : decode cL_law 267 = .ok (.iload 12, 2) := by decide +kernel
theorem dL_law_269 : decode cL_law 269 = .ok (.iconst 1, 1) := by decide +kernel
theorem dL_law_270 : decode cL_law 270 = .ok (.iadd, 1) := by decide +kernel
theorem dL_law_271 : decode cL_law 271 = .ok (.iload 9, 2) := by decide +kernel
theorem dL_law_273 : decode cL_law 273 = .ok (.bipush 7, 2) := by decide +kernel
theorem dL_law_275 : decode cL_law 275 = .ok (.idiv, 1) := by decide +kernel
theorem dL_law_276 : decode cL_law 276 = .ok (.iload 11, 2) := by decide +kernel
theorem dL_law_278 : decode cL_law 278 = .ok (.irem, 1) := by decide +kernel
theorem dL_law_279 : decode cL_law 279 = .ok (.iastore, 1) := by decide +kernel
theorem dL_law_280 : decode cL_law 280 = .ok (.aload_n 2, 1) := by decide +kernel
theorem dL_law_281 : decode cL_law 281 = .ok (.iload 12, 2) := by decide +kernel
theorem dL_law_283 : decode cL_law 283 = .ok (.iconst 2, 1) := by decide +kernel
theorem dL_law_284 : decode cL_law 284 = .ok (.iadd, 1) := by decide +kernel
theorem dL_law_285 : decode cL_law 285 = .ok (.iload 9, 2) := by decide +kernel
theorem dL_law_287 : decode cL_law 287 = .ok (.bipush 11, 2) := by decide +kernel
theorem dL_law_289 : decode cL_law 289 = .ok (.idiv, 1) := by decide +kernel
theorem dL_law_290 : decode cL_law 290 = .ok (.bipush 6, 2) := by decide +kernel
theorem dL_law_292 : decode cL_law 292 = .ok (.irem, 1) := by decide +kernel
theorem dL_law_293 : decode cL_law 293 = .ok (.iastore, 1) := by decide +kernel
theorem dL_law_294 : decode cL_law 294 = .ok (.aload_n 2, 1) := by decide +kernel
theorem dL_law_295 : decode cL_law 295 = .ok (.iload 12, 2) := by decide +kernel
theorem dL_law_297 : decode cL_law 297 = .ok (.iconst 3, 1) := by decide +kernel
theorem dL_law_298 : decode cL_law 298 = .ok (.iadd, 1) := by decide +kernel
theorem dL_law_299 : decode cL_law 299 = .ok (.iload 9, 2) := by decide +kernel
theorem dL_law_301 : decode cL_law 301 = .ok (.bipush 66, 2) := by decide +kernel
theorem dL_law_303 : decode cL_law 303 = .ok (.idiv, 1) := by decide +kernel
theorem dL_law_304 : decode cL_law 304 = .ok (.iconst 2, 1) := by decide +kernel
theorem dL_law_305 : decode cL_law 305 = .ok (.irem, 1) := by decide +kernel
theorem dL_law_306 : decode cL_law 306 = .ok (.iastore, 1) := by decide +kernel
theorem dL_law_307 : decode cL_law 307 = .ok (.aload 5, 2) := by decide +kernel
theorem dL_law_309 : decode cL_law 309 = .ok (.iconst 0, 1) := by decide +kernel
theorem dL_law_310 : decode cL_law 310 = .ok (.dup2, 1) := by decide +kernel
theorem dL_law_311 : decode cL_law 311 = .ok (.iaload, 1) := by decide +kernel
theorem dL_law_312 : decode cL_law 312 = .ok (.iconst 1, 1) := by decide +kernel
theorem dL_law_313 : decode cL_law 313 = .ok (.iadd, 1) := by decide +kernel
theorem dL_law_314 : decode cL_law 314 = .ok (.iastore, 1) := by decide +kernel
theorem dL_law_315 : decode cL_law 315 = .ok (.aload_n 1, 1) := by decide +kernel
theorem dL_law_316 : decode cL_law 316 = .ok (.iconst 0, 1) := by decide +kernel
theorem dL_law_317 : decode cL_law 317 = .ok (.aload_n 2, 1) := by decide +kernel
theorem dL_law_318 : decode cL_law 318 = .ok (.iload 12, 2) := by decide +kernel
theorem dL_law_320 : decode cL_law 320 = .ok (.iaload, 1) := by decide +kernel
theorem dL_law_321 : decode cL_law 321 = .ok (.aload_n 2, 1) := by decide +kernel
theorem dL_law_322 : decode cL_law 322 = .ok (.iload 12, 2) := by decide +kernel
theorem dL_law_324 : decode cL_law 324 = .ok (.iconst 1, 1) := by decide +kernel
theorem dL_law_325 : decode cL_law 325 = .ok (.iadd, 1) := by decide +kernel
theorem dL_law_326 : decode cL_law 326 = .ok (.iaload, 1) := by decide +kernel
theorem dL_law_327 : decode cL_law 327 = .ok (.aload_n 2, 1) := by decide +kernel
theorem dL_law_328 : decode cL_law 328 = .ok (.iload 12, 2) := by decide +kernel
theorem dL_law_330 : decode cL_law 330 = .ok (.iconst 2, 1) := by decide +kernel
theorem dL_law_331 : decode cL_law 331 = .ok (.iadd, 1) := by decide +kernel
theorem dL_law_332 : decode cL_law 332 = .ok (.iaload, 1) := by decide +kernel
theorem dL_law_333 : decode cL_law 333 = .ok (.aload_n 2, 1) := by decide +kernel
theorem dL_law_334 : decode cL_law 334 = .ok (.iload 12, 2) := by decide +kernel
theorem dL_law_336 : decode cL_law 336 = .ok (.iconst 3, 1) := by decide +kernel
theorem dL_law_337 : decode cL_law 337 = .ok (.iadd, 1) := by decide +kernel
theorem dL_law_338 : decode cL_law 338 = .ok (.iaload, 1) := by decide +kernel
theorem dL_law_339 : decode cL_law 339 = .ok (.invokestatic 126, 3) := by decide +kernel
theorem dL_law_342 : decode cL_law 342 = .ok (.aload 5, 2) := by decide +kernel
theorem dL_law_344 : decode cL_law 344 = .ok (.iconst 0, 1) := by decide +kernel
theorem dL_law_345 : decode cL_law 345 = .ok (.iaload, 1) := by decide +kernel
theorem dL_law_346 : decode cL_law 346 = .ok (.iconst 1, 1) := by decide +kernel
theorem dL_law_347 : decode cL_law 347 = .ok (.isub, 1) := by decide +kernel
theorem dL_law_348 : decode cL_law 348 = .ok (.if_icmp .ne 40, 3) := by decide +kernel
theorem dL_law_351 : decode cL_law 351 = .ok (.iload 7, 2) := by decide +kernel
theorem dL_law_353 : decode cL_law 353 = .ok (.iconst 4, 1) := by decide +kernel
theorem dL_law_354 : decode cL_law 354 = .ok (.irem, 1) := by decide +kernel
theorem dL_law_355 : decode cL_law 355 = .ok (.ifCond .gt 29, 3) := by decide +kernel
theorem dL_law_358 : decode cL_law 358 = .ok (.aload_n 1, 1) := by decide +kernel
theorem dL_law_359 : decode cL_law 359 = .ok (.invokestatic 129, 3) := by decide +kernel
theorem dL_law_362 : decode cL_law 362 = .ok (.lload 13, 2) := by decide +kernel
theorem dL_law_364 : decode cL_law 364 = .ok (.lcmp, 1) := by decide +kernel
theorem dL_law_365 : decode cL_law 365 = .ok (.ifCond .lt 23, 3) := by decide +kernel
theorem dL_law_368 : decode cL_law 368 = .ok (.aload_n 1, 1) := by decide +kernel
theorem dL_law_369 : decode cL_law 369 = .ok (.invokestatic 129, 3) := by decide +kernel
theorem dL_law_372 : decode cL_law 372 = .ok (.lload 13, 2) := by decide +kernel
theorem dL_law_374 : decode cL_law 374 = .ok (.aload 5, 2) := by decide +kernel
theorem dL_law_376 : decode cL_law 376 = .ok (.iconst 0, 1) := by decide +kernel
theorem dL_law_377 : decode cL_law 377 = .ok (.iaload, 1) := by decide +kernel
theorem dL_law_378 : decode cL_law 378 = .ok (.i2l, 1) := by decide +kernel
theorem dL_law_379 : decode cL_law 379 = .ok (.lmul, 1) := by decide +kernel
theorem dL_law_380 : decode cL_law 380 = .ok (.lcmp, 1) := by decide +kernel
theorem dL_law_381 : decode cL_law 381 = .ok (.ifCond .gt 7, 3) := by decide +kernel
theorem dL_law_384 : decode cL_law 384 = .ok (.iconst 1, 1) := by decide +kernel
theorem dL_law_385 : decode cL_law 385 = .ok (.goto 4, 3) := by decide +kernel
theorem dL_law_388 : decode cL_law 388 = .ok (.iconst 0, 1) := by decide +kernel
theorem dL_law_389 : decode cL_law 389 = .ok (.istore 6, 2) := by decide +kernel
theorem dL_law_391 : decode cL_law 391 = .ok (.goto 435, 3) := by decide +kernel
theorem dL_law_394 : decode cL_law 394 = .ok (.iload 10, 2) := by decide +kernel
theorem dL_law_396 : decode cL_law 396 = .ok (.bipush 20, 2) := by decide +kernel
theorem dL_law_398 : decode cL_law 398 = .ok (.if_icmp .ge 100, 3) := by decide +kernel
theorem dL_law_401 : decode cL_law 401 = .ok (.aload 5, 2) := by decide +kernel
theorem dL_law_403 : decode cL_law 403 = .ok (.iconst 0, 1) := by decide +kernel
theorem dL_law_404 : decode cL_law 404 = .ok (.iaload, 1) := by decide +kernel
theorem dL_law_405 : decode cL_law 405 = .ok (.ifCond .le 421, 3) := by decide +kernel
theorem dL_law_408 : decode cL_law 408 = .ok (.iload 9, 2) := by decide +kernel
theorem dL_law_410 : decode cL_law 410 = .ok (.aload 5, 2) := by decide +kernel
theorem dL_law_412 : decode cL_law 412 = .ok (.iconst 0, 1) := by decide +kernel
theorem dL_law_413 : decode cL_law 413 = .ok (.iaload, 1) := by decide +kernel
theorem dL_law_414 : decode cL_law 414 = .ok (.irem, 1) := by decide +kernel
theorem dL_law_415 : decode cL_law 415 = .ok (.istore 12, 2) := by decide +kernel
theorem dL_law_417 : decode cL_law 417 = .ok (.iconst 1, 1) := by decide +kernel
theorem dL_law_418 : decode cL_law 418 = .ok (.iload 9, 2) := by decide +kernel
theorem dL_law_420 : decode cL_law 420 = .ok (.bipush 20, 2) := by decide +kernel
theorem dL_law_422 : decode cL_law 422 = .ok (.idiv, 1) := by decide +kernel
theorem dL_law_423 : decode cL_law 423 = .ok (.bipush 100, 2) := by decide +kernel
theorem dL_law_425 : decode cL_law 425 = .ok (.irem, 1) := by decide +kernel
theorem dL_law_426 : decode cL_law 426 = .ok (.iadd, 1) := by decide +kernel
theorem dL_law_427 : decode cL_law 427 = .ok (.istore 13, 2) := by decide +kernel
theorem dL_law_429 : decode cL_law 429 = .ok (.aload_n 2, 1) := by decide +kernel
theorem dL_law_430 : decode cL_law 430 = .ok (.iconst 5, 1) := by decide +kernel
theorem dL_law_431 : decode cL_law 431 = .ok (.iload 12, 2) := by decide +kernel
theorem dL_law_433 : decode cL_law 433 = .ok (.imul, 1) := by decide +kernel
theorem dL_law_434 : decode cL_law 434 = .ok (.iconst 4, 1) := by decide +kernel
theorem dL_law_435 : decode cL_law 435 = .ok (.iadd, 1) := by decide +kernel
theorem dL_law_436 : decode cL_law 436 = .ok (.dup2, 1) := by decide +kernel
theorem dL_law_437 : decode cL_law 437 = .ok (.iaload, 1) := by decide +kernel
theorem dL_law_438 : decode cL_law 438 = .ok (.iload 9, 2) := by decide +kernel
theorem dL_law_440 : decode cL_law 440 = .ok (.sipush 2000, 3) := by decide +kernel
theorem dL_law_443 : decode cL_law 443 = .ok (.idiv, 1) := by decide +kernel
theorem dL_law_444 : decode cL_law 444 = .ok (.iconst 2, 1) := by decide +kernel
theorem dL_law_445 : decode cL_law 445 = .ok (.irem, 1) := by decide +kernel
theorem dL_law_446 : decode cL_law 446 = .ok (.iconst 1, 1) := by decide +kernel
theorem dL_law_447 : decode cL_law 447 = .ok (.if_icmp .ne 8, 3) := by decide +kernel
theorem dL_law_450 : decode cL_law 450 = .ok (.iload 13, 2) := by decide +kernel
theorem dL_law_452 : decode cL_law 452 = .ok (.goto 6, 3) := by decide +kernel
theorem dL_law_455 : decode cL_law 455 = .ok (.iload 13, 2) := by decide +kernel
theorem dL_law_457 : decode cL_law 457 = .ok (.ineg, 1) := by decide +kernel
theorem dL_law_458 : decode cL_law 458 = .ok (.iadd, 1) := by decide +kernel
theorem dL_law_459 : decode cL_law 459 = .ok (.iastore, 1) := by decide +kernel
theorem dL_law_460 : decode cL_law 460 = .ok (.aload_n 1, 1) := by decide +kernel
theorem dL_law_461 : decode cL_law 461 = .ok (.iconst 0, 1) := by decide +kernel
theorem dL_law_462 : decode cL_law 462 = .ok (.iload 12, 2) := by decide +kernel
theorem dL_law_464 : decode cL_law 464 = .ok (.iload 13, 2) := by decide +kernel
theorem dL_law_466 : decode cL_law 466 = .ok (.iload 9, 2) := by decide +kernel
theorem dL_law_468 : decode cL_law 468 = .ok (.sipush 2000, 3) := by decide +kernel
theorem dL_law_471 : decode cL_law 471 = .ok (.idiv, 1) := by decide +kernel
theorem dL_law_472 : decode cL_law 472 = .ok (.iconst 2, 1) := by decide +kernel
theorem dL_law_473 : decode cL_law 473 = .ok (.irem, 1) := by decide +kernel
theorem dL_law_474 : decode cL_law 474 = .ok (.invokestatic 112, 3) := by decide +kernel
theorem dL_law_477 : decode cL_law 477 = .ok (.aload_n 2, 1) := by decide +kernel
theorem dL_law_478 : decode cL_law 478 = .ok (.iconst 5, 1) := by decide +kernel
theorem dL_law_479 : decode cL_law 479 = .ok (.iload 12, 2) := by decide +kernel
theorem dL_law_481 : decode cL_law 481 = .ok (.imul, 1) := by decide +kernel
theorem dL_law_482 : decode cL_law 482 = .ok (.iconst 4, 1) := by decide +kernel
theorem dL_law_483 : decode cL_law 483 = .ok (.iadd, 1) := by decide +kernel
theorem dL_law_484 : decode cL_law 484 = .ok (.iaload, 1) := by decide +kernel
theorem dL_law_485 : decode cL_law 485 = .ok (.if_icmp .ne 7, 3) := by decide +kernel
theorem dL_law_488 : decode cL_law 488 = .ok (.iconst 1, 1) := by decide +kernel
theorem dL_law_489 : decode cL_law 489 = .ok (.goto 4, 3) := by decide +kernel
theorem dL_law_492 : decode cL_law 492 = .ok (.iconst 0, 1) := by decide +kernel
theorem dL_law_493 : decode cL_law 493 = .ok (.istore 6, 2) := by decide +kernel
theorem dL_law_495 : decode cL_law 495 = .ok (.goto 331, 3) := by decide +kernel
theorem dL_law_498 : decode cL_law 498 = .ok (.iload 10, 2) := by decide +kernel
theorem dL_law_500 : decode cL_law 500 = .ok (.bipush 24, 2) := by decide +kernel
theorem dL_law_502 : decode cL_law 502 = .ok (.if_icmp .ge 88, 3) := by decide +kernel
theorem dL_law_505 : decode cL_law 505 = .ok (.iload 9, 2) := by decide +kernel
theorem dL_law_507 : decode cL_law 507 = .ok (.bipush 6, 2) := by decide +kernel
theorem dL_law_509 : decode cL_law 509 = .ok (.idiv, 1) := by decide +kernel
theorem dL_law_510 : decode cL_law 510 = .ok (.iload 11, 2) := by decide +kernel
theorem dL_law_512 : decode cL_law 512 = .ok (.irem, 1) := by decide +kernel
theorem dL_law_513 : decode cL_law 513 = .ok (.istore 12, 2) := by decide +kernel
theorem dL_law_515 : decode cL_law 515 = .ok (.aload 5, 2) := by decide +kernel
theorem dL_law_517 : decode cL_law 517 = .ok (.iconst 1, 1) := by decide +kernel
theorem dL_law_518 : decode cL_law 518 = .ok (.iaload, 1) := by decide +kernel
theorem dL_law_519 : decode cL_law 519 = .ok (.bipush 40, 2) := by decide +kernel
theorem dL_law_521 : decode cL_law 521 = .ok (.if_icmp .eq 59, 3) := by decide +kernel
theorem dL_law_524 : decode cL_law 524 = .ok (.aload_n 1, 1) := by decide +kernel
theorem dL_law_525 : decode cL_law 525 = .ok (.aload 5, 2) := by decide +kernel
theorem dL_law_527 : decode cL_law 527 = .ok (.iload 9, 2) := by decide +kernel
theorem dL_law_529 : decode cL_law 529 = .ok (.bipush 6, 2) := by decide +kernel
theorem dL_law_531 : decode cL_law 531 = .ok (.irem, 1) := by decide +kernel
theorem dL_law_532 : decode cL_law 532 = .ok (.iload 12, 2) := by decide +kernel
theorem dL_law_534 : decode cL_law 534 = .ok (.iload 12, 2) := by decide +kernel
theorem dL_law_536 : decode cL_law 536 = .ok (.iload 9, 2) := by decide +kernel
theorem dL_law_538 : decode cL_law 538 = .ok (.sipush 900, 3) := by decide +kernel
theorem dL_law_541 : decode cL_law 541 = .ok (.idiv, 1) := by decide +kernel
theorem dL_law_542 : decode cL_law 542 = .ok (.sipush 10001, 3) := by decide +kernel
theorem dL_law_545 : decode cL_law 545 = .ok (.iload 12, 2) := by decide +kernel
theorem dL_law_547 : decode cL_law 547 = .ok (.isub, 1) := by decide +kernel
theorem dL_law_548 : decode cL_law 548 = .ok (.irem, 1) := by decide +kernel
theorem dL_law_549 : decode cL_law 549 = .ok (.iload 9, 2) := by decide +kernel
theorem dL_law_551 : decode cL_law 551 = .ok (.iconst 4, 1) := by decide +kernel
theorem dL_law_552 : decode cL_law 552 = .ok (.irem, 1) := by decide +kernel
theorem dL_law_553 : decode cL_law 553 = .ok (.ifCond .ne 9, 3) := by decide +kernel
theorem dL_law_556 : decode cL_law 556 = .ok (.sipush 10001, 3) := by decide +kernel
theorem dL_law_559 : decode cL_law 559 = .ok (.goto 5, 3) := by decide +kernel
theorem dL_law_562 : decode cL_law 562 = .ok (.bipush 50, 2) := by decide +kernel
theorem dL_law_564 : decode cL_law 564 = .ok (.irem, 1) := by decide +kernel
theorem dL_law_565 : decode cL_law 565 = .ok (.iadd, 1) := by decide +kernel
theorem dL_law_566 : decode cL_law 566 = .ok (.iload 9, 2) := by decide +kernel
theorem dL_law_568 : decode cL_law 568 = .ok (.bipush 31, 2) := by decide +kernel
theorem dL_law_570 : decode cL_law 570 = .ok (.idiv, 1) := by decide +kernel
theorem dL_law_571 : decode cL_law 571 = .ok (.bipush 101, 2) := by decide +kernel
theorem dL_law_573 : decode cL_law 573 = .ok (.irem, 1) := by decide +kernel
theorem dL_law_574 : decode cL_law 574 = .ok (.invokestatic 145, 3) := by decide +kernel
theorem dL_law_577 : decode cL_law 577 = .ok (.ifCond .eq 7, 3) := by decide +kernel
theorem dL_law_580 : decode cL_law 580 = .ok (.iconst 1, 1) := by decide +kernel
theorem dL_law_581 : decode cL_law 581 = .ok (.goto 4, 3) := by decide +kernel
theorem dL_law_584 : decode cL_law 584 = .ok (.iconst 0, 1) := by decide +kernel
theorem dL_law_585 : decode cL_law 585 = .ok (.istore 6, 2) := by decide +kernel
theorem dL_law_587 : decode cL_law 587 = .ok (.goto 239, 3) := by decide +kernel
theorem dL_law_590 : decode cL_law 590 = .ok (.iload 10, 2) := by decide +kernel
theorem dL_law_592 : decode cL_law 592 = .ok (.bipush 26, 2) := by decide +kernel
theorem dL_law_594 : decode cL_law 594 = .ok (.if_icmp .ge 61, 3) := by decide +kernel
theorem dL_law_597 : decode cL_law 597 = .ok (.aload 5, 2) := by decide +kernel
theorem dL_law_599 : decode cL_law 599 = .ok (.iconst 2, 1) := by decide +kernel
theorem dL_law_600 : decode cL_law 600 = .ok (.iaload, 1) := by decide +kernel
theorem dL_law_601 : decode cL_law 601 = .ok (.bipush 8, 2) := by decide +kernel
theorem dL_law_603 : decode cL_law 603 = .ok (.if_icmp .ge 52, 3) := by decide +kernel
theorem dL_law_606 : decode cL_law 606 = .ok (.aload 5, 2) := by decide +kernel
theorem dL_law_608 : decode cL_law 608 = .ok (.iconst 3, 1) := by decide +kernel
theorem dL_law_609 : decode cL_law 609 = .ok (.dup2, 1) := by decide +kernel
theorem dL_law_610 : decode cL_law 610 = .ok (.iaload, 1) := by decide +kernel
theorem dL_law_611 : decode cL_law 611 = .ok (.iconst 1, 1) := by decide +kernel
theorem dL_law_612 : decode cL_law 612 = .ok (.aload 5, 2) := by decide +kernel
theorem dL_law_614 : decode cL_law 614 = .ok (.iconst 2, 1) := by decide +kernel
theorem dL_law_615 : decode cL_law 615 = .ok (.iaload, 1) := by decide +kernel
theorem dL_law_616 : decode cL_law 616 = .ok (.ishl, 1) := by decide +kernel
theorem dL_law_617 : decode cL_law 617 = .ok (.ior, 1) := by decide +kernel
theorem dL_law_618 : decode cL_law 618 = .ok (.iastore, 1) := by decide +kernel
theorem dL_law_619 : decode cL_law 619 = .ok (.aload 5, 2) := by decide +kernel
theorem dL_law_621 : decode cL_law 621 = .ok (.iconst 2, 1) := by decide +kernel
theorem dL_law_622 : decode cL_law 622 = .ok (.dup2, 1) := by decide +kernel
theorem dL_law_623 : decode cL_law 623 = .ok (.iaload, 1) := by decide +kernel
theorem dL_law_624 : decode cL_law 624 = .ok (.iconst 1, 1) := by decide +kernel
theorem dL_law_625 : decode cL_law 625 = .ok (.iadd, 1) := by decide +kernel
theorem dL_law_626 : decode cL_law 626 = .ok (.iastore, 1) := by decide +kernel
theorem dL_law_627 : decode cL_law 627 = .ok (.aload_n 1, 1) := by decide +kernel
theorem dL_law_628 : decode cL_law 628 = .ok (.iconst 2, 1) := by decide +kernel
theorem dL_law_629 : decode cL_law 629 = .ok (.iconst 0, 1) := by decide +kernel
theorem dL_law_630 : decode cL_law 630 = .ok (.iconst 0, 1) := by decide +kernel
theorem dL_law_631 : decode cL_law 631 = .ok (.iconst 0, 1) := by decide +kernel
theorem dL_law_632 : decode cL_law 632 = .ok (.iconst 0, 1) := by decide +kernel
theorem dL_law_633 : decode cL_law 633 = .ok (.invokestatic 126, 3) := by decide +kernel
theorem dL_law_636 : decode cL_law 636 = .ok (.aload 5, 2) := by decide +kernel
theorem dL_law_638 : decode cL_law 638 = .ok (.iconst 2, 1) := by decide +kernel
theorem dL_law_639 : decode cL_law 639 = .ok (.iaload, 1) := by decide +kernel
theorem dL_law_640 : decode cL_law 640 = .ok (.iconst 1, 1) := by decide +kernel
theorem dL_law_641 : decode cL_law 641 = .ok (.isub, 1) := by decide +kernel
theorem dL_law_642 : decode cL_law 642 = .ok (.if_icmp .ne 7, 3) := by decide +kernel
theorem dL_law_645 : decode cL_law 645 = .ok (.iconst 1, 1) := by decide +kernel
theorem dL_law_646 : decode cL_law 646 = .ok (.goto 4, 3) := by decide +kernel
theorem dL_law_649 : decode cL_law 649 = .ok (.iconst 0, 1) := by decide +kernel
theorem dL_law_650 : decode cL_law 650 = .ok (.istore 6, 2) := by decide +kernel
theorem dL_law_652 : decode cL_law 652 = .ok (.goto 174, 3) := by decide +kernel
theorem dL_law_655 : decode cL_law 655 = .ok (.aload 5, 2) := by decide +kernel
theorem dL_law_657 : decode cL_law 657 = .ok (.iconst 2, 1) := by decide +kernel
theorem dL_law_658 : decode cL_law 658 = .ok (.iaload, 1) := by decide +kernel
theorem dL_law_659 : decode cL_law 659 = .ok (.iconst 1, 1) := by decide +kernel
theorem dL_law_660 : decode cL_law 660 = .ok (.if_icmp .le 74, 3) := by decide +kernel
theorem dL_law_663 : decode cL_law 663 = .ok (.iload 10, 2) := by decide +kernel
theorem dL_law_665 : decode cL_law 665 = .ok (.bipush 30, 2) := by decide +kernel
theorem dL_law_667 : decode cL_law 667 = .ok (.if_icmp .ge 67, 3) := by decide +kernel
theorem dL_law_670 : decode cL_law 670 = .ok (.iload 9, 2) := by decide +kernel
theorem dL_law_672 : decode cL_law 672 = .ok (.aload 5, 2) := by decide +kernel
theorem dL_law_674 : decode cL_law 674 = .ok (.iconst 2, 1) := by decide +kernel
theorem dL_law_675 : decode cL_law 675 = .ok (.iaload, 1) := by decide +kernel
theorem dL_law_676 : decode cL_law 676 = .ok (.irem, 1) := by decide +kernel
theorem dL_law_677 : decode cL_law 677 = .ok (.istore 12, 2) := by decide +kernel
theorem dL_law_679 : decode cL_law 679 = .ok (.aload_n 1, 1) := by decide +kernel
theorem dL_law_680 : decode cL_law 680 = .ok (.aload_n 3, 1) := by decide +kernel
theorem dL_law_681 : decode cL_law 681 = .ok (.aload 5, 2) := by decide +kernel
theorem dL_law_683 : decode cL_law 683 = .ok (.iload 12, 2) := by decide +kernel
theorem dL_law_685 : decode cL_law 685 = .ok (.iload 12, 2) := by decide +kernel
theorem dL_law_687 : decode cL_law 687 = .ok (.iconst 1, 1) := by decide +kernel
theorem dL_law_688 : decode cL_law 688 = .ok (.iadd, 1) := by decide +kernel
theorem dL_law_689 : decode cL_law 689 = .ok (.iload 9, 2) := by decide +kernel
theorem dL_law_691 : decode cL_law 691 = .ok (.bipush 8, 2) := by decide +kernel
theorem dL_law_693 : decode cL_law 693 = .ok (.idiv, 1) := by decide +kernel
theorem dL_law_694 : decode cL_law 694 = .ok (.aload 5, 2) := by decide +kernel
theorem dL_law_696 : decode cL_law 696 = .ok (.iconst 2, 1) := by decide +kernel
theorem dL_law_697 : decode cL_law 697 = .ok (.iaload, 1) := by decide +kernel
theorem dL_law_698 : decode cL_law 698 = .ok (.iconst 1, 1) := by decide +kernel
theorem dL_law_699 : decode cL_law 699 = .ok (.isub, 1) := by decide +kernel
theorem dL_law_700 : decode cL_law 700 = .ok (.irem, 1) := by decide +kernel
theorem dL_law_701 : decode cL_law 701 = .ok (.iadd, 1) := by decide +kernel
theorem dL_law_702 : decode cL_law 702 = .ok (.aload 5, 2) := by decide +kernel
theorem dL_law_704 : decode cL_law 704 = .ok (.iconst 2, 1) := by decide +kernel
theorem dL_law_705 : decode cL_law 705 = .ok (.iaload, 1) := by decide +kernel
theorem dL_law_706 : decode cL_law 706 = .ok (.irem, 1) := by decide +kernel
theorem dL_law_707 : decode cL_law 707 = .ok (.iload 9, 2) := by decide +kernel
theorem dL_law_709 : decode cL_law 709 = .ok (.iconst 5, 1) := by decide +kernel
theorem dL_law_710 : decode cL_law 710 = .ok (.irem, 1) := by decide +kernel
theorem dL_law_711 : decode cL_law 711 = .ok (.ifCond .ne 7, 3) := by decide +kernel
theorem dL_law_714 : decode cL_law 714 = .ok (.iconst 0, 1) := by decide +kernel
theorem dL_law_715 : decode cL_law 715 = .ok (.goto 11, 3) := by decide +kernel
theorem dL_law_718 : decode cL_law 718 = .ok (.iload 9, 2) := by decide +kernel
theorem dL_law_720 : decode cL_law 720 = .ok (.bipush 64, 2) := by decide +kernel
theorem dL_law_722 : decode cL_law 722 = .ok (.idiv, 1) := by decide +kernel
theorem dL_law_723 : decode cL_law 723 = .ok (.bipush 101, 2) := by decide +kernel
theorem dL_law_725 : decode cL_law 725 = .ok (.irem, 1) := by decide +kernel
theorem dL_law_726 : decode cL_law 726 = .ok (.invokestatic 149, 3) := by decide +kernel
theorem dL_law_729 : decode cL_law 729 = .ok (.istore 6, 2) := by decide +kernel
theorem dL_law_731 : decode cL_law 731 = .ok (.goto 95, 3) := by decide +kernel
theorem dL_law_734 : decode cL_law 734 = .ok (.aload 5, 2) := by decide +kernel
theorem dL_law_736 : decode cL_law 736 = .ok (.iconst 2, 1) := by decide +kernel
theorem dL_law_737 : decode cL_law 737 = .ok (.iaload, 1) := by decide +kernel
theorem dL_law_738 : decode cL_law 738 = .ok (.ifCond .le 88, 3) := by decide +kernel
theorem dL_law_741 : decode cL_law 741 = .ok (.iload 9, 2) := by decide +kernel
theorem dL_law_743 : decode cL_law 743 = .ok (.aload 5, 2) := by decide +kernel
theorem dL_law_745 : decode cL_law 745 = .ok (.iconst 2, 1) := by decide +kernel
theorem dL_law_746 : decode cL_law 746 = .ok (.iaload, 1) := by decide +kernel
theorem dL_law_747 : decode cL_law 747 = .ok (.irem, 1) := by decide +kernel
theorem dL_law_748 : decode cL_law 748 = .ok (.istore 12, 2) := by decide +kernel
theorem dL_law_750 : decode cL_law 750 = .ok (.aload 5, 2) := by decide +kernel
theorem dL_law_752 : decode cL_law 752 = .ok (.iconst 3, 1) := by decide +kernel
theorem dL_law_753 : decode cL_law 753 = .ok (.iaload, 1) := by decide +kernel
theorem dL_law_754 : decode cL_law 754 = .ok (.iload 12, 2) := by decide +kernel
theorem dL_law_756 : decode cL_law 756 = .ok (.ishr, 1) := by decide +kernel
theorem dL_law_757 : decode cL_law 757 = .ok (.iconst 1, 1) := by decide +kernel
theorem dL_law_758 : decode cL_law 758 = .ok (.iand, 1) := by decide +kernel
theorem dL_law_759 : decode cL_law 759 = .ok (.istore 13, 2) := by decide +kernel
theorem dL_law_761 : decode cL_law 761 = .ok (.aload 5, 2) := by decide +kernel
theorem dL_law_763 : decode cL_law 763 = .ok (.iconst 3, 1) := by decide +kernel
theorem dL_law_764 : decode cL_law 764 = .ok (.iload 9, 2) := by decide +kernel
theorem dL_law_766 : decode cL_law 766 = .ok (.bipush 8, 2) := by decide +kernel
theorem dL_law_768 : decode cL_law 768 = .ok (.idiv, 1) := by decide +kernel
theorem dL_law_769 : decode cL_law 769 = .ok (.iconst 2, 1) := by decide +kernel
theorem dL_law_770 : decode cL_law 770 = .ok (.irem, 1) := by decide +kernel
theorem dL_law_771 : decode cL_law 771 = .ok (.iconst 1, 1) := by decide +kernel
theorem dL_law_772 : decode cL_law 772 = .ok (.if_icmp .ne 15, 3) := by decide +kernel
theorem dL_law_775 : decode cL_law 775 = .ok (.aload 5, 2) := by decide +kernel
theorem dL_law_777 : decode cL_law 777 = .ok (.iconst 3, 1) := by decide +kernel
theorem dL_law_778 : decode cL_law 778 = .ok (.iaload, 1) := by decide +kernel
theorem dL_law_779 : decode cL_law 779 = .ok (.iconst 1, 1) := by decide +kernel
theorem dL_law_780 : decode cL_law 780 = .ok (.iload 12, 2) := by decide +kernel
theorem dL_law_782 : decode cL_law 782 = .ok (.ishl, 1) := by decide +kernel
theorem dL_law_783 : decode cL_law 783 = .ok (.ior, 1) := by decide +kernel
theorem dL_law_784 : decode cL_law 784 = .ok (.goto 14, 3) := by decide +kernel
theorem dL_law_787 : decode cL_law 787 = .ok (.aload 5, 2) := by decide +kernel
theorem dL_law_789 : decode cL_law 789 = .ok (.iconst 3, 1) := by decide +kernel
theorem dL_law_790 : decode cL_law 790 = .ok (.iaload, 1) := by decide +kernel
theorem dL_law_791 : decode cL_law 791 = .ok (.iconst 1, 1) := by decide +kernel
theorem dL_law_792 : decode cL_law 792 = .ok (.iload 12, 2) := by decide +kernel
theorem dL_law_794 : decode cL_law 794 = .ok (.ishl, 1) := by decide +kernel
theorem dL_law_795 : decode cL_law 795 = .ok (.iconst (-1), 1) := by decide +kernel
theorem dL_law_796 : decode cL_law 796 = .ok (.ixor, 1) := by decide +kernel
theorem dL_law_797 : decode cL_law 797 = .ok (.iand, 1) := by decide +kernel
theorem dL_law_798 : decode cL_law 798 = .ok (.iastore, 1) := by decide +kernel
theorem dL_law_799 : decode cL_law 799 = .ok (.aload_n 1, 1) := by decide +kernel
theorem dL_law_800 : decode cL_law 800 = .ok (.iconst 2, 1) := by decide +kernel
theorem dL_law_801 : decode cL_law 801 = .ok (.iload 12, 2) := by decide +kernel
theorem dL_law_803 : decode cL_law 803 = .ok (.iload 9, 2) := by decide +kernel
theorem dL_law_805 : decode cL_law 805 = .ok (.bipush 8, 2) := by decide +kernel
theorem dL_law_807 : decode cL_law 807 = .ok (.idiv, 1) := by decide +kernel
theorem dL_law_808 : decode cL_law 808 = .ok (.iconst 2, 1) := by decide +kernel
theorem dL_law_809 : decode cL_law 809 = .ok (.irem, 1) := by decide +kernel
theorem dL_law_810 : decode cL_law 810 = .ok (.iconst 0, 1) := by decide +kernel
theorem dL_law_811 : decode cL_law 811 = .ok (.invokestatic 112, 3) := by decide +kernel
theorem dL_law_814 : decode cL_law 814 = .ok (.iload 13, 2) := by decide +kernel
theorem dL_law_816 : decode cL_law 816 = .ok (.if_icmp .ne 7, 3) := by decide +kernel
theorem dL_law_819 : decode cL_law 819 = .ok (.iconst 1, 1) := by decide +kernel
theorem dL_law_820 : decode cL_law 820 = .ok (.goto 4, 3) := by decide +kernel
theorem dL_law_823 : decode cL_law 823 = .ok (.iconst 0, 1) := by decide +kernel
theorem dL_law_824 : decode cL_law 824 = .ok (.istore 6, 2) := by decide +kernel
theorem dL_law_826 : decode cL_law 826 = .ok (.iload 6, 2) := by decide +kernel
theorem dL_law_828 : decode cL_law 828 = .ok (.ifCond .eq 86, 3) := by decide +kernel
theorem dL_law_831 : decode cL_law 831 = .ok (.aload_n 1, 1) := by decide +kernel
theorem dL_law_832 : decode cL_law 832 = .ok (.aload 4, 2) := by decide +kernel
theorem dL_law_834 : decode cL_law 834 = .ok (.aload 5, 2) := by decide +kernel
theorem dL_law_836 : decode cL_law 836 = .ok (.iconst 5, 1) := by decide +kernel
theorem dL_law_837 : decode cL_law 837 = .ok (.iaload, 1) := by decide +kernel
theorem dL_law_838 : decode cL_law 838 = .ok (.invokestatic 153, 3) := by decide +kernel
theorem dL_law_841 : decode cL_law 841 = .ok (.ifCond .eq 73, 3) := by decide +kernel
theorem dL_law_844 : decode cL_law 844 = .ok (.aload_n 1, 1) := by decide +kernel
theorem dL_law_845 : decode cL_law 845 = .ok (.aload_n 2, 1) := by decide +kernel
theorem dL_law_846 : decode cL_law 846 = .ok (.aload 5, 2) := by decide +kernel
theorem dL_law_848 : decode cL_law 848 = .ok (.iload 9, 2) := by decide +kernel
theorem dL_law_850 : decode cL_law 850 = .ok (.iconst 3, 1) := by decide +kernel
theorem dL_law_851 : decode cL_law 851 = .ok (.idiv, 1) := by decide +kernel
theorem dL_law_852 : decode cL_law 852 = .ok (.invokestatic 156, 3) := by decide +kernel
theorem dL_law_855 : decode cL_law 855 = .ok (.ifCond .eq 59, 3) := by decide +kernel
theorem dL_law_858 : decode cL_law 858 = .ok (.aload 5, 2) := by decide +kernel
theorem dL_law_860 : decode cL_law 860 = .ok (.iconst 0, 1) := by decide +kernel
theorem dL_law_861 : decode cL_law 861 = .ok (.iaload, 1) := by decide +kernel
theorem dL_law_862 : decode cL_law 862 = .ok (.ifCond .eq 17, 3) := by decide +kernel
theorem dL_law_865 : decode cL_law 865 = .ok (.aload_n 1, 1) := by decide +kernel
theorem dL_law_866 : decode cL_law 866 = .ok (.aload_n 2, 1) := by decide +kernel
theorem dL_law_867 : decode cL_law 867 = .ok (.aload 5, 2) := by decide +kernel
theorem dL_law_869 : decode cL_law 869 = .ok (.iload 9, 2) := by decide +kernel
theorem dL_law_871 : decode cL_law 871 = .ok (.iconst 5, 1) := by decide +kernel
theorem dL_law_872 : decode cL_law 872 = .ok (.idiv, 1) := by decide +kernel
theorem dL_law_873 : decode cL_law 873 = .ok (.invokestatic 160, 3) := by decide +kernel
theorem dL_law_876 : decode cL_law 876 = .ok (.ifCond .eq 38, 3) := by decide +kernel
theorem dL_law_879 : decode cL_law 879 = .ok (.aload_n 1, 1) := by decide +kernel
theorem dL_law_880 : decode cL_law 880 = .ok (.aload_n 3, 1) := by decide +kernel
theorem dL_law_881 : decode cL_law 881 = .ok (.aload 5, 2) := by decide +kernel
theorem dL_law_883 : decode cL_law 883 = .ok (.invokestatic 163, 3) := by decide +kernel
theorem dL_law_886 : decode cL_law 886 = .ok (.ifCond .eq 28, 3) := by decide +kernel
theorem dL_law_889 : decode cL_law 889 = .ok (.iload 7, 2) := by decide +kernel
theorem dL_law_891 : decode cL_law 891 = .ok (.bipush 16, 2) := by decide +kernel
theorem dL_law_893 : decode cL_law 893 = .ok (.irem, 1) := by decide +kernel
theorem dL_law_894 : decode cL_law 894 = .ok (.ifCond .gt 16, 3) := by decide +kernel
theorem dL_law_897 : decode cL_law 897 = .ok (.aload_n 1, 1) := by decide +kernel
theorem dL_law_898 : decode cL_law 898 = .ok (.aload 5, 2) := by decide +kernel
theorem dL_law_900 : decode cL_law 900 = .ok (.iload 8, 2) := by decide +kernel
theorem dL_law_902 : decode cL_law 902 = .ok (.iconst 3, 1) := by decide +kernel
theorem dL_law_903 : decode cL_law 903 = .ok (.idiv, 1) := by decide +kernel
theorem dL_law_904 : decode cL_law 904 = .ok (.invokestatic 133, 3) := by decide +kernel
theorem dL_law_907 : decode cL_law 907 = .ok (.ifCond .eq 7, 3) := by decide +kernel
theorem dL_law_910 : decode cL_law 910 = .ok (.iconst 1, 1) := by decide +kernel
theorem dL_law_911 : decode cL_law 911 = .ok (.goto 4, 3) := by decide +kernel
theorem dL_law_914 : decode cL_law 914 = .ok (.iconst 0, 1) := by decide +kernel
theorem dL_law_915 : decode cL_law 915 = .ok (.istore 6, 2) := by decide +kernel
theorem dL_law_917 : decode cL_law 917 = .ok (.iinc 7 1, 3) := by decide +kernel
theorem dL_law_920 : decode cL_law 920 = .ok (.goto (-851), 3) := by decide +kernel
theorem dL_law_923 : decode cL_law 923 = .ok (.iload 6, 2) := by decide +kernel
theorem dL_law_925 : decode cL_law 925 = .ok (.ireturn, 1) := by decide +kernel

theorem dX9_init_0 : decode cX9_init 0 = .ok (.aload_n 0, 1) := by decide +kernel
theorem dX9_init_1 : decode cX9_init 1 = .ok (.invokespecial 1, 3) := by decide +kernel
theorem dX9_init_4 : decode cX9_init 4 = .ok (.aload_n 0, 1) := by decide +kernel
theorem dX9_init_5 : decode cX9_init 5 = .ok (.bipush 12, 2) := by decide +kernel
theorem dX9_init_7 : decode cX9_init 7 = .ok (.newarray .int, 2) := by decide +kernel
theorem dX9_init_9 : decode cX9_init 9 = .ok (.putfield 7, 3) := by decide +kernel
theorem dX9_init_12 : decode cX9_init 12 = .ok (.aload_n 0, 1) := by decide +kernel
theorem dX9_init_13 : decode cX9_init 13 = .ok (.sipush 240, 3) := by decide +kernel
theorem dX9_init_16 : decode cX9_init 16 = .ok (.newarray .int, 2) := by decide +kernel
theorem dX9_init_18 : decode cX9_init 18 = .ok (.putfield 13, 3) := by decide +kernel
theorem dX9_init_21 : decode cX9_init 21 = .ok (.aload_n 0, 1) := by decide +kernel
theorem dX9_init_22 : decode cX9_init 22 = .ok (.bipush 20, 2) := by decide +kernel
theorem dX9_init_24 : decode cX9_init 24 = .ok (.newarray .int, 2) := by decide +kernel
theorem dX9_init_26 : decode cX9_init 26 = .ok (.putfield 16, 3) := by decide +kernel
theorem dX9_init_29 : decode cX9_init 29 = .ok (.aload_n 0, 1) := by decide +kernel
theorem dX9_init_30 : decode cX9_init 30 = .ok (.bipush 12, 2) := by decide +kernel
theorem dX9_init_32 : decode cX9_init 32 = .ok (.newarray .int, 2) := by decide +kernel
theorem dX9_init_34 : decode cX9_init 34 = .ok (.putfield 19, 3) := by decide +kernel
theorem dX9_init_37 : decode cX9_init 37 = .ok (.aload_n 0, 1) := by decide +kernel
theorem dX9_init_38 : decode cX9_init 38 = .ok (.bipush 12, 2) := by decide +kernel
theorem dX9_init_40 : decode cX9_init 40 = .ok (.newarray .int, 2) := by decide +kernel
theorem dX9_init_42 : decode cX9_init 42 = .ok (.putfield 22, 3) := by decide +kernel
theorem dX9_init_45 : decode cX9_init 45 = .ok (.aload_n 0, 1) := by decide +kernel
theorem dX9_init_46 : decode cX9_init 46 = .ok (.bipush 12, 2) := by decide +kernel
theorem dX9_init_48 : decode cX9_init 48 = .ok (.newarray .int, 2) := by decide +kernel
theorem dX9_init_50 : decode cX9_init 50 = .ok (.putfield 25, 3) := by decide +kernel
theorem dX9_init_53 : decode cX9_init 53 = .ok (.aload_n 0, 1) := by decide +kernel
theorem dX9_init_54 : decode cX9_init 54 = .ok (.bipush 60, 2) := by decide +kernel
theorem dX9_init_56 : decode cX9_init 56 = .ok (.newarray .int, 2) := by decide +kernel
theorem dX9_init_58 : decode cX9_init 58 = .ok (.putfield 28, 3) := by decide +kernel
theorem dX9_init_61 : decode cX9_init 61 = .ok (.aload_n 0, 1) := by decide +kernel
theorem dX9_init_62 : decode cX9_init 62 = .ok (.bipush 60, 2) := by decide +kernel
theorem dX9_init_64 : decode cX9_init 64 = .ok (.newarray .int, 2) := by decide +kernel
theorem dX9_init_66 : decode cX9_init 66 = .ok (.putfield 31, 3) := by decide +kernel
theorem dX9_init_69 : decode cX9_init 69 = .ok (.aload_n 0, 1) := by decide +kernel
theorem dX9_init_70 : decode cX9_init 70 = .ok (.bipush 60, 2) := by decide +kernel
theorem dX9_init_72 : decode cX9_init 72 = .ok (.newarray .int, 2) := by decide +kernel
theorem dX9_init_74 : decode cX9_init 74 = .ok (.putfield 34, 3) := by decide +kernel
theorem dX9_init_77 : decode cX9_init 77 = .ok (.aload_n 0, 1) := by decide +kernel
theorem dX9_init_78 : decode cX9_init 78 = .ok (.bipush 60, 2) := by decide +kernel
theorem dX9_init_80 : decode cX9_init 80 = .ok (.newarray .int, 2) := by decide +kernel
theorem dX9_init_82 : decode cX9_init 82 = .ok (.putfield 37, 3) := by decide +kernel
theorem dX9_init_85 : decode cX9_init 85 = .ok (.aload_n 0, 1) := by decide +kernel
theorem dX9_init_86 : decode cX9_init 86 = .ok (.bipush 60, 2) := by decide +kernel
theorem dX9_init_88 : decode cX9_init 88 = .ok (.newarray .int, 2) := by decide +kernel
theorem dX9_init_90 : decode cX9_init 90 = .ok (.putfield 40, 3) := by decide +kernel
theorem dX9_init_93 : decode cX9_init 93 = .ok (.aload_n 0, 1) := by decide +kernel
theorem dX9_init_94 : decode cX9_init 94 = .ok (.bipush 60, 2) := by decide +kernel
theorem dX9_init_96 : decode cX9_init 96 = .ok (.newarray .int, 2) := by decide +kernel
theorem dX9_init_98 : decode cX9_init 98 = .ok (.putfield 43, 3) := by decide +kernel
theorem dX9_init_101 : decode cX9_init 101 = .ok (.aload_n 0, 1) := by decide +kernel
theorem dX9_init_102 : decode cX9_init 102 = .ok (.bipush 60, 2) := by decide +kernel
theorem dX9_init_104 : decode cX9_init 104 = .ok (.newarray .int, 2) := by decide +kernel
theorem dX9_init_106 : decode cX9_init 106 = .ok (.putfield 46, 3) := by decide +kernel
theorem dX9_init_109 : decode cX9_init 109 = .ok (.aload_n 0, 1) := by decide +kernel
theorem dX9_init_110 : decode cX9_init 110 = .ok (.bipush 60, 2) := by decide +kernel
theorem dX9_init_112 : decode cX9_init 112 = .ok (.newarray .boolean, 2) := by decide +kernel
theorem dX9_init_114 : decode cX9_init 114 = .ok (.putfield 49, 3) := by decide +kernel
theorem dX9_init_117 : decode cX9_init 117 = .ok (.aload_n 0, 1) := by decide +kernel
theorem dX9_init_118 : decode cX9_init 118 = .ok (.bipush 60, 2) := by decide +kernel
theorem dX9_init_120 : decode cX9_init 120 = .ok (.newarray .int, 2) := by decide +kernel
theorem dX9_init_122 : decode cX9_init 122 = .ok (.putfield 53, 3) := by decide +kernel
theorem dX9_init_125 : decode cX9_init 125 = .ok (.aload_n 0, 1) := by decide +kernel
theorem dX9_init_126 : decode cX9_init 126 = .ok (.bipush 60, 2) := by decide +kernel
theorem dX9_init_128 : decode cX9_init 128 = .ok (.newarray .int, 2) := by decide +kernel
theorem dX9_init_130 : decode cX9_init 130 = .ok (.putfield 56, 3) := by decide +kernel
theorem dX9_init_133 : decode cX9_init 133 = .ok (.aload_n 0, 1) := by decide +kernel
theorem dX9_init_134 : decode cX9_init 134 = .ok (.bipush 60, 2) := by decide +kernel
theorem dX9_init_136 : decode cX9_init 136 = .ok (.newarray .boolean, 2) := by decide +kernel
theorem dX9_init_138 : decode cX9_init 138 = .ok (.putfield 59, 3) := by decide +kernel
theorem dX9_init_141 : decode cX9_init 141 = .ok (.aload_n 0, 1) := by decide +kernel
theorem dX9_init_142 : decode cX9_init 142 = .ok (.bipush 120, 2) := by decide +kernel
theorem dX9_init_144 : decode cX9_init 144 = .ok (.newarray .int, 2) := by decide +kernel
theorem dX9_init_146 : decode cX9_init 146 = .ok (.putfield 62, 3) := by decide +kernel
theorem dX9_init_149 : decode cX9_init 149 = .ok (.aload_n 0, 1) := by decide +kernel
theorem dX9_init_150 : decode cX9_init 150 = .ok (.bipush 6, 2) := by decide +kernel
theorem dX9_init_152 : decode cX9_init 152 = .ok (.newarray .int, 2) := by decide +kernel
theorem dX9_init_154 : decode cX9_init 154 = .ok (.putfield 65, 3) := by decide +kernel
theorem dX9_init_157 : decode cX9_init 157 = .ok (.aload_n 0, 1) := by decide +kernel
theorem dX9_init_158 : decode cX9_init 158 = .ok (.bipush 6, 2) := by decide +kernel
theorem dX9_init_160 : decode cX9_init 160 = .ok (.newarray .int, 2) := by decide +kernel
theorem dX9_init_162 : decode cX9_init 162 = .ok (.putfield 68, 3) := by decide +kernel
theorem dX9_init_165 : decode cX9_init 165 = .ok (.aload_n 0, 1) := by decide +kernel
theorem dX9_init_166 : decode cX9_init 166 = .ok (.bipush 8, 2) := by decide +kernel
theorem dX9_init_168 : decode cX9_init 168 = .ok (.newarray .int, 2) := by decide +kernel
theorem dX9_init_170 : decode cX9_init 170 = .ok (.putfield 71, 3) := by decide +kernel
theorem dX9_init_173 : decode cX9_init 173 = .ok (.aload_n 0, 1) := by decide +kernel
theorem dX9_init_174 : decode cX9_init 174 = .ok (.bipush 8, 2) := by decide +kernel
theorem dX9_init_176 : decode cX9_init 176 = .ok (.newarray .int, 2) := by decide +kernel
theorem dX9_init_178 : decode cX9_init 178 = .ok (.putfield 74, 3) := by decide +kernel
theorem dX9_init_181 : decode cX9_init 181 = .ok (.aload_n 0, 1) := by decide +kernel
theorem dX9_init_182 : decode cX9_init 182 = .ok (.sipush 160, 3) := by decide +kernel
theorem dX9_init_185 : decode cX9_init 185 = .ok (.newarray .int, 2) := by decide +kernel
theorem dX9_init_187 : decode cX9_init 187 = .ok (.putfield 77, 3) := by decide +kernel
theorem dX9_init_190 : decode cX9_init 190 = .ok (.aload_n 0, 1) := by decide +kernel
theorem dX9_init_191 : decode cX9_init 191 = .ok (.bipush 20, 2) := by decide +kernel
theorem dX9_init_193 : decode cX9_init 193 = .ok (.newarray .int, 2) := by decide +kernel
theorem dX9_init_195 : decode cX9_init 195 = .ok (.putfield 80, 3) := by decide +kernel
theorem dX9_init_198 : decode cX9_init 198 = .ok (.aload_n 0, 1) := by decide +kernel
theorem dX9_init_199 : decode cX9_init 199 = .ok (.bipush 60, 2) := by decide +kernel
theorem dX9_init_201 : decode cX9_init 201 = .ok (.newarray .int, 2) := by decide +kernel
theorem dX9_init_203 : decode cX9_init 203 = .ok (.putfield 83, 3) := by decide +kernel
theorem dX9_init_206 : decode cX9_init 206 = .ok (.aload_n 0, 1) := by decide +kernel
theorem dX9_init_207 : decode cX9_init 207 = .ok (.bipush 13, 2) := by decide +kernel
theorem dX9_init_209 : decode cX9_init 209 = .ok (.newarray .int, 2) := by decide +kernel
theorem dX9_init_211 : decode cX9_init 211 = .ok (.putfield 86, 3) := by decide +kernel
theorem dX9_init_214 : decode cX9_init 214 = .ok (.iconst 0, 1) := by decide +kernel
theorem dX9_init_215 : decode cX9_init 215 = .ok (.istore_n 1, 1) := by decide +kernel
theorem dX9_init_216 : decode cX9_init 216 = .ok (.iload_n 1, 1) := by decide +kernel
theorem dX9_init_217 : decode cX9_init 217 = .ok (.bipush 120, 2) := by decide +kernel
theorem dX9_init_219 : decode cX9_init 219 = .ok (.if_icmp .ge 16, 3) := by decide +kernel
theorem dX9_init_222 : decode cX9_init 222 = .ok (.aload_n 0, 1) := by decide +kernel
theorem dX9_init_223 : decode cX9_init 223 = .ok (.getfield 62, 3) := by decide +kernel
theorem dX9_init_226 : decode cX9_init 226 = .ok (.iload_n 1, 1) := by decide +kernel
theorem dX9_init_227 : decode cX9_init 227 = .ok (.iconst (-1), 1) := by decide +kernel
theorem dX9_init_228 : decode cX9_init 228 = .ok (.iastore, 1) := by decide +kernel
theorem dX9_init_229 : decode cX9_init 229 = .ok (.iinc 1 1, 3) := by decide +kernel
theorem dX9_init_232 : decode cX9_init 232 = .ok (.goto (-16), 3) := by decide +kernel
theorem dX9_init_235 : decode cX9_init 235 = .ok (.return_, 1) := by decide +kernel
theorem dX9_thrown_0 : decode cX9_thrown 0 = .ok (.aload_n 0, 1) := by decide +kernel
theorem dX9_thrown_1 : decode cX9_thrown 1 = .ok (.getfield 89, 3) := by decide +kernel
theorem dX9_thrown_4 : decode cX9_thrown 4 = .ok (.ireturn, 1) := by decide +kernel
theorem dX9_between_0 : decode cX9_between 0 = .ok (.iload_n 1, 1) := by decide +kernel
theorem dX9_between_1 : decode cX9_between 1 = .ok (.iload_n 2, 1) := by decide +kernel
theorem dX9_between_2 : decode cX9_between 2 = .ok (.if_icmp .lt 12, 3) := by decide +kernel
theorem dX9_between_5 : decode cX9_between 5 = .ok (.iload_n 1, 1) := by decide +kernel
theorem dX9_between_6 : decode cX9_between 6 = .ok (.iload_n 3, 1) := by decide +kernel
theorem dX9_between_7 : decode cX9_between 7 = .ok (.if_icmp .gt 7, 3) := by decide +kernel
theorem dX9_between_10 : decode cX9_between 10 = .ok (.iconst 1, 1) := by decide +kernel
theorem dX9_between_11 : decode cX9_between 11 = .ok (.goto 4, 3) := by decide +kernel
theorem dX9_between_14 : decode cX9_between 14 = .ok (.iconst 0, 1) := by decide +kernel
theorem dX9_between_15 : decode cX9_between 15 = .ok (.ireturn, 1) := by decide +kernel
theorem dX9_isUnit_0 : decode cX9_isUnit 0 = .ok (.aload_n 0, 1) := by decide +kernel
theorem dX9_isUnit_1 : decode cX9_isUnit 1 = .ok (.iload_n 1, 1) := by decide +kernel
theorem dX9_isUnit_2 : decode cX9_isUnit 2 = .ok (.iconst 0, 1) := by decide +kernel
theorem dX9_isUnit_3 : decode cX9_isUnit 3 = .ok (.aload_n 0, 1) := by decide +kernel
theorem dX9_isUnit_4 : decode cX9_isUnit 4 = .ok (.getfield 93, 3) := by decide +kernel
theorem dX9_isUnit_7 : decode cX9_isUnit 7 = .ok (.iconst 1, 1) := by decide +kernel
theorem dX9_isUnit_8 : decode cX9_isUnit 8 = .ok (.isub, 1) := by decide +kernel
theorem dX9_isUnit_9 : decode cX9_isUnit 9 = .ok (.invokevirtual 96, 3) := by decide +kernel
theorem dX9_isUnit_12 : decode cX9_isUnit 12 = .ok (.ireturn, 1) := by decide +kernel
theorem dX9_isAuthor_0 : decode cX9_isAuthor 0 = .ok (.aload_n 0, 1) := by decide +kernel
theorem dX9_isAuthor_1 : decode cX9_isAuthor 1 = .ok (.iload_n 1, 1) := by decide +kernel
theorem dX9_isAuthor_2 : decode cX9_isAuthor 2 = .ok (.iconst 0, 1) := by decide +kernel
theorem dX9_isAuthor_3 : decode cX9_isAuthor 3 = .ok (.aload_n 0, 1) := by decide +kernel
theorem dX9_isAuthor_4 : decode cX9_isAuthor 4 = .ok (.getfield 100, 3) := by decide +kernel
theorem dX9_isAuthor_7 : decode cX9_isAuthor 7 = .ok (.iconst 1, 1) := by decide +kernel
theorem dX9_isAuthor_8 : decode cX9_isAuthor 8 = .ok (.isub, 1) := by decide +kernel
theorem dX9_isAuthor_9 : decode cX9_isAuthor 9 = .ok (.invokevirtual 96, 3) := by decide +kernel
theorem dX9_isAuthor_12 : decode cX9_isAuthor 12 = .ok (.ireturn, 1) := by decide +kernel
theorem dX9_isComment_0 : decode cX9_isComment 0 = .ok (.aload_n 0, 1) := by decide +kernel
theorem dX9_isComment_1 : decode cX9_isComment 1 = .ok (.iload_n 1, 1) := by decide +kernel
theorem dX9_isComment_2 : decode cX9_isComment 2 = .ok (.iconst 0, 1) := by decide +kernel
theorem dX9_isComment_3 : decode cX9_isComment 3 = .ok (.aload_n 0, 1) := by decide +kernel
theorem dX9_isComment_4 : decode cX9_isComment 4 = .ok (.getfield 103, 3) := by decide +kernel
theorem dX9_isComment_7 : decode cX9_isComment 7 = .ok (.iconst 1, 1) := by decide +kernel
theorem dX9_isComment_8 : decode cX9_isComment 8 = .ok (.isub, 1) := by decide +kernel
theorem dX9_isComment_9 : decode cX9_isComment 9 = .ok (.invokevirtual 96, 3) := by decide +kernel
theorem dX9_isComment_12 : decode cX9_isComment 12 = .ok (.ireturn, 1) := by decide +kernel
theorem dX9_word_0 : decode cX9_word 0 = .ok (.aload_n 0, 1) := by decide +kernel
theorem dX9_word_1 : decode cX9_word 1 = .ok (.aload_n 0, 1) := by decide +kernel
theorem dX9_word_2 : decode cX9_word 2 = .ok (.iload_n 1, 1) := by decide +kernel
theorem dX9_word_3 : decode cX9_word 3 = .ok (.iconst 0, 1) := by decide +kernel
theorem dX9_word_4 : decode cX9_word 4 = .ok (.bipush 59, 2) := by decide +kernel
theorem dX9_word_6 : decode cX9_word 6 = .ok (.invokevirtual 96, 3) := by decide +kernel
theorem dX9_word_9 : decode cX9_word 9 = .ok (.ifCond .ne 7, 3) := by decide +kernel
theorem dX9_word_12 : decode cX9_word 12 = .ok (.iconst 1, 1) := by decide +kernel
theorem dX9_word_13 : decode cX9_word 13 = .ok (.goto 17, 3) := by decide +kernel
theorem dX9_word_16 : decode cX9_word 16 = .ok (.aload_n 0, 1) := by decide +kernel
theorem dX9_word_17 : decode cX9_word 17 = .ok (.getfield 106, 3) := by decide +kernel
theorem dX9_word_20 : decode cX9_word 20 = .ok (.bipush 12, 2) := by decide +kernel
theorem dX9_word_22 : decode cX9_word 22 = .ok (.if_icmp .ne 7, 3) := by decide +kernel
theorem dX9_word_25 : decode cX9_word 25 = .ok (.iconst 2, 1) := by decide +kernel
theorem dX9_word_26 : decode cX9_word 26 = .ok (.goto 4, 3) := by decide +kernel
theorem dX9_word_29 : decode cX9_word 29 = .ok (.iconst 0, 1) := by decide +kernel
theorem dX9_word_30 : decode cX9_word 30 = .ok (.putfield 89, 3) := by decide +kernel
theorem dX9_word_33 : decode cX9_word 33 = .ok (.aload_n 0, 1) := by decide +kernel
theorem dX9_word_34 : decode cX9_word 34 = .ok (.getfield 89, 3) := by decide +kernel
theorem dX9_word_37 : decode cX9_word 37 = .ok (.ifCond .le 5, 3) := by decide +kernel
theorem dX9_word_40 : decode cX9_word 40 = .ok (.iconst 0, 1) := by decide +kernel
theorem dX9_word_41 : decode cX9_word 41 = .ok (.ireturn, 1) := by decide +kernel
theorem dX9_word_42 : decode cX9_word 42 = .ok (.aload_n 0, 1) := by decide +kernel
theorem dX9_word_43 : decode cX9_word 43 = .ok (.getfield 7, 3) := by decide +kernel
theorem dX9_word_46 : decode cX9_word 46 = .ok (.aload_n 0, 1) := by decide +kernel
theorem dX9_word_47 : decode cX9_word 47 = .ok (.getfield 106, 3) := by decide +kernel
theorem dX9_word_50 : decode cX9_word 50 = .ok (.iload_n 1, 1) := by decide +kernel
theorem dX9_word_51 : decode cX9_word 51 = .ok (.iastore, 1) := by decide +kernel
theorem dX9_word_52 : decode cX9_word 52 = .ok (.aload_n 0, 1) := by decide +kernel
theorem dX9_word_53 : decode cX9_word 53 = .ok (.dup, 1) := by decide +kernel
theorem dX9_word_54 : decode cX9_word 54 = .ok (.getfield 106, 3) := by decide +kernel
theorem dX9_word_57 : decode cX9_word 57 = .ok (.iconst 1, 1) := by decide +kernel
theorem dX9_word_58 : decode cX9_word 58 = .ok (.iadd, 1) := by decide +kernel
theorem dX9_word_59 : decode cX9_word 59 = .ok (.putfield 106, 3) := by decide +kernel
theorem dX9_word_62 : decode cX9_word 62 = .ok (.aload_n 0, 1) := by decide +kernel
theorem dX9_word_63 : decode cX9_word 63 = .ok (.getfield 106, 3) := by decide +kernel
theorem dX9_word_66 : decode cX9_word 66 = .ok (.ireturn, 1) := by decide +kernel
theorem dX9_wipe_0 : decode cX9_wipe 0 = .ok (.aload_n 0, 1) := by decide +kernel
theorem dX9_wipe_1 : decode cX9_wipe 1 = .ok (.iconst 0, 1) := by decide +kernel
theorem dX9_wipe_2 : decode cX9_wipe 2 = .ok (.putfield 89, 3) := by decide +kernel
theorem dX9_wipe_5 : decode cX9_wipe 5 = .ok (.aload_n 0, 1) := by decide +kernel
theorem dX9_wipe_6 : decode cX9_wipe 6 = .ok (.getfield 106, 3) := by decide +kernel
theorem dX9_wipe_9 : decode cX9_wipe 9 = .ok (.istore_n 1, 1) := by decide +kernel
theorem dX9_wipe_10 : decode cX9_wipe 10 = .ok (.aload_n 0, 1) := by decide +kernel
theorem dX9_wipe_11 : decode cX9_wipe 11 = .ok (.iconst 0, 1) := by decide +kernel
theorem dX9_wipe_12 : decode cX9_wipe 12 = .ok (.putfield 106, 3) := by decide +kernel
theorem dX9_wipe_15 : decode cX9_wipe 15 = .ok (.iload_n 1, 1) := by decide +kernel
theorem dX9_wipe_16 : decode cX9_wipe 16 = .ok (.ireturn, 1) := by decide +kernel
theorem dX9_unit_0 : decode cX9_unit 0 = .ok (.aload_n 0, 1) := by decide +kernel
theorem dX9_unit_1 : decode cX9_unit 1 = .ok (.aload_n 0, 1) := by decide +kernel
theorem dX9_unit_2 : decode cX9_unit 2 = .ok (.getfield 106, 3) := by decide +kernel
theorem dX9_unit_5 : decode cX9_unit 5 = .ok (.ifCond .eq 12, 3) := by decide +kernel
theorem dX9_unit_8 : decode cX9_unit 8 = .ok (.aload_n 0, 1) := by decide +kernel
theorem dX9_unit_9 : decode cX9_unit 9 = .ok (.getfield 93, 3) := by decide +kernel
theorem dX9_unit_12 : decode cX9_unit 12 = .ok (.bipush 20, 2) := by decide +kernel
theorem dX9_unit_14 : decode cX9_unit 14 = .ok (.if_icmp .ne 7, 3) := by decide +kernel
theorem dX9_unit_17 : decode cX9_unit 17 = .ok (.iconst 1, 1) := by decide +kernel
theorem dX9_unit_18 : decode cX9_unit 18 = .ok (.goto 4, 3) := by decide +kernel
theorem dX9_unit_21 : decode cX9_unit 21 = .ok (.iconst 0, 1) := by decide +kernel
theorem dX9_unit_22 : decode cX9_unit 22 = .ok (.putfield 89, 3) := by decide +kernel
theorem dX9_unit_25 : decode cX9_unit 25 = .ok (.aload_n 0, 1) := by decide +kernel
theorem dX9_unit_26 : decode cX9_unit 26 = .ok (.getfield 89, 3) := by decide +kernel
theorem dX9_unit_29 : decode cX9_unit 29 = .ok (.ifCond .le 5, 3) := by decide +kernel
theorem dX9_unit_32 : decode cX9_unit 32 = .ok (.iconst 0, 1) := by decide +kernel
theorem dX9_unit_33 : decode cX9_unit 33 = .ok (.ireturn, 1) := by decide +kernel
theorem dX9_unit_34 : decode cX9_unit 34 = .ok (.iconst 0, 1) := by decide +kernel
theorem dX9_unit_35 : decode cX9_unit 35 = .ok (.istore_n 1, 1) := by decide +kernel
theorem dX9_unit_36 : decode cX9_unit 36 = .ok (.iload_n 1, 1) := by decide +kernel
theorem dX9_unit_37 : decode cX9_unit 37 = .ok (.aload_n 0, 1) := by decide +kernel
theorem dX9_unit_38 : decode cX9_unit 38 = .ok (.getfield 106, 3) := by decide +kernel
theorem dX9_unit_41 : decode cX9_unit 41 = .ok (.if_icmp .ge 29, 3) := by decide +kernel
theorem dX9_unit_44 : decode cX9_unit 44 = .ok (.aload_n 0, 1) := by decide +kernel
theorem dX9_unit_45 : decode cX9_unit 45 = .ok (.getfield 13, 3) := by decide +kernel
theorem dX9_unit_48 : decode cX9_unit 48 = .ok (.bipush 12, 2) := by decide +kernel
theorem dX9_unit_50 : decode cX9_unit 50 = .ok (.aload_n 0, 1) := by decide +kernel
theorem dX9_unit_51 : decode cX9_unit 51 = .ok (.getfield 93, 3) := by decide +kernel
theorem dX9_unit_54 : decode cX9_unit 54 = .ok (.imul, 1) := by decide +kernel
theorem dX9_unit_55 : decode cX9_unit 55 = .ok (.iload_n 1, 1) := by decide +kernel
theorem dX9_unit_56 : decode cX9_unit 56 = .ok (.iadd, 1) := by decide +kernel
theorem dX9_unit_57 : decode cX9_unit 57 = .ok (.aload_n 0, 1) := by decide +kernel
theorem dX9_unit_58 : decode cX9_unit 58 = .ok (.getfield 7, 3) := by decide +kernel
theorem dX9_unit_61 : decode cX9_unit 61 = .ok (.iload_n 1, 1) := by decide +kernel
theorem dX9_unit_62 : decode cX9_unit 62 = .ok (.iaload, 1) := by decide +kernel
theorem dX9_unit_63 : decode cX9_unit 63 = .ok (.iastore, 1) := by decide +kernel
theorem dX9_unit_64 : decode cX9_unit 64 = .ok (.iinc 1 1, 3) := by decide +kernel
theorem dX9_unit_67 : decode cX9_unit 67 = .ok (.goto (-31), 3) := by decide +kernel
theorem dX9_unit_70 : decode cX9_unit 70 = .ok (.aload_n 0, 1) := by decide +kernel
theorem dX9_unit_71 : decode cX9_unit 71 = .ok (.getfield 16, 3) := by decide +kernel
theorem dX9_unit_74 : decode cX9_unit 74 = .ok (.aload_n 0, 1) := by decide +kernel
theorem dX9_unit_75 : decode cX9_unit 75 = .ok (.getfield 93, 3) := by decide +kernel
theorem dX9_unit_78 : decode cX9_unit 78 = .ok (.aload_n 0, 1) := by decide +kernel
theorem dX9_unit_79 : decode cX9_unit 79 = .ok (.getfield 106, 3) := by decide +kernel
theorem dX9_unit_82 : decode cX9_unit 82 = .ok (.iastore, 1) := by decide +kernel
theorem dX9_unit_83 : decode cX9_unit 83 = .ok (.aload_n 0, 1) := by decide +kernel
theorem dX9_unit_84 : decode cX9_unit 84 = .ok (.iconst 0, 1) := by decide +kernel
theorem dX9_unit_85 : decode cX9_unit 85 = .ok (.putfield 106, 3) := by decide +kernel
theorem dX9_unit_88 : decode cX9_unit 88 = .ok (.aload_n 0, 1) := by decide +kernel
theorem dX9_unit_89 : decode cX9_unit 89 = .ok (.dup, 1) := by decide +kernel
theorem dX9_unit_90 : decode cX9_unit 90 = .ok (.getfield 93, 3) := by decide +kernel
theorem dX9_unit_93 : decode cX9_unit 93 = .ok (.iconst 1, 1) := by decide +kernel
theorem dX9_unit_94 : decode cX9_unit 94 = .ok (.iadd, 1) := by decide +kernel
theorem dX9_unit_95 : decode cX9_unit 95 = .ok (.putfield 93, 3) := by decide +kernel
theorem dX9_unit_98 : decode cX9_unit 98 = .ok (.aload_n 0, 1) := by decide +kernel
theorem dX9_unit_99 : decode cX9_unit 99 = .ok (.getfield 93, 3) := by decide +kernel
theorem dX9_unit_102 : decode cX9_unit 102 = .ok (.iconst 1, 1) := by decide +kernel
theorem dX9_unit_103 : decode cX9_unit 103 = .ok (.isub, 1) := by decide +kernel
theorem dX9_unit_104 : decode cX9_unit 104 = .ok (.ireturn, 1) := by decide +kernel
theorem dX9_nearest_0 : decode cX9_nearest 0 = .ok (.iconst (-1), 1) := by decide +kernel
theorem dX9_nearest_1 : decode cX9_nearest 1 = .ok (.istore 4, 2) := by decide +kernel
theorem dX9_nearest_3 : decode cX9_nearest 3 = .ok (.bipush 99, 2) := by decide +kernel
theorem dX9_nearest_5 : decode cX9_nearest 5 = .ok (.istore 5, 2) := by decide +kernel
theorem dX9_nearest_7 : decode cX9_nearest 7 = .ok (.iconst 0, 1) := by decide +kernel
theorem dX9_nearest_8 : decode cX9_nearest 8 = .ok (.istore 6, 2) := by decide +kernel
theorem dX9_nearest_10 : decode cX9_nearest 10 = .ok (.iload 6, 2) := by decide +kernel
theorem dX9_nearest_12 : decode cX9_nearest 12 = .ok (.aload_n 0, 1) := by decide +kernel
theorem dX9_nearest_13 : decode cX9_nearest 13 = .ok (.getfield 16, 3) := by decide +kernel
theorem dX9_nearest_16 : decode cX9_nearest 16 = .ok (.iload_n 1, 1) := by decide +kernel
theorem dX9_nearest_17 : decode cX9_nearest 17 = .ok (.iaload, 1) := by decide +kernel
theorem dX9_nearest_18 : decode cX9_nearest 18 = .ok (.if_icmp .ge 59, 3) := by decide +kernel
theorem dX9_nearest_21 : decode cX9_nearest 21 = .ok (.iload 6, 2) := by decide +kernel
theorem dX9_nearest_23 : decode cX9_nearest 23 = .ok (.iload_n 3, 1) := by decide +kernel
theorem dX9_nearest_24 : decode cX9_nearest 24 = .ok (.if_icmp .ge 10, 3) := by decide +kernel
theorem dX9_nearest_27 : decode cX9_nearest 27 = .ok (.iload_n 3, 1) := by decide +kernel
theorem dX9_nearest_28 : decode cX9_nearest 28 = .ok (.iload 6, 2) := by decide +kernel
theorem dX9_nearest_30 : decode cX9_nearest 30 = .ok (.isub, 1) := by decide +kernel
theorem dX9_nearest_31 : decode cX9_nearest 31 = .ok (.goto 7, 3) := by decide +kernel
theorem dX9_nearest_34 : decode cX9_nearest 34 = .ok (.iload 6, 2) := by decide +kernel
theorem dX9_nearest_36 : decode cX9_nearest 36 = .ok (.iload_n 3, 1) := by decide +kernel
theorem dX9_nearest_37 : decode cX9_nearest 37 = .ok (.isub, 1) := by decide +kernel
theorem dX9_nearest_38 : decode cX9_nearest 38 = .ok (.istore 7, 2) := by decide +kernel
theorem dX9_nearest_40 : decode cX9_nearest 40 = .ok (.aload_n 0, 1) := by decide +kernel
theorem dX9_nearest_41 : decode cX9_nearest 41 = .ok (.getfield 13, 3) := by decide +kernel
theorem dX9_nearest_44 : decode cX9_nearest 44 = .ok (.bipush 12, 2) := by decide +kernel
theorem dX9_nearest_46 : decode cX9_nearest 46 = .ok (.iload_n 1, 1) := by decide +kernel
theorem dX9_nearest_47 : decode cX9_nearest 47 = .ok (.imul, 1) := by decide +kernel
theorem dX9_nearest_48 : decode cX9_nearest 48 = .ok (.iload 6, 2) := by decide +kernel
theorem dX9_nearest_50 : decode cX9_nearest 50 = .ok (.iadd, 1) := by decide +kernel
theorem dX9_nearest_51 : decode cX9_nearest 51 = .ok (.iaload, 1) := by decide +kernel
theorem dX9_nearest_52 : decode cX9_nearest 52 = .ok (.iload_n 2, 1) := by decide +kernel
theorem dX9_nearest_53 : decode cX9_nearest 53 = .ok (.if_icmp .ne 18, 3) := by decide +kernel
theorem dX9_nearest_56 : decode cX9_nearest 56 = .ok (.iload 7, 2) := by decide +kernel
theorem dX9_nearest_58 : decode cX9_nearest 58 = .ok (.iload 5, 2) := by decide +kernel
theorem dX9_nearest_60 : decode cX9_nearest 60 = .ok (.if_icmp .ge 11, 3) := by decide +kernel
theorem dX9_nearest_63 : decode cX9_nearest 63 = .ok (.iload 6, 2) := by decide +kernel
theorem dX9_nearest_65 : decode cX9_nearest 65 = .ok (.istore 4, 2) := by decide +kernel
theorem dX9_nearest_67 : decode cX9_nearest 67 = .ok (.iload 7, 2) := by decide +kernel
theorem dX9_nearest_69 : decode cX9_nearest 69 = .ok (.istore 5, 2) := by decide +kernel
theorem dX9_nearest_71 : decode cX9_nearest 71 = .ok (.iinc 6 1, 3) := by decide +kernel
theorem dX9_nearest_74 : decode cX9_nearest 74 = .ok (.goto (-64), 3) := by decide +kernel
theorem dX9_nearest_77 : decode cX9_nearest 77 = .ok (.iload 4, 2) := by decide +kernel
theorem dX9_nearest_79 : decode cX9_nearest 79 = .ok (.ireturn, 1) := by decide +kernel
theorem dX9_emend_0 : decode cX9_emend 0 = .ok (.aload_n 0, 1) := by decide +kernel
theorem dX9_emend_1 : decode cX9_emend 1 = .ok (.aload_n 0, 1) := by decide +kernel
theorem dX9_emend_2 : decode cX9_emend 2 = .ok (.iload_n 1, 1) := by decide +kernel
theorem dX9_emend_3 : decode cX9_emend 3 = .ok (.invokevirtual 109, 3) := by decide +kernel
theorem dX9_emend_6 : decode cX9_emend 6 = .ok (.ifCond .eq 20, 3) := by decide +kernel
theorem dX9_emend_9 : decode cX9_emend 9 = .ok (.aload_n 0, 1) := by decide +kernel
theorem dX9_emend_10 : decode cX9_emend 10 = .ok (.iload_n 2, 1) := by decide +kernel
theorem dX9_emend_11 : decode cX9_emend 11 = .ok (.iconst 0, 1) := by decide +kernel
theorem dX9_emend_12 : decode cX9_emend 12 = .ok (.aload_n 0, 1) := by decide +kernel
theorem dX9_emend_13 : decode cX9_emend 13 = .ok (.getfield 16, 3) := by decide +kernel
theorem dX9_emend_16 : decode cX9_emend 16 = .ok (.iload_n 1, 1) := by decide +kernel
theorem dX9_emend_17 : decode cX9_emend 17 = .ok (.iaload, 1) := by decide +kernel
theorem dX9_emend_18 : decode cX9_emend 18 = .ok (.iconst 1, 1) := by decide +kernel
theorem dX9_emend_19 : decode cX9_emend 19 = .ok (.isub, 1) := by decide +kernel
theorem dX9_emend_20 : decode cX9_emend 20 = .ok (.invokevirtual 96, 3) := by decide +kernel
theorem dX9_emend_23 : decode cX9_emend 23 = .ok (.ifCond .ne 7, 3) := by decide +kernel
theorem dX9_emend_26 : decode cX9_emend 26 = .ok (.iconst 1, 1) := by decide +kernel
theorem dX9_emend_27 : decode cX9_emend 27 = .ok (.goto 38, 3) := by decide +kernel
theorem dX9_emend_30 : decode cX9_emend 30 = .ok (.aload_n 0, 1) := by decide +kernel
theorem dX9_emend_31 : decode cX9_emend 31 = .ok (.iload_n 3, 1) := by decide +kernel
theorem dX9_emend_32 : decode cX9_emend 32 = .ok (.iconst (-1), 1) := by decide +kernel
theorem dX9_emend_33 : decode cX9_emend 33 = .ok (.bipush 59, 2) := by decide +kernel
theorem dX9_emend_35 : decode cX9_emend 35 = .ok (.invokevirtual 96, 3) := by decide +kernel
theorem dX9_emend_38 : decode cX9_emend 38 = .ok (.ifCond .ne 7, 3) := by decide +kernel
theorem dX9_emend_41 : decode cX9_emend 41 = .ok (.iconst 2, 1) := by decide +kernel
theorem dX9_emend_42 : decode cX9_emend 42 = .ok (.goto 23, 3) := by decide +kernel
theorem dX9_emend_45 : decode cX9_emend 45 = .ok (.iload_n 3, 1) := by decide +kernel
theorem dX9_emend_46 : decode cX9_emend 46 = .ok (.iconst (-1), 1) := by decide +kernel
theorem dX9_emend_47 : decode cX9_emend 47 = .ok (.if_icmp .ne 17, 3) := by decide +kernel
theorem dX9_emend_50 : decode cX9_emend 50 = .ok (.aload_n 0, 1) := by decide +kernel
theorem dX9_emend_51 : decode cX9_emend 51 = .ok (.getfield 16, 3) := by decide +kernel
theorem dX9_emend_54 : decode cX9_emend 54 = .ok (.iload_n 1, 1) := by decide +kernel
theorem dX9_emend_55 : decode cX9_emend 55 = .ok (.iaload, 1) := by decide +kernel
theorem dX9_emend_56 : decode cX9_emend 56 = .ok (.iconst 1, 1) := by decide +kernel
theorem dX9_emend_57 : decode cX9_emend 57 = .ok (.if_icmp .ne 7, 3) := by decide +kernel
theorem dX9_emend_60 : decode cX9_emend 60 = .ok (.iconst 3, 1) := by decide +kernel
theorem dX9_emend_61 : decode cX9_emend 61 = .ok (.goto 4, 3) := by decide +kernel
theorem dX9_emend_64 : decode cX9_emend 64 = .ok (.iconst 0, 1) := by decide +kernel
theorem dX9_emend_65 : decode cX9_emend 65 = .ok (.putfield 89, 3) := by decide +kernel
theorem dX9_emend_68 : decode cX9_emend 68 = .ok (.aload_n 0, 1) := by decide +kernel
theorem dX9_emend_69 : decode cX9_emend 69 = .ok (.getfield 89, 3) := by decide +kernel
theorem dX9_emend_72 : decode cX9_emend 72 = .ok (.ifCond .le 5, 3) := by decide +kernel
theorem dX9_emend_75 : decode cX9_emend 75 = .ok (.iconst 0, 1) := by decide +kernel
theorem dX9_emend_76 : decode cX9_emend 76 = .ok (.ireturn, 1) := by decide +kernel
theorem dX9_emend_77 : decode cX9_emend 77 = .ok (.iload_n 3, 1) := by decide +kernel
theorem dX9_emend_78 : decode cX9_emend 78 = .ok (.iconst (-1), 1) := by decide +kernel
theorem dX9_emend_79 : decode cX9_emend 79 = .ok (.if_icmp .ne 64, 3) := by decide +kernel
theorem dX9_emend_82 : decode cX9_emend 82 = .ok (.iload_n 2, 1) := by decide +kernel
theorem dX9_emend_83 : decode cX9_emend 83 = .ok (.istore 4, 2) := by decide +kernel
theorem dX9_emend_85 : decode cX9_emend 85 = .ok (.iload 4, 2) := by decide +kernel
theorem dX9_emend_87 : decode cX9_emend 87 = .ok (.aload_n 0, 1) := by decide +kernel
theorem dX9_emend_88 : decode cX9_emend 88 = .ok (.getfield 16, 3) := by decide +kernel
theorem dX9_emend_91 : decode cX9_emend 91 = .ok (.iload_n 1, 1) := by decide +kernel
theorem dX9_emend_92 : decode cX9_emend 92 = .ok (.iaload, 1) := by decide +kernel
theorem dX9_emend_93 : decode cX9_emend 93 = .ok (.iconst 1, 1) := by decide +kernel
theorem dX9_emend_94 : decode cX9_emend 94 = .ok (.isub, 1) := by decide +kernel
theorem dX9_emend_95 : decode cX9_emend 95 = .ok (.if_icmp .ge 35, 3) := by decide +kernel
theorem dX9_emend_98 : decode cX9_emend 98 = .ok (.aload_n 0, 1) := by decide +kernel
theorem dX9_emend_99 : decode cX9_emend 99 = .ok (.getfield 13, 3) := by decide +kernel
theorem dX9_emend_102 : decode cX9_emend 102 = .ok (.bipush 12, 2) := by decide +kernel
theorem dX9_emend_104 : decode cX9_emend 104 = .ok (.iload_n 1, 1) := by decide +kernel
theorem dX9_emend_105 : decode cX9_emend 105 = .ok (.imul, 1) := by decide +kernel
theorem dX9_emend_106 : decode cX9_emend 106 = .ok (.iload 4, 2) := by decide +kernel
theorem dX9_emend_108 : decode cX9_emend 108 = .ok (.iadd, 1) := by decide +kernel
theorem dX9_emend_109 : decode cX9_emend 109 = .ok (.aload_n 0, 1) := by decide +kernel
theorem dX9_emend_110 : decode cX9_emend 110 = .ok (.getfield 13, 3) := by decide +kernel
theorem dX9_emend_113 : decode cX9_emend 113 = .ok (.bipush 12, 2) := by decide +kernel
theorem dX9_emend_115 : decode cX9_emend 115 = .ok (.iload_n 1, 1) := by decide +kernel
theorem dX9_emend_116 : decode cX9_emend 116 = .ok (.imul, 1) := by decide +kernel
theorem dX9_emend_117 : decode cX9_emend 117 = .ok (.iload 4, 2) := by decide +kernel
theorem dX9_emend_119 : decode cX9_emend 119 = .ok (.iadd, 1) := by decide +kernel
theorem dX9_emend_120 : decode cX9_emend 120 = .ok (.iconst 1, 1) := by decide +kernel
theorem dX9_emend_121 : decode cX9_emend 121 = .ok (.iadd, 1) := by decide +kernel
theorem dX9_emend_122 : decode cX9_emend 122 = .ok (.iaload, 1) := by decide +kernel
theorem dX9_emend_123 : decode cX9_emend 123 = .ok (.iastore, 1) := by decide +kernel
theorem dX9_emend_124 : decode cX9_emend 124 = .ok (.iinc 4 1, 3) := by decide +kernel
theorem dX9_emend_127 : decode cX9_emend 127 = .ok (.goto (-42), 3) := by decide +kernel
theorem dX9_emend_130 : decode cX9_emend 130 = .ok (.aload_n 0, 1) := by decide +kernel
theorem dX9_emend_131 : decode cX9_emend 131 = .ok (.getfield 16, 3) := by decide +kernel
theorem dX9_emend_134 : decode cX9_emend 134 = .ok (.iload_n 1, 1) := by decide +kernel
theorem dX9_emend_135 : decode cX9_emend 135 = .ok (.dup2, 1) := by decide +kernel
theorem dX9_emend_136 : decode cX9_emend 136 = .ok (.iaload, 1) := by decide +kernel
theorem dX9_emend_137 : decode cX9_emend 137 = .ok (.iconst 1, 1) := by decide +kernel
theorem dX9_emend_138 : decode cX9_emend 138 = .ok (.isub, 1) := by decide +kernel
theorem dX9_emend_139 : decode cX9_emend 139 = .ok (.iastore, 1) := by decide +kernel
theorem dX9_emend_140 : decode cX9_emend 140 = .ok (.goto 15, 3) := by decide +kernel
theorem dX9_emend_143 : decode cX9_emend 143 = .ok (.aload_n 0, 1) := by decide +kernel
theorem dX9_emend_144 : decode cX9_emend 144 = .ok (.getfield 13, 3) := by decide +kernel
theorem dX9_emend_147 : decode cX9_emend 147 = .ok (.bipush 12, 2) := by decide +kernel
theorem dX9_emend_149 : decode cX9_emend 149 = .ok (.iload_n 1, 1) := by decide +kernel
theorem dX9_emend_150 : decode cX9_emend 150 = .ok (.imul, 1) := by decide +kernel
theorem dX9_emend_151 : decode cX9_emend 151 = .ok (.iload_n 2, 1) := by decide +kernel
theorem dX9_emend_152 : decode cX9_emend 152 = .ok (.iadd, 1) := by decide +kernel
theorem dX9_emend_153 : decode cX9_emend 153 = .ok (.iload_n 3, 1) := by decide +kernel
theorem dX9_emend_154 : decode cX9_emend 154 = .ok (.iastore, 1) := by decide +kernel
theorem dX9_emend_155 : decode cX9_emend 155 = .ok (.iconst 0, 1) := by decide +kernel
theorem dX9_emend_156 : decode cX9_emend 156 = .ok (.istore 4, 2) := by decide +kernel
theorem dX9_emend_158 : decode cX9_emend 158 = .ok (.iconst 0, 1) := by decide +kernel
theorem dX9_emend_159 : decode cX9_emend 159 = .ok (.istore 5, 2) := by decide +kernel
theorem dX9_emend_161 : decode cX9_emend 161 = .ok (.iload 5, 2) := by decide +kernel
theorem dX9_emend_163 : decode cX9_emend 163 = .ok (.aload_n 0, 1) := by decide +kernel
theorem dX9_emend_164 : decode cX9_emend 164 = .ok (.getfield 103, 3) := by decide +kernel
theorem dX9_emend_167 : decode cX9_emend 167 = .ok (.if_icmp .ge 175, 3) := by decide +kernel
theorem dX9_emend_170 : decode cX9_emend 170 = .ok (.aload_n 0, 1) := by decide +kernel
theorem dX9_emend_171 : decode cX9_emend 171 = .ok (.getfield 34, 3) := by decide +kernel
theorem dX9_emend_174 : decode cX9_emend 174 = .ok (.iload 5, 2) := by decide +kernel
theorem dX9_emend_176 : decode cX9_emend 176 = .ok (.iaload, 1) := by decide +kernel
theorem dX9_emend_177 : decode cX9_emend 177 = .ok (.iconst (-1), 1) := by decide +kernel
theorem dX9_emend_178 : decode cX9_emend 178 = .ok (.if_icmp .ne 158, 3) := by decide +kernel
theorem dX9_emend_181 : decode cX9_emend 181 = .ok (.aload_n 0, 1) := by decide +kernel
theorem dX9_emend_182 : decode cX9_emend 182 = .ok (.getfield 40, 3) := by decide +kernel
theorem dX9_emend_185 : decode cX9_emend 185 = .ok (.iload 5, 2) := by decide +kernel
theorem dX9_emend_187 : decode cX9_emend 187 = .ok (.iaload, 1) := by decide +kernel
theorem dX9_emend_188 : decode cX9_emend 188 = .ok (.iload_n 1, 1) := by decide +kernel
theorem dX9_emend_189 : decode cX9_emend 189 = .ok (.if_icmp .ne 147, 3) := by decide +kernel
theorem dX9_emend_192 : decode cX9_emend 192 = .ok (.aload_n 0, 1) := by decide +kernel
theorem dX9_emend_193 : decode cX9_emend 193 = .ok (.getfield 46, 3) := by decide +kernel
theorem dX9_emend_196 : decode cX9_emend 196 = .ok (.iload 5, 2) := by decide +kernel
theorem dX9_emend_198 : decode cX9_emend 198 = .ok (.iaload, 1) := by decide +kernel
theorem dX9_emend_199 : decode cX9_emend 199 = .ok (.istore 6, 2) := by decide +kernel
theorem dX9_emend_201 : decode cX9_emend 201 = .ok (.iload_n 3, 1) := by decide +kernel
theorem dX9_emend_202 : decode cX9_emend 202 = .ok (.iconst (-1), 1) := by decide +kernel
theorem dX9_emend_203 : decode cX9_emend 203 = .ok (.if_icmp .ne 16, 3) := by decide +kernel
theorem dX9_emend_206 : decode cX9_emend 206 = .ok (.iload 6, 2) := by decide +kernel
theorem dX9_emend_208 : decode cX9_emend 208 = .ok (.iload_n 2, 1) := by decide +kernel
theorem dX9_emend_209 : decode cX9_emend 209 = .ok (.if_icmp .le 10, 3) := by decide +kernel
theorem dX9_emend_212 : decode cX9_emend 212 = .ok (.iload 6, 2) := by decide +kernel
theorem dX9_emend_214 : decode cX9_emend 214 = .ok (.iconst 1, 1) := by decide +kernel
theorem dX9_emend_215 : decode cX9_emend 215 = .ok (.isub, 1) := by decide +kernel
theorem dX9_emend_216 : decode cX9_emend 216 = .ok (.goto 5, 3) := by decide +kernel
theorem dX9_emend_219 : decode cX9_emend 219 = .ok (.iload 6, 2) := by decide +kernel
theorem dX9_emend_221 : decode cX9_emend 221 = .ok (.istore 6, 2) := by decide +kernel
theorem dX9_emend_223 : decode cX9_emend 223 = .ok (.iload 6, 2) := by decide +kernel
theorem dX9_emend_225 : decode cX9_emend 225 = .ok (.aload_n 0, 1) := by decide +kernel
theorem dX9_emend_226 : decode cX9_emend 226 = .ok (.getfield 16, 3) := by decide +kernel
theorem dX9_emend_229 : decode cX9_emend 229 = .ok (.iload_n 1, 1) := by decide +kernel
theorem dX9_emend_230 : decode cX9_emend 230 = .ok (.iaload, 1) := by decide +kernel
theorem dX9_emend_231 : decode cX9_emend 231 = .ok (.iconst 1, 1) := by decide +kernel
theorem dX9_emend_232 : decode cX9_emend 232 = .ok (.isub, 1) := by decide +kernel
theorem dX9_emend_233 : decode cX9_emend 233 = .ok (.if_icmp .le 14, 3) := by decide +kernel
theorem dX9_emend_236 : decode cX9_emend 236 = .ok (.aload_n 0, 1) := by decide +kernel
theorem dX9_emend_237 : decode cX9_emend 237 = .ok (.getfield 16, 3) := by decide +kernel
theorem dX9_emend_240 : decode cX9_emend 240 = .ok (.iload_n 1, 1) := by decide +kernel
theorem dX9_emend_241 : decode cX9_emend 241 = .ok (.iaload, 1) := by decide +kernel
theorem dX9_emend_242 : decode cX9_emend 242 = .ok (.iconst 1, 1) := by decide +kernel
theorem dX9_emend_243 : decode cX9_emend 243 = .ok (.isub, 1) := by decide +kernel
theorem dX9_emend_244 : decode cX9_emend 244 = .ok (.goto 5, 3) := by decide +kernel
theorem dX9_emend_247 : decode cX9_emend 247 = .ok (.iload 6, 2) := by decide +kernel
theorem dX9_emend_249 : decode cX9_emend 249 = .ok (.istore 6, 2) := by decide +kernel
theorem dX9_emend_251 : decode cX9_emend 251 = .ok (.aload_n 0, 1) := by decide +kernel
theorem dX9_emend_252 : decode cX9_emend 252 = .ok (.iload_n 1, 1) := by decide +kernel
theorem dX9_emend_253 : decode cX9_emend 253 = .ok (.aload_n 0, 1) := by decide +kernel
theorem dX9_emend_254 : decode cX9_emend 254 = .ok (.getfield 43, 3) := by decide +kernel
theorem dX9_emend_257 : decode cX9_emend 257 = .ok (.iload 5, 2) := by decide +kernel
theorem dX9_emend_259 : decode cX9_emend 259 = .ok (.iaload, 1) := by decide +kernel
theorem dX9_emend_260 : decode cX9_emend 260 = .ok (.iload 6, 2) := by decide +kernel
theorem dX9_emend_262 : decode cX9_emend 262 = .ok (.invokevirtual 113, 3) := by decide +kernel
theorem dX9_emend_265 : decode cX9_emend 265 = .ok (.istore 7, 2) := by decide +kernel
theorem dX9_emend_267 : decode cX9_emend 267 = .ok (.iload 4, 2) := by decide +kernel
theorem dX9_emend_269 : decode cX9_emend 269 = .ok (.aload_n 0, 1) := by decide +kernel
theorem dX9_emend_270 : decode cX9_emend 270 = .ok (.getfield 49, 3) := by decide +kernel
theorem dX9_emend_273 : decode cX9_emend 273 = .ok (.iload 5, 2) := by decide +kernel
theorem dX9_emend_275 : decode cX9_emend 275 = .ok (.baload, 1) := by decide +kernel
theorem dX9_emend_276 : decode cX9_emend 276 = .ok (.iload 7, 2) := by decide +kernel
theorem dX9_emend_278 : decode cX9_emend 278 = .ok (.iconst (-1), 1) := by decide +kernel
theorem dX9_emend_279 : decode cX9_emend 279 = .ok (.if_icmp .ne 7, 3) := by decide +kernel
theorem dX9_emend_282 : decode cX9_emend 282 = .ok (.iconst 1, 1) := by decide +kernel
theorem dX9_emend_283 : decode cX9_emend 283 = .ok (.goto 4, 3) := by decide +kernel
theorem dX9_emend_286 : decode cX9_emend 286 = .ok (.iconst 0, 1) := by decide +kernel
theorem dX9_emend_287 : decode cX9_emend 287 = .ok (.if_icmp .eq 7, 3) := by decide +kernel
theorem dX9_emend_290 : decode cX9_emend 290 = .ok (.iconst 1, 1) := by decide +kernel
theorem dX9_emend_291 : decode cX9_emend 291 = .ok (.goto 4, 3) := by decide +kernel
theorem dX9_emend_294 : decode cX9_emend 294 = .ok (.iconst 0, 1) := by decide +kernel
theorem dX9_emend_295 : decode cX9_emend 295 = .ok (.iadd, 1) := by decide +kernel
theorem dX9_emend_296 : decode cX9_emend 296 = .ok (.istore 4, 2) := by decide +kernel
theorem dX9_emend_298 : decode cX9_emend 298 = .ok (.aload_n 0, 1) := by decide +kernel
theorem dX9_emend_299 : decode cX9_emend 299 = .ok (.getfield 49, 3) := by decide +kernel
theorem dX9_emend_302 : decode cX9_emend 302 = .ok (.iload 5, 2) := by decide +kernel
theorem dX9_emend_304 : decode cX9_emend 304 = .ok (.iload 7, 2) := by decide +kernel
theorem dX9_emend_306 : decode cX9_emend 306 = .ok (.iconst (-1), 1) := by decide +kernel
theorem dX9_emend_307 : decode cX9_emend 307 = .ok (.if_icmp .ne 7, 3) := by decide +kernel
theorem dX9_emend_310 : decode cX9_emend 310 = .ok (.iconst 1, 1) := by decide +kernel
theorem dX9_emend_311 : decode cX9_emend 311 = .ok (.goto 4, 3) := by decide +kernel
theorem dX9_emend_314 : decode cX9_emend 314 = .ok (.iconst 0, 1) := by decide +kernel
theorem dX9_emend_315 : decode cX9_emend 315 = .ok (.bastore, 1) := by decide +kernel
theorem dX9_emend_316 : decode cX9_emend 316 = .ok (.aload_n 0, 1) := by decide +kernel
theorem dX9_emend_317 : decode cX9_emend 317 = .ok (.getfield 46, 3) := by decide +kernel
theorem dX9_emend_320 : decode cX9_emend 320 = .ok (.iload 5, 2) := by decide +kernel
theorem dX9_emend_322 : decode cX9_emend 322 = .ok (.iload 7, 2) := by decide +kernel
theorem dX9_emend_324 : decode cX9_emend 324 = .ok (.iconst (-1), 1) := by decide +kernel
theorem dX9_emend_325 : decode cX9_emend 325 = .ok (.if_icmp .ne 8, 3) := by decide +kernel
theorem dX9_emend_328 : decode cX9_emend 328 = .ok (.iload 6, 2) := by decide +kernel
theorem dX9_emend_330 : decode cX9_emend 330 = .ok (.goto 5, 3) := by decide +kernel
theorem dX9_emend_333 : decode cX9_emend 333 = .ok (.iload 7, 2) := by decide +kernel
theorem dX9_emend_335 : decode cX9_emend 335 = .ok (.iastore, 1) := by decide +kernel
theorem dX9_emend_336 : decode cX9_emend 336 = .ok (.iinc 5 1, 3) := by decide +kernel
theorem dX9_emend_339 : decode cX9_emend 339 = .ok (.goto (-178), 3) := by decide +kernel
theorem dX9_emend_342 : decode cX9_emend 342 = .ok (.iload 4, 2) := by decide +kernel
theorem dX9_emend_344 : decode cX9_emend 344 = .ok (.ireturn, 1) := by decide +kernel
theorem dX9_textOf_0 : decode cX9_textOf 0 = .ok (.aload_n 0, 1) := by decide +kernel
theorem dX9_textOf_1 : decode cX9_textOf 1 = .ok (.aload_n 0, 1) := by decide +kernel
theorem dX9_textOf_2 : decode cX9_textOf 2 = .ok (.iload_n 1, 1) := by decide +kernel
theorem dX9_textOf_3 : decode cX9_textOf 3 = .ok (.invokevirtual 109, 3) := by decide +kernel
theorem dX9_textOf_6 : decode cX9_textOf 6 = .ok (.ifCond .eq 7, 3) := by decide +kernel
theorem dX9_textOf_9 : decode cX9_textOf 9 = .ok (.iload_n 2, 1) := by decide +kernel
theorem dX9_textOf_10 : decode cX9_textOf 10 = .ok (.ifCond .ge 7, 3) := by decide +kernel
theorem dX9_textOf_13 : decode cX9_textOf 13 = .ok (.iconst 1, 1) := by decide +kernel
theorem dX9_textOf_14 : decode cX9_textOf 14 = .ok (.goto 4, 3) := by decide +kernel
theorem dX9_textOf_17 : decode cX9_textOf 17 = .ok (.iconst 0, 1) := by decide +kernel
theorem dX9_textOf_18 : decode cX9_textOf 18 = .ok (.putfield 89, 3) := by decide +kernel
theorem dX9_textOf_21 : decode cX9_textOf 21 = .ok (.aload_n 0, 1) := by decide +kernel
theorem dX9_textOf_22 : decode cX9_textOf 22 = .ok (.getfield 89, 3) := by decide +kernel
theorem dX9_textOf_25 : decode cX9_textOf 25 = .ok (.ifCond .le 7, 3) := by decide +kernel
theorem dX9_textOf_28 : decode cX9_textOf 28 = .ok (.iconst 0, 1) := by decide +kernel
theorem dX9_textOf_29 : decode cX9_textOf 29 = .ok (.goto 28, 3) := by decide +kernel
theorem dX9_textOf_32 : decode cX9_textOf 32 = .ok (.iload_n 2, 1) := by decide +kernel
theorem dX9_textOf_33 : decode cX9_textOf 33 = .ok (.aload_n 0, 1) := by decide +kernel
theorem dX9_textOf_34 : decode cX9_textOf 34 = .ok (.getfield 16, 3) := by decide +kernel
theorem dX9_textOf_37 : decode cX9_textOf 37 = .ok (.iload_n 1, 1) := by decide +kernel
theorem dX9_textOf_38 : decode cX9_textOf 38 = .ok (.iaload, 1) := by decide +kernel
theorem dX9_textOf_39 : decode cX9_textOf 39 = .ok (.if_icmp .ge 17, 3) := by decide +kernel
theorem dX9_textOf_42 : decode cX9_textOf 42 = .ok (.aload_n 0, 1) := by decide +kernel
theorem dX9_textOf_43 : decode cX9_textOf 43 = .ok (.getfield 13, 3) := by decide +kernel
theorem dX9_textOf_46 : decode cX9_textOf 46 = .ok (.bipush 12, 2) := by decide +kernel
theorem dX9_textOf_48 : decode cX9_textOf 48 = .ok (.iload_n 1, 1) := by decide +kernel
theorem dX9_textOf_49 : decode cX9_textOf 49 = .ok (.imul, 1) := by decide +kernel
theorem dX9_textOf_50 : decode cX9_textOf 50 = .ok (.iload_n 2, 1) := by decide +kernel
theorem dX9_textOf_51 : decode cX9_textOf 51 = .ok (.iadd, 1) := by decide +kernel
theorem dX9_textOf_52 : decode cX9_textOf 52 = .ok (.iaload, 1) := by decide +kernel
theorem dX9_textOf_53 : decode cX9_textOf 53 = .ok (.goto 4, 3) := by decide +kernel
theorem dX9_textOf_56 : decode cX9_textOf 56 = .ok (.iconst (-1), 1) := by decide +kernel
theorem dX9_textOf_57 : decode cX9_textOf 57 = .ok (.ireturn, 1) := by decide +kernel
theorem dX9_author_0 : decode cX9_author 0 = .ok (.aload_n 0, 1) := by decide +kernel
theorem dX9_author_1 : decode cX9_author 1 = .ok (.aload_n 0, 1) := by decide +kernel
theorem dX9_author_2 : decode cX9_author 2 = .ok (.iload_n 1, 1) := by decide +kernel
theorem dX9_author_3 : decode cX9_author 3 = .ok (.iconst 0, 1) := by decide +kernel
theorem dX9_author_4 : decode cX9_author 4 = .ok (.sipush 2000, 3) := by decide +kernel
theorem dX9_author_7 : decode cX9_author 7 = .ok (.invokevirtual 96, 3) := by decide +kernel
theorem dX9_author_10 : decode cX9_author 10 = .ok (.ifCond .eq 24, 3) := by decide +kernel
theorem dX9_author_13 : decode cX9_author 13 = .ok (.aload_n 0, 1) := by decide +kernel
theorem dX9_author_14 : decode cX9_author 14 = .ok (.iload_n 2, 1) := by decide +kernel
theorem dX9_author_15 : decode cX9_author 15 = .ok (.iconst 0, 1) := by decide +kernel
theorem dX9_author_16 : decode cX9_author 16 = .ok (.iconst 3, 1) := by decide +kernel
theorem dX9_author_17 : decode cX9_author 17 = .ok (.invokevirtual 96, 3) := by decide +kernel
theorem dX9_author_20 : decode cX9_author 20 = .ok (.ifCond .eq 14, 3) := by decide +kernel
theorem dX9_author_23 : decode cX9_author 23 = .ok (.aload_n 0, 1) := by decide +kernel
theorem dX9_author_24 : decode cX9_author 24 = .ok (.iload_n 3, 1) := by decide +kernel
theorem dX9_author_25 : decode cX9_author 25 = .ok (.iconst 0, 1) := by decide +kernel
theorem dX9_author_26 : decode cX9_author 26 = .ok (.bipush 99, 2) := by decide +kernel
theorem dX9_author_28 : decode cX9_author 28 = .ok (.invokevirtual 96, 3) := by decide +kernel
theorem dX9_author_31 : decode cX9_author 31 = .ok (.ifCond .ne 7, 3) := by decide +kernel
theorem dX9_author_34 : decode cX9_author 34 = .ok (.iconst 1, 1) := by decide +kernel
theorem dX9_author_35 : decode cX9_author 35 = .ok (.goto 17, 3) := by decide +kernel
theorem dX9_author_38 : decode cX9_author 38 = .ok (.aload_n 0, 1) := by decide +kernel
theorem dX9_author_39 : decode cX9_author 39 = .ok (.getfield 100, 3) := by decide +kernel
theorem dX9_author_42 : decode cX9_author 42 = .ok (.bipush 12, 2) := by decide +kernel
theorem dX9_author_44 : decode cX9_author 44 = .ok (.if_icmp .ne 7, 3) := by decide +kernel
theorem dX9_author_47 : decode cX9_author 47 = .ok (.iconst 2, 1) := by decide +kernel
theorem dX9_author_48 : decode cX9_author 48 = .ok (.goto 4, 3) := by decide +kernel
theorem dX9_author_51 : decode cX9_author 51 = .ok (.iconst 0, 1) := by decide +kernel
theorem dX9_author_52 : decode cX9_author 52 = .ok (.putfield 89, 3) := by decide +kernel
theorem dX9_author_55 : decode cX9_author 55 = .ok (.aload_n 0, 1) := by decide +kernel
theorem dX9_author_56 : decode cX9_author 56 = .ok (.getfield 89, 3) := by decide +kernel
theorem dX9_author_59 : decode cX9_author 59 = .ok (.ifCond .le 5, 3) := by decide +kernel
theorem dX9_author_62 : decode cX9_author 62 = .ok (.iconst 0, 1) := by decide +kernel
theorem dX9_author_63 : decode cX9_author 63 = .ok (.ireturn, 1) := by decide +kernel
theorem dX9_author_64 : decode cX9_author 64 = .ok (.aload_n 0, 1) := by decide +kernel
theorem dX9_author_65 : decode cX9_author 65 = .ok (.getfield 19, 3) := by decide +kernel
theorem dX9_author_68 : decode cX9_author 68 = .ok (.aload_n 0, 1) := by decide +kernel
theorem dX9_author_69 : decode cX9_author 69 = .ok (.getfield 100, 3) := by decide +kernel
theorem dX9_author_72 : decode cX9_author 72 = .ok (.iload_n 1, 1) := by decide +kernel
theorem dX9_author_73 : decode cX9_author 73 = .ok (.iastore, 1) := by decide +kernel
theorem dX9_author_74 : decode cX9_author 74 = .ok (.aload_n 0, 1) := by decide +kernel
theorem dX9_author_75 : decode cX9_author 75 = .ok (.getfield 22, 3) := by decide +kernel
theorem dX9_author_78 : decode cX9_author 78 = .ok (.aload_n 0, 1) := by decide +kernel
theorem dX9_author_79 : decode cX9_author 79 = .ok (.getfield 100, 3) := by decide +kernel
theorem dX9_author_82 : decode cX9_author 82 = .ok (.iload_n 2, 1) := by decide +kernel
theorem dX9_author_83 : decode cX9_author 83 = .ok (.iastore, 1) := by decide +kernel
theorem dX9_author_84 : decode cX9_author 84 = .ok (.aload_n 0, 1) := by decide +kernel
theorem dX9_author_85 : decode cX9_author 85 = .ok (.getfield 25, 3) := by decide +kernel
theorem dX9_author_88 : decode cX9_author 88 = .ok (.aload_n 0, 1) := by decide +kernel
theorem dX9_author_89 : decode cX9_author 89 = .ok (.getfield 100, 3) := by decide +kernel
theorem dX9_author_92 : decode cX9_author 92 = .ok (.iload_n 3, 1) := by decide +kernel
theorem dX9_author_93 : decode cX9_author 93 = .ok (.iastore, 1) := by decide +kernel
theorem dX9_author_94 : decode cX9_author 94 = .ok (.aload_n 0, 1) := by decide +kernel
theorem dX9_author_95 : decode cX9_author 95 = .ok (.dup, 1) := by decide +kernel
theorem dX9_author_96 : decode cX9_author 96 = .ok (.getfield 100, 3) := by decide +kernel
theorem dX9_author_99 : decode cX9_author 99 = .ok (.iconst 1, 1) := by decide +kernel
theorem dX9_author_100 : decode cX9_author 100 = .ok (.iadd, 1) := by decide +kernel
theorem dX9_author_101 : decode cX9_author 101 = .ok (.putfield 100, 3) := by decide +kernel
theorem dX9_author_104 : decode cX9_author 104 = .ok (.aload_n 0, 1) := by decide +kernel
theorem dX9_author_105 : decode cX9_author 105 = .ok (.getfield 100, 3) := by decide +kernel
theorem dX9_author_108 : decode cX9_author 108 = .ok (.iconst 1, 1) := by decide +kernel
theorem dX9_author_109 : decode cX9_author 109 = .ok (.isub, 1) := by decide +kernel
theorem dX9_author_110 : decode cX9_author 110 = .ok (.ireturn, 1) := by decide +kernel
theorem dX9_meant_0 : decode cX9_meant 0 = .ok (.aload_n 0, 1) := by decide +kernel
theorem dX9_meant_1 : decode cX9_meant 1 = .ok (.aload_n 0, 1) := by decide +kernel
theorem dX9_meant_2 : decode cX9_meant 2 = .ok (.iload_n 1, 1) := by decide +kernel
theorem dX9_meant_3 : decode cX9_meant 3 = .ok (.iconst 0, 1) := by decide +kernel
theorem dX9_meant_4 : decode cX9_meant 4 = .ok (.bipush 99, 2) := by decide +kernel
theorem dX9_meant_6 : decode cX9_meant 6 = .ok (.invokevirtual 96, 3) := by decide +kernel
theorem dX9_meant_9 : decode cX9_meant 9 = .ok (.ifCond .eq 15, 3) := by decide +kernel
theorem dX9_meant_12 : decode cX9_meant 12 = .ok (.aload_n 0, 1) := by decide +kernel
theorem dX9_meant_13 : decode cX9_meant 13 = .ok (.iload_n 2, 1) := by decide +kernel
theorem dX9_meant_14 : decode cX9_meant 14 = .ok (.iconst 0, 1) := by decide +kernel
theorem dX9_meant_15 : decode cX9_meant 15 = .ok (.sipush 2000, 3) := by decide +kernel
theorem dX9_meant_18 : decode cX9_meant 18 = .ok (.invokevirtual 96, 3) := by decide +kernel
theorem dX9_meant_21 : decode cX9_meant 21 = .ok (.ifCond .ne 7, 3) := by decide +kernel
theorem dX9_meant_24 : decode cX9_meant 24 = .ok (.iconst 1, 1) := by decide +kernel
theorem dX9_meant_25 : decode cX9_meant 25 = .ok (.goto 4, 3) := by decide +kernel
theorem dX9_meant_28 : decode cX9_meant 28 = .ok (.iconst 0, 1) := by decide +kernel
theorem dX9_meant_29 : decode cX9_meant 29 = .ok (.putfield 89, 3) := by decide +kernel
theorem dX9_meant_32 : decode cX9_meant 32 = .ok (.iconst (-1), 1) := by decide +kernel
theorem dX9_meant_33 : decode cX9_meant 33 = .ok (.istore_n 3, 1) := by decide +kernel
theorem dX9_meant_34 : decode cX9_meant 34 = .ok (.iconst 0, 1) := by decide +kernel
theorem dX9_meant_35 : decode cX9_meant 35 = .ok (.istore 4, 2) := by decide +kernel
theorem dX9_meant_37 : decode cX9_meant 37 = .ok (.iload 4, 2) := by decide +kernel
theorem dX9_meant_39 : decode cX9_meant 39 = .ok (.aload_n 0, 1) := by decide +kernel
theorem dX9_meant_40 : decode cX9_meant 40 = .ok (.getfield 100, 3) := by decide +kernel
theorem dX9_meant_43 : decode cX9_meant 43 = .ok (.if_icmp .ge 78, 3) := by decide +kernel
theorem dX9_meant_46 : decode cX9_meant 46 = .ok (.aload_n 0, 1) := by decide +kernel
theorem dX9_meant_47 : decode cX9_meant 47 = .ok (.getfield 89, 3) := by decide +kernel
theorem dX9_meant_50 : decode cX9_meant 50 = .ok (.ifCond .ne 71, 3) := by decide +kernel
theorem dX9_meant_53 : decode cX9_meant 53 = .ok (.aload_n 0, 1) := by decide +kernel
theorem dX9_meant_54 : decode cX9_meant 54 = .ok (.getfield 25, 3) := by decide +kernel
theorem dX9_meant_57 : decode cX9_meant 57 = .ok (.iload 4, 2) := by decide +kernel
theorem dX9_meant_59 : decode cX9_meant 59 = .ok (.iaload, 1) := by decide +kernel
theorem dX9_meant_60 : decode cX9_meant 60 = .ok (.iload_n 1, 1) := by decide +kernel
theorem dX9_meant_61 : decode cX9_meant 61 = .ok (.if_icmp .ne 18, 3) := by decide +kernel
theorem dX9_meant_64 : decode cX9_meant 64 = .ok (.aload_n 0, 1) := by decide +kernel
theorem dX9_meant_65 : decode cX9_meant 65 = .ok (.getfield 19, 3) := by decide +kernel
theorem dX9_meant_68 : decode cX9_meant 68 = .ok (.iload 4, 2) := by decide +kernel
theorem dX9_meant_70 : decode cX9_meant 70 = .ok (.iaload, 1) := by decide +kernel
theorem dX9_meant_71 : decode cX9_meant 71 = .ok (.iload_n 2, 1) := by decide +kernel
theorem dX9_meant_72 : decode cX9_meant 72 = .ok (.if_icmp .gt 7, 3) := by decide +kernel
theorem dX9_meant_75 : decode cX9_meant 75 = .ok (.iconst 1, 1) := by decide +kernel
theorem dX9_meant_76 : decode cX9_meant 76 = .ok (.goto 4, 3) := by decide +kernel
theorem dX9_meant_79 : decode cX9_meant 79 = .ok (.iconst 0, 1) := by decide +kernel
theorem dX9_meant_80 : decode cX9_meant 80 = .ok (.istore 5, 2) := by decide +kernel
theorem dX9_meant_82 : decode cX9_meant 82 = .ok (.iload 5, 2) := by decide +kernel
theorem dX9_meant_84 : decode cX9_meant 84 = .ok (.ifCond .eq 29, 3) := by decide +kernel
theorem dX9_meant_87 : decode cX9_meant 87 = .ok (.iload_n 3, 1) := by decide +kernel
theorem dX9_meant_88 : decode cX9_meant 88 = .ok (.iconst (-1), 1) := by decide +kernel
theorem dX9_meant_89 : decode cX9_meant 89 = .ok (.if_icmp .eq 19, 3) := by decide +kernel
theorem dX9_meant_92 : decode cX9_meant 92 = .ok (.aload_n 0, 1) := by decide +kernel
theorem dX9_meant_93 : decode cX9_meant 93 = .ok (.getfield 19, 3) := by decide +kernel
theorem dX9_meant_96 : decode cX9_meant 96 = .ok (.iload 4, 2) := by decide +kernel
theorem dX9_meant_98 : decode cX9_meant 98 = .ok (.iaload, 1) := by decide +kernel
theorem dX9_meant_99 : decode cX9_meant 99 = .ok (.aload_n 0, 1) := by decide +kernel
theorem dX9_meant_100 : decode cX9_meant 100 = .ok (.getfield 19, 3) := by decide +kernel
theorem dX9_meant_103 : decode cX9_meant 103 = .ok (.iload_n 3, 1) := by decide +kernel
theorem dX9_meant_104 : decode cX9_meant 104 = .ok (.iaload, 1) := by decide +kernel
theorem dX9_meant_105 : decode cX9_meant 105 = .ok (.if_icmp .le 8, 3) := by decide +kernel
theorem dX9_meant_108 : decode cX9_meant 108 = .ok (.iload 4, 2) := by decide +kernel
theorem dX9_meant_110 : decode cX9_meant 110 = .ok (.goto 4, 3) := by decide +kernel
theorem dX9_meant_113 : decode cX9_meant 113 = .ok (.iload_n 3, 1) := by decide +kernel
theorem dX9_meant_114 : decode cX9_meant 114 = .ok (.istore_n 3, 1) := by decide +kernel
theorem dX9_meant_115 : decode cX9_meant 115 = .ok (.iinc 4 1, 3) := by decide +kernel
theorem dX9_meant_118 : decode cX9_meant 118 = .ok (.goto (-81), 3) := by decide +kernel
theorem dX9_meant_121 : decode cX9_meant 121 = .ok (.aload_n 0, 1) := by decide +kernel
theorem dX9_meant_122 : decode cX9_meant 122 = .ok (.getfield 89, 3) := by decide +kernel
theorem dX9_meant_125 : decode cX9_meant 125 = .ok (.ifCond .le 7, 3) := by decide +kernel
theorem dX9_meant_128 : decode cX9_meant 128 = .ok (.iconst 0, 1) := by decide +kernel
theorem dX9_meant_129 : decode cX9_meant 129 = .ok (.goto 4, 3) := by decide +kernel
theorem dX9_meant_132 : decode cX9_meant 132 = .ok (.iload_n 3, 1) := by decide +kernel
theorem dX9_meant_133 : decode cX9_meant 133 = .ok (.ireturn, 1) := by decide +kernel
theorem dX9_isNote_0 : decode cX9_isNote 0 = .ok (.aload_n 0, 1) := by decide +kernel
theorem dX9_isNote_1 : decode cX9_isNote 1 = .ok (.iload_n 1, 1) := by decide +kernel
theorem dX9_isNote_2 : decode cX9_isNote 2 = .ok (.iconst 0, 1) := by decide +kernel
theorem dX9_isNote_3 : decode cX9_isNote 3 = .ok (.iconst 4, 1) := by decide +kernel
theorem dX9_isNote_4 : decode cX9_isNote 4 = .ok (.invokevirtual 96, 3) := by decide +kernel
theorem dX9_isNote_7 : decode cX9_isNote 7 = .ok (.ifCond .eq 28, 3) := by decide +kernel
theorem dX9_isNote_10 : decode cX9_isNote 10 = .ok (.aload_n 0, 1) := by decide +kernel
theorem dX9_isNote_11 : decode cX9_isNote 11 = .ok (.iload_n 2, 1) := by decide +kernel
theorem dX9_isNote_12 : decode cX9_isNote 12 = .ok (.iconst 1, 1) := by decide +kernel
theorem dX9_isNote_13 : decode cX9_isNote 13 = .ok (.bipush 9, 2) := by decide +kernel
theorem dX9_isNote_15 : decode cX9_isNote 15 = .ok (.invokevirtual 96, 3) := by decide +kernel
theorem dX9_isNote_18 : decode cX9_isNote 18 = .ok (.ifCond .eq 17, 3) := by decide +kernel
theorem dX9_isNote_21 : decode cX9_isNote 21 = .ok (.aload_n 0, 1) := by decide +kernel
theorem dX9_isNote_22 : decode cX9_isNote 22 = .ok (.iload_n 3, 1) := by decide +kernel
theorem dX9_isNote_23 : decode cX9_isNote 23 = .ok (.iconst 0, 1) := by decide +kernel
theorem dX9_isNote_24 : decode cX9_isNote 24 = .ok (.iconst 1, 1) := by decide +kernel
theorem dX9_isNote_25 : decode cX9_isNote 25 = .ok (.invokevirtual 96, 3) := by decide +kernel
theorem dX9_isNote_28 : decode cX9_isNote 28 = .ok (.ifCond .eq 7, 3) := by decide +kernel
theorem dX9_isNote_31 : decode cX9_isNote 31 = .ok (.iconst 1, 1) := by decide +kernel
theorem dX9_isNote_32 : decode cX9_isNote 32 = .ok (.goto 4, 3) := by decide +kernel
theorem dX9_isNote_35 : decode cX9_isNote 35 = .ok (.iconst 0, 1) := by decide +kernel
theorem dX9_isNote_36 : decode cX9_isNote 36 = .ok (.ireturn, 1) := by decide +kernel
theorem dX9_added_0 : decode cX9_added 0 = .ok (.aload_n 0, 1) := by decide +kernel
theorem dX9_added_1 : decode cX9_added 1 = .ok (.getfield 103, 3) := by decide +kernel
theorem dX9_added_4 : decode cX9_added 4 = .ok (.istore 5, 2) := by decide +kernel
theorem dX9_added_6 : decode cX9_added 6 = .ok (.aload_n 0, 1) := by decide +kernel
theorem dX9_added_7 : decode cX9_added 7 = .ok (.getfield 28, 3) := by decide +kernel
theorem dX9_added_10 : decode cX9_added 10 = .ok (.iload 5, 2) := by decide +kernel
theorem dX9_added_12 : decode cX9_added 12 = .ok (.iload_n 1, 1) := by decide +kernel
theorem dX9_added_13 : decode cX9_added 13 = .ok (.iastore, 1) := by decide +kernel
theorem dX9_added_14 : decode cX9_added 14 = .ok (.aload_n 0, 1) := by decide +kernel
theorem dX9_added_15 : decode cX9_added 15 = .ok (.getfield 31, 3) := by decide +kernel
theorem dX9_added_18 : decode cX9_added 18 = .ok (.iload 5, 2) := by decide +kernel
theorem dX9_added_20 : decode cX9_added 20 = .ok (.iload_n 2, 1) := by decide +kernel
theorem dX9_added_21 : decode cX9_added 21 = .ok (.iastore, 1) := by decide +kernel
theorem dX9_added_22 : decode cX9_added 22 = .ok (.aload_n 0, 1) := by decide +kernel
theorem dX9_added_23 : decode cX9_added 23 = .ok (.getfield 53, 3) := by decide +kernel
theorem dX9_added_26 : decode cX9_added 26 = .ok (.iload 5, 2) := by decide +kernel
theorem dX9_added_28 : decode cX9_added 28 = .ok (.iload_n 3, 1) := by decide +kernel
theorem dX9_added_29 : decode cX9_added 29 = .ok (.iastore, 1) := by decide +kernel
theorem dX9_added_30 : decode cX9_added 30 = .ok (.aload_n 0, 1) := by decide +kernel
theorem dX9_added_31 : decode cX9_added 31 = .ok (.getfield 56, 3) := by decide +kernel
theorem dX9_added_34 : decode cX9_added 34 = .ok (.iload 5, 2) := by decide +kernel
theorem dX9_added_36 : decode cX9_added 36 = .ok (.iload 4, 2) := by decide +kernel
theorem dX9_added_38 : decode cX9_added 38 = .ok (.iastore, 1) := by decide +kernel
theorem dX9_added_39 : decode cX9_added 39 = .ok (.aload_n 0, 1) := by decide +kernel
theorem dX9_added_40 : decode cX9_added 40 = .ok (.dup, 1) := by decide +kernel
theorem dX9_added_41 : decode cX9_added 41 = .ok (.getfield 103, 3) := by decide +kernel
theorem dX9_added_44 : decode cX9_added 44 = .ok (.iconst 1, 1) := by decide +kernel
theorem dX9_added_45 : decode cX9_added 45 = .ok (.iadd, 1) := by decide +kernel
theorem dX9_added_46 : decode cX9_added 46 = .ok (.putfield 103, 3) := by decide +kernel
theorem dX9_added_49 : decode cX9_added 49 = .ok (.iload 5, 2) := by decide +kernel
theorem dX9_added_51 : decode cX9_added 51 = .ok (.ireturn, 1) := by decide +kernel
theorem dX9_comment_0 : decode cX9_comment 0 = .ok (.aload_n 0, 1) := by decide +kernel
theorem dX9_comment_1 : decode cX9_comment 1 = .ok (.aload_n 0, 1) := by decide +kernel
theorem dX9_comment_2 : decode cX9_comment 2 = .ok (.iload_n 1, 1) := by decide +kernel
theorem dX9_comment_3 : decode cX9_comment 3 = .ok (.invokevirtual 117, 3) := by decide +kernel
theorem dX9_comment_6 : decode cX9_comment 6 = .ok (.ifCond .eq 11, 3) := by decide +kernel
theorem dX9_comment_9 : decode cX9_comment 9 = .ok (.aload_n 0, 1) := by decide +kernel
theorem dX9_comment_10 : decode cX9_comment 10 = .ok (.iload_n 2, 1) := by decide +kernel
theorem dX9_comment_11 : decode cX9_comment 11 = .ok (.invokevirtual 109, 3) := by decide +kernel
theorem dX9_comment_14 : decode cX9_comment 14 = .ok (.ifCond .ne 7, 3) := by decide +kernel
theorem dX9_comment_17 : decode cX9_comment 17 = .ok (.iconst 1, 1) := by decide +kernel
theorem dX9_comment_18 : decode cX9_comment 18 = .ok (.goto 44, 3) := by decide +kernel
theorem dX9_comment_21 : decode cX9_comment 21 = .ok (.aload_n 0, 1) := by decide +kernel
theorem dX9_comment_22 : decode cX9_comment 22 = .ok (.iload_n 3, 1) := by decide +kernel
theorem dX9_comment_23 : decode cX9_comment 23 = .ok (.iload 6, 2) := by decide +kernel
theorem dX9_comment_25 : decode cX9_comment 25 = .ok (.iload 7, 2) := by decide +kernel
theorem dX9_comment_27 : decode cX9_comment 27 = .ok (.invokevirtual 120, 3) := by decide +kernel
theorem dX9_comment_30 : decode cX9_comment 30 = .ok (.ifCond .eq 27, 3) := by decide +kernel
theorem dX9_comment_33 : decode cX9_comment 33 = .ok (.aload_n 0, 1) := by decide +kernel
theorem dX9_comment_34 : decode cX9_comment 34 = .ok (.iload 4, 2) := by decide +kernel
theorem dX9_comment_36 : decode cX9_comment 36 = .ok (.iconst 0, 1) := by decide +kernel
theorem dX9_comment_37 : decode cX9_comment 37 = .ok (.bipush 59, 2) := by decide +kernel
theorem dX9_comment_39 : decode cX9_comment 39 = .ok (.invokevirtual 96, 3) := by decide +kernel
theorem dX9_comment_42 : decode cX9_comment 42 = .ok (.ifCond .eq 15, 3) := by decide +kernel
theorem dX9_comment_45 : decode cX9_comment 45 = .ok (.aload_n 0, 1) := by decide +kernel
theorem dX9_comment_46 : decode cX9_comment 46 = .ok (.iload 5, 2) := by decide +kernel
theorem dX9_comment_48 : decode cX9_comment 48 = .ok (.iconst 1, 1) := by decide +kernel
theorem dX9_comment_49 : decode cX9_comment 49 = .ok (.bipush 12, 2) := by decide +kernel
theorem dX9_comment_51 : decode cX9_comment 51 = .ok (.invokevirtual 96, 3) := by decide +kernel
theorem dX9_comment_54 : decode cX9_comment 54 = .ok (.ifCond .ne 7, 3) := by decide +kernel
theorem dX9_comment_57 : decode cX9_comment 57 = .ok (.iconst 2, 1) := by decide +kernel
theorem dX9_comment_58 : decode cX9_comment 58 = .ok (.goto 4, 3) := by decide +kernel
theorem dX9_comment_61 : decode cX9_comment 61 = .ok (.iconst 0, 1) := by decide +kernel
theorem dX9_comment_62 : decode cX9_comment 62 = .ok (.putfield 89, 3) := by decide +kernel
theorem dX9_comment_65 : decode cX9_comment 65 = .ok (.aload_n 0, 1) := by decide +kernel
theorem dX9_comment_66 : decode cX9_comment 66 = .ok (.getfield 89, 3) := by decide +kernel
theorem dX9_comment_69 : decode cX9_comment 69 = .ok (.ifCond .le 5, 3) := by decide +kernel
theorem dX9_comment_72 : decode cX9_comment 72 = .ok (.iconst 0, 1) := by decide +kernel
theorem dX9_comment_73 : decode cX9_comment 73 = .ok (.ireturn, 1) := by decide +kernel
theorem dX9_comment_74 : decode cX9_comment 74 = .ok (.iconst (-1), 1) := by decide +kernel
theorem dX9_comment_75 : decode cX9_comment 75 = .ok (.istore 8, 2) := by decide +kernel
theorem dX9_comment_77 : decode cX9_comment 77 = .ok (.iconst 0, 1) := by decide +kernel
theorem dX9_comment_78 : decode cX9_comment 78 = .ok (.istore 9, 2) := by decide +kernel
theorem dX9_comment_80 : decode cX9_comment 80 = .ok (.iconst 0, 1) := by decide +kernel
theorem dX9_comment_81 : decode cX9_comment 81 = .ok (.istore 10, 2) := by decide +kernel
theorem dX9_comment_83 : decode cX9_comment 83 = .ok (.iload 10, 2) := by decide +kernel
theorem dX9_comment_85 : decode cX9_comment 85 = .ok (.aload_n 0, 1) := by decide +kernel
theorem dX9_comment_86 : decode cX9_comment 86 = .ok (.getfield 16, 3) := by decide +kernel
theorem dX9_comment_89 : decode cX9_comment 89 = .ok (.iload_n 2, 1) := by decide +kernel
theorem dX9_comment_90 : decode cX9_comment 90 = .ok (.iaload, 1) := by decide +kernel
theorem dX9_comment_91 : decode cX9_comment 91 = .ok (.if_icmp .ge 69, 3) := by decide +kernel
theorem dX9_comment_94 : decode cX9_comment 94 = .ok (.iload 9, 2) := by decide +kernel
theorem dX9_comment_96 : decode cX9_comment 96 = .ok (.aload_n 0, 1) := by decide +kernel
theorem dX9_comment_97 : decode cX9_comment 97 = .ok (.getfield 13, 3) := by decide +kernel
theorem dX9_comment_100 : decode cX9_comment 100 = .ok (.bipush 12, 2) := by decide +kernel
theorem dX9_comment_102 : decode cX9_comment 102 = .ok (.iload_n 2, 1) := by decide +kernel
theorem dX9_comment_103 : decode cX9_comment 103 = .ok (.imul, 1) := by decide +kernel
theorem dX9_comment_104 : decode cX9_comment 104 = .ok (.iload 10, 2) := by decide +kernel
theorem dX9_comment_106 : decode cX9_comment 106 = .ok (.iadd, 1) := by decide +kernel
theorem dX9_comment_107 : decode cX9_comment 107 = .ok (.iaload, 1) := by decide +kernel
theorem dX9_comment_108 : decode cX9_comment 108 = .ok (.iload 4, 2) := by decide +kernel
theorem dX9_comment_110 : decode cX9_comment 110 = .ok (.if_icmp .ne 7, 3) := by decide +kernel
theorem dX9_comment_113 : decode cX9_comment 113 = .ok (.iconst 1, 1) := by decide +kernel
theorem dX9_comment_114 : decode cX9_comment 114 = .ok (.goto 4, 3) := by decide +kernel
theorem dX9_comment_117 : decode cX9_comment 117 = .ok (.iconst 0, 1) := by decide +kernel
theorem dX9_comment_118 : decode cX9_comment 118 = .ok (.iadd, 1) := by decide +kernel
theorem dX9_comment_119 : decode cX9_comment 119 = .ok (.istore 9, 2) := by decide +kernel
theorem dX9_comment_121 : decode cX9_comment 121 = .ok (.aload_n 0, 1) := by decide +kernel
theorem dX9_comment_122 : decode cX9_comment 122 = .ok (.getfield 13, 3) := by decide +kernel
theorem dX9_comment_125 : decode cX9_comment 125 = .ok (.bipush 12, 2) := by decide +kernel
theorem dX9_comment_127 : decode cX9_comment 127 = .ok (.iload_n 2, 1) := by decide +kernel
theorem dX9_comment_128 : decode cX9_comment 128 = .ok (.imul, 1) := by decide +kernel
theorem dX9_comment_129 : decode cX9_comment 129 = .ok (.iload 10, 2) := by decide +kernel
theorem dX9_comment_131 : decode cX9_comment 131 = .ok (.iadd, 1) := by decide +kernel
theorem dX9_comment_132 : decode cX9_comment 132 = .ok (.iaload, 1) := by decide +kernel
theorem dX9_comment_133 : decode cX9_comment 133 = .ok (.iload 4, 2) := by decide +kernel
theorem dX9_comment_135 : decode cX9_comment 135 = .ok (.if_icmp .ne 15, 3) := by decide +kernel
theorem dX9_comment_138 : decode cX9_comment 138 = .ok (.iload 9, 2) := by decide +kernel
theorem dX9_comment_140 : decode cX9_comment 140 = .ok (.iload 5, 2) := by decide +kernel
theorem dX9_comment_142 : decode cX9_comment 142 = .ok (.if_icmp .ne 8, 3) := by decide +kernel
theorem dX9_comment_145 : decode cX9_comment 145 = .ok (.iload 10, 2) := by decide +kernel
theorem dX9_comment_147 : decode cX9_comment 147 = .ok (.goto 5, 3) := by decide +kernel
theorem dX9_comment_150 : decode cX9_comment 150 = .ok (.iload 8, 2) := by decide +kernel
theorem dX9_comment_152 : decode cX9_comment 152 = .ok (.istore 8, 2) := by decide +kernel
theorem dX9_comment_154 : decode cX9_comment 154 = .ok (.iinc 10 1, 3) := by decide +kernel
theorem dX9_comment_157 : decode cX9_comment 157 = .ok (.goto (-74), 3) := by decide +kernel
theorem dX9_comment_160 : decode cX9_comment 160 = .ok (.aload_n 0, 1) := by decide +kernel
theorem dX9_comment_161 : decode cX9_comment 161 = .ok (.aload_n 0, 1) := by decide +kernel
theorem dX9_comment_162 : decode cX9_comment 162 = .ok (.getfield 103, 3) := by decide +kernel
theorem dX9_comment_165 : decode cX9_comment 165 = .ok (.bipush 60, 2) := by decide +kernel
theorem dX9_comment_167 : decode cX9_comment 167 = .ok (.if_icmp .eq 9, 3) := by decide +kernel
theorem dX9_comment_170 : decode cX9_comment 170 = .ok (.iload 8, 2) := by decide +kernel
theorem dX9_comment_172 : decode cX9_comment 172 = .ok (.iconst (-1), 1) := by decide +kernel
theorem dX9_comment_173 : decode cX9_comment 173 = .ok (.if_icmp .ne 7, 3) := by decide +kernel
theorem dX9_comment_176 : decode cX9_comment 176 = .ok (.iconst 3, 1) := by decide +kernel
theorem dX9_comment_177 : decode cX9_comment 177 = .ok (.goto 4, 3) := by decide +kernel
theorem dX9_comment_180 : decode cX9_comment 180 = .ok (.iconst 0, 1) := by decide +kernel
theorem dX9_comment_181 : decode cX9_comment 181 = .ok (.putfield 89, 3) := by decide +kernel
theorem dX9_comment_184 : decode cX9_comment 184 = .ok (.aload_n 0, 1) := by decide +kernel
theorem dX9_comment_185 : decode cX9_comment 185 = .ok (.getfield 89, 3) := by decide +kernel
theorem dX9_comment_188 : decode cX9_comment 188 = .ok (.ifCond .le 5, 3) := by decide +kernel
theorem dX9_comment_191 : decode cX9_comment 191 = .ok (.iconst 0, 1) := by decide +kernel
theorem dX9_comment_192 : decode cX9_comment 192 = .ok (.ireturn, 1) := by decide +kernel
theorem dX9_comment_193 : decode cX9_comment 193 = .ok (.aload_n 0, 1) := by decide +kernel
theorem dX9_comment_194 : decode cX9_comment 194 = .ok (.iload_n 1, 1) := by decide +kernel
theorem dX9_comment_195 : decode cX9_comment 195 = .ok (.iload_n 3, 1) := by decide +kernel
theorem dX9_comment_196 : decode cX9_comment 196 = .ok (.iload 6, 2) := by decide +kernel
theorem dX9_comment_198 : decode cX9_comment 198 = .ok (.iload 7, 2) := by decide +kernel
theorem dX9_comment_200 : decode cX9_comment 200 = .ok (.invokevirtual 123, 3) := by decide +kernel
theorem dX9_comment_203 : decode cX9_comment 203 = .ok (.istore 10, 2) := by decide +kernel
theorem dX9_comment_205 : decode cX9_comment 205 = .ok (.aload_n 0, 1) := by decide +kernel
theorem dX9_comment_206 : decode cX9_comment 206 = .ok (.getfield 34, 3) := by decide +kernel
theorem dX9_comment_209 : decode cX9_comment 209 = .ok (.iload 10, 2) := by decide +kernel
theorem dX9_comment_211 : decode cX9_comment 211 = .ok (.iconst (-1), 1) := by decide +kernel
theorem dX9_comment_212 : decode cX9_comment 212 = .ok (.iastore, 1) := by decide +kernel
theorem dX9_comment_213 : decode cX9_comment 213 = .ok (.aload_n 0, 1) := by decide +kernel
theorem dX9_comment_214 : decode cX9_comment 214 = .ok (.getfield 37, 3) := by decide +kernel
theorem dX9_comment_217 : decode cX9_comment 217 = .ok (.iload 10, 2) := by decide +kernel
theorem dX9_comment_219 : decode cX9_comment 219 = .ok (.iload 10, 2) := by decide +kernel
theorem dX9_comment_221 : decode cX9_comment 221 = .ok (.iastore, 1) := by decide +kernel
theorem dX9_comment_222 : decode cX9_comment 222 = .ok (.aload_n 0, 1) := by decide +kernel
theorem dX9_comment_223 : decode cX9_comment 223 = .ok (.getfield 40, 3) := by decide +kernel
theorem dX9_comment_226 : decode cX9_comment 226 = .ok (.iload 10, 2) := by decide +kernel
theorem dX9_comment_228 : decode cX9_comment 228 = .ok (.iload_n 2, 1) := by decide +kernel
theorem dX9_comment_229 : decode cX9_comment 229 = .ok (.iastore, 1) := by decide +kernel
theorem dX9_comment_230 : decode cX9_comment 230 = .ok (.aload_n 0, 1) := by decide +kernel
theorem dX9_comment_231 : decode cX9_comment 231 = .ok (.getfield 43, 3) := by decide +kernel
theorem dX9_comment_234 : decode cX9_comment 234 = .ok (.iload 10, 2) := by decide +kernel
theorem dX9_comment_236 : decode cX9_comment 236 = .ok (.iload 4, 2) := by decide +kernel
theorem dX9_comment_238 : decode cX9_comment 238 = .ok (.iastore, 1) := by decide +kernel
theorem dX9_comment_239 : decode cX9_comment 239 = .ok (.aload_n 0, 1) := by decide +kernel
theorem dX9_comment_240 : decode cX9_comment 240 = .ok (.getfield 46, 3) := by decide +kernel
theorem dX9_comment_243 : decode cX9_comment 243 = .ok (.iload 10, 2) := by decide +kernel
theorem dX9_comment_245 : decode cX9_comment 245 = .ok (.iload 8, 2) := by decide +kernel
theorem dX9_comment_247 : decode cX9_comment 247 = .ok (.iastore, 1) := by decide +kernel
theorem dX9_comment_248 : decode cX9_comment 248 = .ok (.iload 10, 2) := by decide +kernel
theorem dX9_comment_250 : decode cX9_comment 250 = .ok (.ireturn, 1) := by decide +kernel
theorem dX9_gloss_0 : decode cX9_gloss 0 = .ok (.aload_n 0, 1) := by decide +kernel
theorem dX9_gloss_1 : decode cX9_gloss 1 = .ok (.aload_n 0, 1) := by decide +kernel
theorem dX9_gloss_2 : decode cX9_gloss 2 = .ok (.iload_n 1, 1) := by decide +kernel
theorem dX9_gloss_3 : decode cX9_gloss 3 = .ok (.invokevirtual 117, 3) := by decide +kernel
theorem dX9_gloss_6 : decode cX9_gloss 6 = .ok (.ifCond .eq 11, 3) := by decide +kernel
theorem dX9_gloss_9 : decode cX9_gloss 9 = .ok (.aload_n 0, 1) := by decide +kernel
theorem dX9_gloss_10 : decode cX9_gloss 10 = .ok (.iload_n 2, 1) := by decide +kernel
theorem dX9_gloss_11 : decode cX9_gloss 11 = .ok (.invokevirtual 127, 3) := by decide +kernel
theorem dX9_gloss_14 : decode cX9_gloss 14 = .ok (.ifCond .ne 7, 3) := by decide +kernel
theorem dX9_gloss_17 : decode cX9_gloss 17 = .ok (.iconst 1, 1) := by decide +kernel
theorem dX9_gloss_18 : decode cX9_gloss 18 = .ok (.goto 20, 3) := by decide +kernel
theorem dX9_gloss_21 : decode cX9_gloss 21 = .ok (.aload_n 0, 1) := by decide +kernel
theorem dX9_gloss_22 : decode cX9_gloss 22 = .ok (.iload_n 3, 1) := by decide +kernel
theorem dX9_gloss_23 : decode cX9_gloss 23 = .ok (.iload 4, 2) := by decide +kernel
theorem dX9_gloss_25 : decode cX9_gloss 25 = .ok (.iload 5, 2) := by decide +kernel
theorem dX9_gloss_27 : decode cX9_gloss 27 = .ok (.invokevirtual 120, 3) := by decide +kernel
theorem dX9_gloss_30 : decode cX9_gloss 30 = .ok (.ifCond .ne 7, 3) := by decide +kernel
theorem dX9_gloss_33 : decode cX9_gloss 33 = .ok (.iconst 2, 1) := by decide +kernel
theorem dX9_gloss_34 : decode cX9_gloss 34 = .ok (.goto 4, 3) := by decide +kernel
theorem dX9_gloss_37 : decode cX9_gloss 37 = .ok (.iconst 0, 1) := by decide +kernel
theorem dX9_gloss_38 : decode cX9_gloss 38 = .ok (.putfield 89, 3) := by decide +kernel
theorem dX9_gloss_41 : decode cX9_gloss 41 = .ok (.aload_n 0, 1) := by decide +kernel
theorem dX9_gloss_42 : decode cX9_gloss 42 = .ok (.getfield 89, 3) := by decide +kernel
theorem dX9_gloss_45 : decode cX9_gloss 45 = .ok (.ifCond .ne 41, 3) := by decide +kernel
theorem dX9_gloss_48 : decode cX9_gloss 48 = .ok (.aload_n 0, 1) := by decide +kernel
theorem dX9_gloss_49 : decode cX9_gloss 49 = .ok (.aload_n 0, 1) := by decide +kernel
theorem dX9_gloss_50 : decode cX9_gloss 50 = .ok (.getfield 103, 3) := by decide +kernel
theorem dX9_gloss_53 : decode cX9_gloss 53 = .ok (.bipush 60, 2) := by decide +kernel
theorem dX9_gloss_55 : decode cX9_gloss 55 = .ok (.if_icmp .eq 23, 3) := by decide +kernel
theorem dX9_gloss_58 : decode cX9_gloss 58 = .ok (.aload_n 0, 1) := by decide +kernel
theorem dX9_gloss_59 : decode cX9_gloss 59 = .ok (.getfield 19, 3) := by decide +kernel
theorem dX9_gloss_62 : decode cX9_gloss 62 = .ok (.aload_n 0, 1) := by decide +kernel
theorem dX9_gloss_63 : decode cX9_gloss 63 = .ok (.getfield 28, 3) := by decide +kernel
theorem dX9_gloss_66 : decode cX9_gloss 66 = .ok (.iload_n 2, 1) := by decide +kernel
theorem dX9_gloss_67 : decode cX9_gloss 67 = .ok (.iaload, 1) := by decide +kernel
theorem dX9_gloss_68 : decode cX9_gloss 68 = .ok (.iaload, 1) := by decide +kernel
theorem dX9_gloss_69 : decode cX9_gloss 69 = .ok (.aload_n 0, 1) := by decide +kernel
theorem dX9_gloss_70 : decode cX9_gloss 70 = .ok (.getfield 19, 3) := by decide +kernel
theorem dX9_gloss_73 : decode cX9_gloss 73 = .ok (.iload_n 1, 1) := by decide +kernel
theorem dX9_gloss_74 : decode cX9_gloss 74 = .ok (.iaload, 1) := by decide +kernel
theorem dX9_gloss_75 : decode cX9_gloss 75 = .ok (.if_icmp .le 7, 3) := by decide +kernel
theorem dX9_gloss_78 : decode cX9_gloss 78 = .ok (.iconst 3, 1) := by decide +kernel
theorem dX9_gloss_79 : decode cX9_gloss 79 = .ok (.goto 4, 3) := by decide +kernel
theorem dX9_gloss_82 : decode cX9_gloss 82 = .ok (.iconst 0, 1) := by decide +kernel
theorem dX9_gloss_83 : decode cX9_gloss 83 = .ok (.putfield 89, 3) := by decide +kernel
theorem dX9_gloss_86 : decode cX9_gloss 86 = .ok (.aload_n 0, 1) := by decide +kernel
theorem dX9_gloss_87 : decode cX9_gloss 87 = .ok (.getfield 89, 3) := by decide +kernel
theorem dX9_gloss_90 : decode cX9_gloss 90 = .ok (.ifCond .le 5, 3) := by decide +kernel
theorem dX9_gloss_93 : decode cX9_gloss 93 = .ok (.iconst 0, 1) := by decide +kernel
theorem dX9_gloss_94 : decode cX9_gloss 94 = .ok (.ireturn, 1) := by decide +kernel
theorem dX9_gloss_95 : decode cX9_gloss 95 = .ok (.aload_n 0, 1) := by decide +kernel
theorem dX9_gloss_96 : decode cX9_gloss 96 = .ok (.iload_n 1, 1) := by decide +kernel
theorem dX9_gloss_97 : decode cX9_gloss 97 = .ok (.iload_n 3, 1) := by decide +kernel
theorem dX9_gloss_98 : decode cX9_gloss 98 = .ok (.iload 4, 2) := by decide +kernel
theorem dX9_gloss_100 : decode cX9_gloss 100 = .ok (.iload 5, 2) := by decide +kernel
theorem dX9_gloss_102 : decode cX9_gloss 102 = .ok (.invokevirtual 123, 3) := by decide +kernel
theorem dX9_gloss_105 : decode cX9_gloss 105 = .ok (.istore 6, 2) := by decide +kernel
theorem dX9_gloss_107 : decode cX9_gloss 107 = .ok (.aload_n 0, 1) := by decide +kernel
theorem dX9_gloss_108 : decode cX9_gloss 108 = .ok (.getfield 34, 3) := by decide +kernel
theorem dX9_gloss_111 : decode cX9_gloss 111 = .ok (.iload 6, 2) := by decide +kernel
theorem dX9_gloss_113 : decode cX9_gloss 113 = .ok (.iload_n 2, 1) := by decide +kernel
theorem dX9_gloss_114 : decode cX9_gloss 114 = .ok (.iastore, 1) := by decide +kernel
theorem dX9_gloss_115 : decode cX9_gloss 115 = .ok (.aload_n 0, 1) := by decide +kernel
theorem dX9_gloss_116 : decode cX9_gloss 116 = .ok (.getfield 37, 3) := by decide +kernel
theorem dX9_gloss_119 : decode cX9_gloss 119 = .ok (.iload 6, 2) := by decide +kernel
theorem dX9_gloss_121 : decode cX9_gloss 121 = .ok (.aload_n 0, 1) := by decide +kernel
theorem dX9_gloss_122 : decode cX9_gloss 122 = .ok (.getfield 37, 3) := by decide +kernel
theorem dX9_gloss_125 : decode cX9_gloss 125 = .ok (.iload_n 2, 1) := by decide +kernel
theorem dX9_gloss_126 : decode cX9_gloss 126 = .ok (.iaload, 1) := by decide +kernel
theorem dX9_gloss_127 : decode cX9_gloss 127 = .ok (.iastore, 1) := by decide +kernel
theorem dX9_gloss_128 : decode cX9_gloss 128 = .ok (.aload_n 0, 1) := by decide +kernel
theorem dX9_gloss_129 : decode cX9_gloss 129 = .ok (.getfield 40, 3) := by decide +kernel
theorem dX9_gloss_132 : decode cX9_gloss 132 = .ok (.iload 6, 2) := by decide +kernel
theorem dX9_gloss_134 : decode cX9_gloss 134 = .ok (.aload_n 0, 1) := by decide +kernel
theorem dX9_gloss_135 : decode cX9_gloss 135 = .ok (.getfield 40, 3) := by decide +kernel
theorem dX9_gloss_138 : decode cX9_gloss 138 = .ok (.iload_n 2, 1) := by decide +kernel
theorem dX9_gloss_139 : decode cX9_gloss 139 = .ok (.iaload, 1) := by decide +kernel
theorem dX9_gloss_140 : decode cX9_gloss 140 = .ok (.iastore, 1) := by decide +kernel
theorem dX9_gloss_141 : decode cX9_gloss 141 = .ok (.iload 6, 2) := by decide +kernel
theorem dX9_gloss_143 : decode cX9_gloss 143 = .ok (.ireturn, 1) := by decide +kernel
theorem dX9_layStands_0 : decode cX9_layStands 0 = .ok (.aload_n 0, 1) := by decide +kernel
theorem dX9_layStands_1 : decode cX9_layStands 1 = .ok (.getfield 103, 3) := by decide +kernel
theorem dX9_layStands_4 : decode cX9_layStands 4 = .ok (.iconst 1, 1) := by decide +kernel
theorem dX9_layStands_5 : decode cX9_layStands 5 = .ok (.isub, 1) := by decide +kernel
theorem dX9_layStands_6 : decode cX9_layStands 6 = .ok (.istore_n 1, 1) := by decide +kernel
theorem dX9_layStands_7 : decode cX9_layStands 7 = .ok (.iload_n 1, 1) := by decide +kernel
theorem dX9_layStands_8 : decode cX9_layStands 8 = .ok (.ifCond .lt 121, 3) := by decide +kernel
theorem dX9_layStands_11 : decode cX9_layStands 11 = .ok (.iconst 0, 1) := by decide +kernel
theorem dX9_layStands_12 : decode cX9_layStands 12 = .ok (.istore_n 2, 1) := by decide +kernel
theorem dX9_layStands_13 : decode cX9_layStands 13 = .ok (.iconst 0, 1) := by decide +kernel
theorem dX9_layStands_14 : decode cX9_layStands 14 = .ok (.istore_n 3, 1) := by decide +kernel
theorem dX9_layStands_15 : decode cX9_layStands 15 = .ok (.iload_n 1, 1) := by decide +kernel
theorem dX9_layStands_16 : decode cX9_layStands 16 = .ok (.iconst 1, 1) := by decide +kernel
theorem dX9_layStands_17 : decode cX9_layStands 17 = .ok (.iadd, 1) := by decide +kernel
theorem dX9_layStands_18 : decode cX9_layStands 18 = .ok (.istore 4, 2) := by decide +kernel
theorem dX9_layStands_20 : decode cX9_layStands 20 = .ok (.iload 4, 2) := by decide +kernel
theorem dX9_layStands_22 : decode cX9_layStands 22 = .ok (.aload_n 0, 1) := by decide +kernel
theorem dX9_layStands_23 : decode cX9_layStands 23 = .ok (.getfield 103, 3) := by decide +kernel
theorem dX9_layStands_26 : decode cX9_layStands 26 = .ok (.if_icmp .ge 79, 3) := by decide +kernel
theorem dX9_layStands_29 : decode cX9_layStands 29 = .ok (.aload_n 0, 1) := by decide +kernel
theorem dX9_layStands_30 : decode cX9_layStands 30 = .ok (.getfield 34, 3) := by decide +kernel
theorem dX9_layStands_33 : decode cX9_layStands 33 = .ok (.iload 4, 2) := by decide +kernel
theorem dX9_layStands_35 : decode cX9_layStands 35 = .ok (.iaload, 1) := by decide +kernel
theorem dX9_layStands_36 : decode cX9_layStands 36 = .ok (.iload_n 1, 1) := by decide +kernel
theorem dX9_layStands_37 : decode cX9_layStands 37 = .ok (.if_icmp .ne 62, 3) := by decide +kernel
theorem dX9_layStands_40 : decode cX9_layStands 40 = .ok (.aload_n 0, 1) := by decide +kernel
theorem dX9_layStands_41 : decode cX9_layStands 41 = .ok (.getfield 59, 3) := by decide +kernel
theorem dX9_layStands_44 : decode cX9_layStands 44 = .ok (.iload 4, 2) := by decide +kernel
theorem dX9_layStands_46 : decode cX9_layStands 46 = .ok (.baload, 1) := by decide +kernel
theorem dX9_layStands_47 : decode cX9_layStands 47 = .ok (.ifCond .eq 52, 3) := by decide +kernel
theorem dX9_layStands_50 : decode cX9_layStands 50 = .ok (.iload_n 2, 1) := by decide +kernel
theorem dX9_layStands_51 : decode cX9_layStands 51 = .ok (.aload_n 0, 1) := by decide +kernel
theorem dX9_layStands_52 : decode cX9_layStands 52 = .ok (.getfield 31, 3) := by decide +kernel
theorem dX9_layStands_55 : decode cX9_layStands 55 = .ok (.iload 4, 2) := by decide +kernel
theorem dX9_layStands_57 : decode cX9_layStands 57 = .ok (.iaload, 1) := by decide +kernel
theorem dX9_layStands_58 : decode cX9_layStands 58 = .ok (.iconst 1, 1) := by decide +kernel
theorem dX9_layStands_59 : decode cX9_layStands 59 = .ok (.if_icmp .eq 14, 3) := by decide +kernel
theorem dX9_layStands_62 : decode cX9_layStands 62 = .ok (.aload_n 0, 1) := by decide +kernel
theorem dX9_layStands_63 : decode cX9_layStands 63 = .ok (.getfield 31, 3) := by decide +kernel
theorem dX9_layStands_66 : decode cX9_layStands 66 = .ok (.iload 4, 2) := by decide +kernel
theorem dX9_layStands_68 : decode cX9_layStands 68 = .ok (.iaload, 1) := by decide +kernel
theorem dX9_layStands_69 : decode cX9_layStands 69 = .ok (.iconst 3, 1) := by decide +kernel
theorem dX9_layStands_70 : decode cX9_layStands 70 = .ok (.if_icmp .ne 7, 3) := by decide +kernel
theorem dX9_layStands_73 : decode cX9_layStands 73 = .ok (.iconst 1, 1) := by decide +kernel
theorem dX9_layStands_74 : decode cX9_layStands 74 = .ok (.goto 4, 3) := by decide +kernel
theorem dX9_layStands_77 : decode cX9_layStands 77 = .ok (.iconst 0, 1) := by decide +kernel
theorem dX9_layStands_78 : decode cX9_layStands 78 = .ok (.iadd, 1) := by decide +kernel
theorem dX9_layStands_79 : decode cX9_layStands 79 = .ok (.istore_n 2, 1) := by decide +kernel
theorem dX9_layStands_80 : decode cX9_layStands 80 = .ok (.iload_n 3, 1) := by decide +kernel
theorem dX9_layStands_81 : decode cX9_layStands 81 = .ok (.aload_n 0, 1) := by decide +kernel
theorem dX9_layStands_82 : decode cX9_layStands 82 = .ok (.getfield 31, 3) := by decide +kernel
theorem dX9_layStands_85 : decode cX9_layStands 85 = .ok (.iload 4, 2) := by decide +kernel
theorem dX9_layStands_87 : decode cX9_layStands 87 = .ok (.iaload, 1) := by decide +kernel
theorem dX9_layStands_88 : decode cX9_layStands 88 = .ok (.iconst 2, 1) := by decide +kernel
theorem dX9_layStands_89 : decode cX9_layStands 89 = .ok (.if_icmp .ne 7, 3) := by decide +kernel
theorem dX9_layStands_92 : decode cX9_layStands 92 = .ok (.iconst 1, 1) := by decide +kernel
theorem dX9_layStands_93 : decode cX9_layStands 93 = .ok (.goto 4, 3) := by decide +kernel
theorem dX9_layStands_96 : decode cX9_layStands 96 = .ok (.iconst 0, 1) := by decide +kernel
theorem dX9_layStands_97 : decode cX9_layStands 97 = .ok (.iadd, 1) := by decide +kernel
theorem dX9_layStands_98 : decode cX9_layStands 98 = .ok (.istore_n 3, 1) := by decide +kernel
theorem dX9_layStands_99 : decode cX9_layStands 99 = .ok (.iinc 4 1, 3) := by decide +kernel
theorem dX9_layStands_102 : decode cX9_layStands 102 = .ok (.goto (-82), 3) := by decide +kernel
theorem dX9_layStands_105 : decode cX9_layStands 105 = .ok (.aload_n 0, 1) := by decide +kernel
theorem dX9_layStands_106 : decode cX9_layStands 106 = .ok (.getfield 59, 3) := by decide +kernel
theorem dX9_layStands_109 : decode cX9_layStands 109 = .ok (.iload_n 1, 1) := by decide +kernel
theorem dX9_layStands_110 : decode cX9_layStands 110 = .ok (.iload_n 2, 1) := by decide +kernel
theorem dX9_layStands_111 : decode cX9_layStands 111 = .ok (.iconst 1, 1) := by decide +kernel
theorem dX9_layStands_112 : decode cX9_layStands 112 = .ok (.iload_n 3, 1) := by decide +kernel
theorem dX9_layStands_113 : decode cX9_layStands 113 = .ok (.iadd, 1) := by decide +kernel
theorem dX9_layStands_114 : decode cX9_layStands 114 = .ok (.if_icmp .ge 7, 3) := by decide +kernel
theorem dX9_layStands_117 : decode cX9_layStands 117 = .ok (.iconst 1, 1) := by decide +kernel
theorem dX9_layStands_118 : decode cX9_layStands 118 = .ok (.goto 4, 3) := by decide +kernel
theorem dX9_layStands_121 : decode cX9_layStands 121 = .ok (.iconst 0, 1) := by decide +kernel
theorem dX9_layStands_122 : decode cX9_layStands 122 = .ok (.bastore, 1) := by decide +kernel
theorem dX9_layStands_123 : decode cX9_layStands 123 = .ok (.iinc 1 (-1), 3) := by decide +kernel
theorem dX9_layStands_126 : decode cX9_layStands 126 = .ok (.goto (-119), 3) := by decide +kernel
theorem dX9_layStands_129 : decode cX9_layStands 129 = .ok (.return_, 1) := by decide +kernel
theorem dX9_told_0 : decode cX9_told 0 = .ok (.aload_n 0, 1) := by decide +kernel
theorem dX9_told_1 : decode cX9_told 1 = .ok (.aload_n 0, 1) := by decide +kernel
theorem dX9_told_2 : decode cX9_told 2 = .ok (.iload_n 1, 1) := by decide +kernel
theorem dX9_told_3 : decode cX9_told 3 = .ok (.invokevirtual 127, 3) := by decide +kernel
theorem dX9_told_6 : decode cX9_told 6 = .ok (.ifCond .ne 7, 3) := by decide +kernel
theorem dX9_told_9 : decode cX9_told 9 = .ok (.iconst 1, 1) := by decide +kernel
theorem dX9_told_10 : decode cX9_told 10 = .ok (.goto 19, 3) := by decide +kernel
theorem dX9_told_13 : decode cX9_told 13 = .ok (.aload_n 0, 1) := by decide +kernel
theorem dX9_told_14 : decode cX9_told 14 = .ok (.iload_n 2, 1) := by decide +kernel
theorem dX9_told_15 : decode cX9_told 15 = .ok (.iconst 0, 1) := by decide +kernel
theorem dX9_told_16 : decode cX9_told 16 = .ok (.bipush 6, 2) := by decide +kernel
theorem dX9_told_18 : decode cX9_told 18 = .ok (.invokevirtual 96, 3) := by decide +kernel
theorem dX9_told_21 : decode cX9_told 21 = .ok (.ifCond .ne 7, 3) := by decide +kernel
theorem dX9_told_24 : decode cX9_told 24 = .ok (.iconst 2, 1) := by decide +kernel
theorem dX9_told_25 : decode cX9_told 25 = .ok (.goto 4, 3) := by decide +kernel
theorem dX9_told_28 : decode cX9_told 28 = .ok (.iconst 0, 1) := by decide +kernel
theorem dX9_told_29 : decode cX9_told 29 = .ok (.putfield 89, 3) := by decide +kernel
theorem dX9_told_32 : decode cX9_told 32 = .ok (.aload_n 0, 1) := by decide +kernel
theorem dX9_told_33 : decode cX9_told 33 = .ok (.getfield 89, 3) := by decide +kernel
theorem dX9_told_36 : decode cX9_told 36 = .ok (.ifCond .le 5, 3) := by decide +kernel
theorem dX9_told_39 : decode cX9_told 39 = .ok (.iconst 0, 1) := by decide +kernel
theorem dX9_told_40 : decode cX9_told 40 = .ok (.ireturn, 1) := by decide +kernel
theorem dX9_told_41 : decode cX9_told 41 = .ok (.aload_n 0, 1) := by decide +kernel
theorem dX9_told_42 : decode cX9_told 42 = .ok (.invokevirtual 130, 3) := by decide +kernel
theorem dX9_told_45 : decode cX9_told 45 = .ok (.iload_n 2, 1) := by decide +kernel
theorem dX9_told_46 : decode cX9_told 46 = .ok (.tableswitch 106 0 5 #[38, 45, 52, 64, 84, 99], 38) := by decide +kernel
theorem dX9_told_84 : decode cX9_told 84 = .ok (.aload_n 0, 1) := by decide +kernel
theorem dX9_told_85 : decode cX9_told 85 = .ok (.getfield 28, 3) := by decide +kernel
theorem dX9_told_88 : decode cX9_told 88 = .ok (.iload_n 1, 1) := by decide +kernel
theorem dX9_told_89 : decode cX9_told 89 = .ok (.iaload, 1) := by decide +kernel
theorem dX9_told_90 : decode cX9_told 90 = .ok (.ireturn, 1) := by decide +kernel
theorem dX9_told_91 : decode cX9_told 91 = .ok (.aload_n 0, 1) := by decide +kernel
theorem dX9_told_92 : decode cX9_told 92 = .ok (.getfield 40, 3) := by decide +kernel
theorem dX9_told_95 : decode cX9_told 95 = .ok (.iload_n 1, 1) := by decide +kernel
theorem dX9_told_96 : decode cX9_told 96 = .ok (.iaload, 1) := by decide +kernel
theorem dX9_told_97 : decode cX9_told 97 = .ok (.ireturn, 1) := by decide +kernel
theorem dX9_told_98 : decode cX9_told 98 = .ok (.aload_n 0, 1) := by decide +kernel
theorem dX9_told_99 : decode cX9_told 99 = .ok (.getfield 46, 3) := by decide +kernel
theorem dX9_told_102 : decode cX9_told 102 = .ok (.aload_n 0, 1) := by decide +kernel
theorem dX9_told_103 : decode cX9_told 103 = .ok (.getfield 37, 3) := by decide +kernel
theorem dX9_told_106 : decode cX9_told 106 = .ok (.iload_n 1, 1) := by decide +kernel
theorem dX9_told_107 : decode cX9_told 107 = .ok (.iaload, 1) := by decide +kernel
theorem dX9_told_108 : decode cX9_told 108 = .ok (.iaload, 1) := by decide +kernel
theorem dX9_told_109 : decode cX9_told 109 = .ok (.ireturn, 1) := by decide +kernel
theorem dX9_told_110 : decode cX9_told 110 = .ok (.aload_n 0, 1) := by decide +kernel
theorem dX9_told_111 : decode cX9_told 111 = .ok (.getfield 49, 3) := by decide +kernel
theorem dX9_told_114 : decode cX9_told 114 = .ok (.aload_n 0, 1) := by decide +kernel
theorem dX9_told_115 : decode cX9_told 115 = .ok (.getfield 37, 3) := by decide +kernel
theorem dX9_told_118 : decode cX9_told 118 = .ok (.iload_n 1, 1) := by decide +kernel
theorem dX9_told_119 : decode cX9_told 119 = .ok (.iaload, 1) := by decide +kernel
theorem dX9_told_120 : decode cX9_told 120 = .ok (.baload, 1) := by decide +kernel
theorem dX9_told_121 : decode cX9_told 121 = .ok (.ifCond .eq 7, 3) := by decide +kernel
theorem dX9_told_124 : decode cX9_told 124 = .ok (.iconst 1, 1) := by decide +kernel
theorem dX9_told_125 : decode cX9_told 125 = .ok (.goto 4, 3) := by decide +kernel
theorem dX9_told_128 : decode cX9_told 128 = .ok (.iconst 0, 1) := by decide +kernel
theorem dX9_told_129 : decode cX9_told 129 = .ok (.ireturn, 1) := by decide +kernel
theorem dX9_told_130 : decode cX9_told 130 = .ok (.aload_n 0, 1) := by decide +kernel
theorem dX9_told_131 : decode cX9_told 131 = .ok (.getfield 59, 3) := by decide +kernel
theorem dX9_told_134 : decode cX9_told 134 = .ok (.iload_n 1, 1) := by decide +kernel
theorem dX9_told_135 : decode cX9_told 135 = .ok (.baload, 1) := by decide +kernel
theorem dX9_told_136 : decode cX9_told 136 = .ok (.ifCond .eq 7, 3) := by decide +kernel
theorem dX9_told_139 : decode cX9_told 139 = .ok (.iconst 1, 1) := by decide +kernel
theorem dX9_told_140 : decode cX9_told 140 = .ok (.goto 4, 3) := by decide +kernel
theorem dX9_told_143 : decode cX9_told 143 = .ok (.iconst 0, 1) := by decide +kernel
theorem dX9_told_144 : decode cX9_told 144 = .ok (.ireturn, 1) := by decide +kernel
theorem dX9_told_145 : decode cX9_told 145 = .ok (.aload_n 0, 1) := by decide +kernel
theorem dX9_told_146 : decode cX9_told 146 = .ok (.getfield 34, 3) := by decide +kernel
theorem dX9_told_149 : decode cX9_told 149 = .ok (.iload_n 1, 1) := by decide +kernel
theorem dX9_told_150 : decode cX9_told 150 = .ok (.iaload, 1) := by decide +kernel
theorem dX9_told_151 : decode cX9_told 151 = .ok (.ireturn, 1) := by decide +kernel
theorem dX9_told_152 : decode cX9_told 152 = .ok (.aload_n 0, 1) := by decide +kernel
theorem dX9_told_153 : decode cX9_told 153 = .ok (.getfield 31, 3) := by decide +kernel
theorem dX9_told_156 : decode cX9_told 156 = .ok (.iload_n 1, 1) := by decide +kernel
theorem dX9_told_157 : decode cX9_told 157 = .ok (.iaload, 1) := by decide +kernel
theorem dX9_told_158 : decode cX9_told 158 = .ok (.ireturn, 1) := by decide +kernel
theorem dX9_standsAnew_0 : decode cX9_standsAnew 0 = .ok (.aload_n 0, 1) := by decide +kernel
theorem dX9_standsAnew_1 : decode cX9_standsAnew 1 = .ok (.aload_n 0, 1) := by decide +kernel
theorem dX9_standsAnew_2 : decode cX9_standsAnew 2 = .ok (.iload_n 1, 1) := by decide +kernel
theorem dX9_standsAnew_3 : decode cX9_standsAnew 3 = .ok (.invokevirtual 127, 3) := by decide +kernel
theorem dX9_standsAnew_6 : decode cX9_standsAnew 6 = .ok (.ifCond .ne 7, 3) := by decide +kernel
theorem dX9_standsAnew_9 : decode cX9_standsAnew 9 = .ok (.iconst 1, 1) := by decide +kernel
theorem dX9_standsAnew_10 : decode cX9_standsAnew 10 = .ok (.goto 4, 3) := by decide +kernel
theorem dX9_standsAnew_13 : decode cX9_standsAnew 13 = .ok (.iconst 0, 1) := by decide +kernel
theorem dX9_standsAnew_14 : decode cX9_standsAnew 14 = .ok (.putfield 89, 3) := by decide +kernel
theorem dX9_standsAnew_17 : decode cX9_standsAnew 17 = .ok (.aload_n 0, 1) := by decide +kernel
theorem dX9_standsAnew_18 : decode cX9_standsAnew 18 = .ok (.getfield 89, 3) := by decide +kernel
theorem dX9_standsAnew_21 : decode cX9_standsAnew 21 = .ok (.ifCond .le 5, 3) := by decide +kernel
theorem dX9_standsAnew_24 : decode cX9_standsAnew 24 = .ok (.iconst 0, 1) := by decide +kernel
theorem dX9_standsAnew_25 : decode cX9_standsAnew 25 = .ok (.ireturn, 1) := by decide +kernel
theorem dX9_standsAnew_26 : decode cX9_standsAnew 26 = .ok (.aload_n 0, 1) := by decide +kernel
theorem dX9_standsAnew_27 : decode cX9_standsAnew 27 = .ok (.invokevirtual 130, 3) := by decide +kernel
theorem dX9_standsAnew_30 : decode cX9_standsAnew 30 = .ok (.aload_n 0, 1) := by decide +kernel
theorem dX9_standsAnew_31 : decode cX9_standsAnew 31 = .ok (.getfield 59, 3) := by decide +kernel
theorem dX9_standsAnew_34 : decode cX9_standsAnew 34 = .ok (.iload_n 1, 1) := by decide +kernel
theorem dX9_standsAnew_35 : decode cX9_standsAnew 35 = .ok (.baload, 1) := by decide +kernel
theorem dX9_standsAnew_36 : decode cX9_standsAnew 36 = .ok (.ireturn, 1) := by decide +kernel
theorem dX9_asks_0 : decode cX9_asks 0 = .ok (.aload_n 0, 1) := by decide +kernel
theorem dX9_asks_1 : decode cX9_asks 1 = .ok (.getfield 34, 3) := by decide +kernel
theorem dX9_asks_4 : decode cX9_asks 4 = .ok (.iload_n 1, 1) := by decide +kernel
theorem dX9_asks_5 : decode cX9_asks 5 = .ok (.iaload, 1) := by decide +kernel
theorem dX9_asks_6 : decode cX9_asks 6 = .ok (.iconst (-1), 1) := by decide +kernel
theorem dX9_asks_7 : decode cX9_asks 7 = .ok (.if_icmp .ne 26, 3) := by decide +kernel
theorem dX9_asks_10 : decode cX9_asks 10 = .ok (.aload_n 0, 1) := by decide +kernel
theorem dX9_asks_11 : decode cX9_asks 11 = .ok (.getfield 31, 3) := by decide +kernel
theorem dX9_asks_14 : decode cX9_asks 14 = .ok (.iload_n 1, 1) := by decide +kernel
theorem dX9_asks_15 : decode cX9_asks 15 = .ok (.iaload, 1) := by decide +kernel
theorem dX9_asks_16 : decode cX9_asks 16 = .ok (.ifCond .eq 13, 3) := by decide +kernel
theorem dX9_asks_19 : decode cX9_asks 19 = .ok (.aload_n 0, 1) := by decide +kernel
theorem dX9_asks_20 : decode cX9_asks 20 = .ok (.getfield 31, 3) := by decide +kernel
theorem dX9_asks_23 : decode cX9_asks 23 = .ok (.iload_n 1, 1) := by decide +kernel
theorem dX9_asks_24 : decode cX9_asks 24 = .ok (.iaload, 1) := by decide +kernel
theorem dX9_asks_25 : decode cX9_asks 25 = .ok (.iconst 1, 1) := by decide +kernel
theorem dX9_asks_26 : decode cX9_asks 26 = .ok (.if_icmp .ne 7, 3) := by decide +kernel
theorem dX9_asks_29 : decode cX9_asks 29 = .ok (.iconst 1, 1) := by decide +kernel
theorem dX9_asks_30 : decode cX9_asks 30 = .ok (.goto 4, 3) := by decide +kernel
theorem dX9_asks_33 : decode cX9_asks 33 = .ok (.iconst 0, 1) := by decide +kernel
theorem dX9_asks_34 : decode cX9_asks 34 = .ok (.ireturn, 1) := by decide +kernel
theorem dX9_isHard_0 : decode cX9_isHard 0 = .ok (.aload_n 0, 1) := by decide +kernel
theorem dX9_isHard_1 : decode cX9_isHard 1 = .ok (.aload_n 0, 1) := by decide +kernel
theorem dX9_isHard_2 : decode cX9_isHard 2 = .ok (.iload_n 1, 1) := by decide +kernel
theorem dX9_isHard_3 : decode cX9_isHard 3 = .ok (.invokevirtual 109, 3) := by decide +kernel
theorem dX9_isHard_6 : decode cX9_isHard 6 = .ok (.ifCond .ne 7, 3) := by decide +kernel
theorem dX9_isHard_9 : decode cX9_isHard 9 = .ok (.iconst 1, 1) := by decide +kernel
theorem dX9_isHard_10 : decode cX9_isHard 10 = .ok (.goto 4, 3) := by decide +kernel
theorem dX9_isHard_13 : decode cX9_isHard 13 = .ok (.iconst 0, 1) := by decide +kernel
theorem dX9_isHard_14 : decode cX9_isHard 14 = .ok (.putfield 89, 3) := by decide +kernel
theorem dX9_isHard_17 : decode cX9_isHard 17 = .ok (.aload_n 0, 1) := by decide +kernel
theorem dX9_isHard_18 : decode cX9_isHard 18 = .ok (.invokevirtual 130, 3) := by decide +kernel
theorem dX9_isHard_21 : decode cX9_isHard 21 = .ok (.iconst 0, 1) := by decide +kernel
theorem dX9_isHard_22 : decode cX9_isHard 22 = .ok (.istore_n 2, 1) := by decide +kernel
theorem dX9_isHard_23 : decode cX9_isHard 23 = .ok (.iconst 0, 1) := by decide +kernel
theorem dX9_isHard_24 : decode cX9_isHard 24 = .ok (.istore_n 3, 1) := by decide +kernel
theorem dX9_isHard_25 : decode cX9_isHard 25 = .ok (.iload_n 3, 1) := by decide +kernel
theorem dX9_isHard_26 : decode cX9_isHard 26 = .ok (.aload_n 0, 1) := by decide +kernel
theorem dX9_isHard_27 : decode cX9_isHard 27 = .ok (.getfield 103, 3) := by decide +kernel
theorem dX9_isHard_30 : decode cX9_isHard 30 = .ok (.if_icmp .ge 53, 3) := by decide +kernel
theorem dX9_isHard_33 : decode cX9_isHard 33 = .ok (.aload_n 0, 1) := by decide +kernel
theorem dX9_isHard_34 : decode cX9_isHard 34 = .ok (.getfield 89, 3) := by decide +kernel
theorem dX9_isHard_37 : decode cX9_isHard 37 = .ok (.ifCond .ne 46, 3) := by decide +kernel
theorem dX9_isHard_40 : decode cX9_isHard 40 = .ok (.iload_n 2, 1) := by decide +kernel
theorem dX9_isHard_41 : decode cX9_isHard 41 = .ok (.ifCond .ne 30, 3) := by decide +kernel
theorem dX9_isHard_44 : decode cX9_isHard 44 = .ok (.aload_n 0, 1) := by decide +kernel
theorem dX9_isHard_45 : decode cX9_isHard 45 = .ok (.getfield 40, 3) := by decide +kernel
theorem dX9_isHard_48 : decode cX9_isHard 48 = .ok (.iload_n 3, 1) := by decide +kernel
theorem dX9_isHard_49 : decode cX9_isHard 49 = .ok (.iaload, 1) := by decide +kernel
theorem dX9_isHard_50 : decode cX9_isHard 50 = .ok (.iload_n 1, 1) := by decide +kernel
theorem dX9_isHard_51 : decode cX9_isHard 51 = .ok (.if_icmp .ne 24, 3) := by decide +kernel
theorem dX9_isHard_54 : decode cX9_isHard 54 = .ok (.aload_n 0, 1) := by decide +kernel
theorem dX9_isHard_55 : decode cX9_isHard 55 = .ok (.iload_n 3, 1) := by decide +kernel
theorem dX9_isHard_56 : decode cX9_isHard 56 = .ok (.invokevirtual 133, 3) := by decide +kernel
theorem dX9_isHard_59 : decode cX9_isHard 59 = .ok (.ifCond .eq 16, 3) := by decide +kernel
theorem dX9_isHard_62 : decode cX9_isHard 62 = .ok (.aload_n 0, 1) := by decide +kernel
theorem dX9_isHard_63 : decode cX9_isHard 63 = .ok (.getfield 59, 3) := by decide +kernel
theorem dX9_isHard_66 : decode cX9_isHard 66 = .ok (.iload_n 3, 1) := by decide +kernel
theorem dX9_isHard_67 : decode cX9_isHard 67 = .ok (.baload, 1) := by decide +kernel
theorem dX9_isHard_68 : decode cX9_isHard 68 = .ok (.ifCond .eq 7, 3) := by decide +kernel
theorem dX9_isHard_71 : decode cX9_isHard 71 = .ok (.iconst 1, 1) := by decide +kernel
theorem dX9_isHard_72 : decode cX9_isHard 72 = .ok (.goto 4, 3) := by decide +kernel
theorem dX9_isHard_75 : decode cX9_isHard 75 = .ok (.iconst 0, 1) := by decide +kernel
theorem dX9_isHard_76 : decode cX9_isHard 76 = .ok (.istore_n 2, 1) := by decide +kernel
theorem dX9_isHard_77 : decode cX9_isHard 77 = .ok (.iinc 3 1, 3) := by decide +kernel
theorem dX9_isHard_80 : decode cX9_isHard 80 = .ok (.goto (-55), 3) := by decide +kernel
theorem dX9_isHard_83 : decode cX9_isHard 83 = .ok (.iload_n 2, 1) := by decide +kernel
theorem dX9_isHard_84 : decode cX9_isHard 84 = .ok (.ireturn, 1) := by decide +kernel
theorem dX9_solved_0 : decode cX9_solved 0 = .ok (.aload_n 0, 1) := by decide +kernel
theorem dX9_solved_1 : decode cX9_solved 1 = .ok (.aload_n 0, 1) := by decide +kernel
theorem dX9_solved_2 : decode cX9_solved 2 = .ok (.iload_n 1, 1) := by decide +kernel
theorem dX9_solved_3 : decode cX9_solved 3 = .ok (.iconst 0, 1) := by decide +kernel
theorem dX9_solved_4 : decode cX9_solved 4 = .ok (.iconst 3, 1) := by decide +kernel
theorem dX9_solved_5 : decode cX9_solved 5 = .ok (.invokevirtual 96, 3) := by decide +kernel
theorem dX9_solved_8 : decode cX9_solved 8 = .ok (.ifCond .ne 7, 3) := by decide +kernel
theorem dX9_solved_11 : decode cX9_solved 11 = .ok (.iconst 1, 1) := by decide +kernel
theorem dX9_solved_12 : decode cX9_solved 12 = .ok (.goto 4, 3) := by decide +kernel
theorem dX9_solved_15 : decode cX9_solved 15 = .ok (.iconst 0, 1) := by decide +kernel
theorem dX9_solved_16 : decode cX9_solved 16 = .ok (.putfield 89, 3) := by decide +kernel
theorem dX9_solved_19 : decode cX9_solved 19 = .ok (.aload_n 0, 1) := by decide +kernel
theorem dX9_solved_20 : decode cX9_solved 20 = .ok (.invokevirtual 130, 3) := by decide +kernel
theorem dX9_solved_23 : decode cX9_solved 23 = .ok (.iconst 0, 1) := by decide +kernel
theorem dX9_solved_24 : decode cX9_solved 24 = .ok (.istore_n 2, 1) := by decide +kernel
theorem dX9_solved_25 : decode cX9_solved 25 = .ok (.iconst 0, 1) := by decide +kernel
theorem dX9_solved_26 : decode cX9_solved 26 = .ok (.istore_n 3, 1) := by decide +kernel
theorem dX9_solved_27 : decode cX9_solved 27 = .ok (.iload_n 3, 1) := by decide +kernel
theorem dX9_solved_28 : decode cX9_solved 28 = .ok (.aload_n 0, 1) := by decide +kernel
theorem dX9_solved_29 : decode cX9_solved 29 = .ok (.getfield 103, 3) := by decide +kernel
theorem dX9_solved_32 : decode cX9_solved 32 = .ok (.if_icmp .ge 127, 3) := by decide +kernel
theorem dX9_solved_35 : decode cX9_solved 35 = .ok (.aload_n 0, 1) := by decide +kernel
theorem dX9_solved_36 : decode cX9_solved 36 = .ok (.getfield 89, 3) := by decide +kernel
theorem dX9_solved_39 : decode cX9_solved 39 = .ok (.ifCond .ne 120, 3) := by decide +kernel
theorem dX9_solved_42 : decode cX9_solved 42 = .ok (.iconst (-1), 1) := by decide +kernel
theorem dX9_solved_43 : decode cX9_solved 43 = .ok (.istore 4, 2) := by decide +kernel
theorem dX9_solved_45 : decode cX9_solved 45 = .ok (.aload_n 0, 1) := by decide +kernel
theorem dX9_solved_46 : decode cX9_solved 46 = .ok (.getfield 103, 3) := by decide +kernel
theorem dX9_solved_49 : decode cX9_solved 49 = .ok (.iconst 1, 1) := by decide +kernel
theorem dX9_solved_50 : decode cX9_solved 50 = .ok (.isub, 1) := by decide +kernel
theorem dX9_solved_51 : decode cX9_solved 51 = .ok (.istore 5, 2) := by decide +kernel
theorem dX9_solved_53 : decode cX9_solved 53 = .ok (.iload 5, 2) := by decide +kernel
theorem dX9_solved_55 : decode cX9_solved 55 = .ok (.iload_n 3, 1) := by decide +kernel
theorem dX9_solved_56 : decode cX9_solved 56 = .ok (.if_icmp .le 50, 3) := by decide +kernel
theorem dX9_solved_59 : decode cX9_solved 59 = .ok (.aload_n 0, 1) := by decide +kernel
theorem dX9_solved_60 : decode cX9_solved 60 = .ok (.getfield 34, 3) := by decide +kernel
theorem dX9_solved_63 : decode cX9_solved 63 = .ok (.iload 5, 2) := by decide +kernel
theorem dX9_solved_65 : decode cX9_solved 65 = .ok (.iaload, 1) := by decide +kernel
theorem dX9_solved_66 : decode cX9_solved 66 = .ok (.iload_n 3, 1) := by decide +kernel
theorem dX9_solved_67 : decode cX9_solved 67 = .ok (.if_icmp .ne 29, 3) := by decide +kernel
theorem dX9_solved_70 : decode cX9_solved 70 = .ok (.aload_n 0, 1) := by decide +kernel
theorem dX9_solved_71 : decode cX9_solved 71 = .ok (.getfield 31, 3) := by decide +kernel
theorem dX9_solved_74 : decode cX9_solved 74 = .ok (.iload 5, 2) := by decide +kernel
theorem dX9_solved_76 : decode cX9_solved 76 = .ok (.iaload, 1) := by decide +kernel
theorem dX9_solved_77 : decode cX9_solved 77 = .ok (.iconst 3, 1) := by decide +kernel
theorem dX9_solved_78 : decode cX9_solved 78 = .ok (.if_icmp .ne 18, 3) := by decide +kernel
theorem dX9_solved_81 : decode cX9_solved 81 = .ok (.aload_n 0, 1) := by decide +kernel
theorem dX9_solved_82 : decode cX9_solved 82 = .ok (.getfield 59, 3) := by decide +kernel
theorem dX9_solved_85 : decode cX9_solved 85 = .ok (.iload 5, 2) := by decide +kernel
theorem dX9_solved_87 : decode cX9_solved 87 = .ok (.baload, 1) := by decide +kernel
theorem dX9_solved_88 : decode cX9_solved 88 = .ok (.ifCond .eq 8, 3) := by decide +kernel
theorem dX9_solved_91 : decode cX9_solved 91 = .ok (.iload 5, 2) := by decide +kernel
theorem dX9_solved_93 : decode cX9_solved 93 = .ok (.goto 5, 3) := by decide +kernel
theorem dX9_solved_96 : decode cX9_solved 96 = .ok (.iload 4, 2) := by decide +kernel
theorem dX9_solved_98 : decode cX9_solved 98 = .ok (.istore 4, 2) := by decide +kernel
theorem dX9_solved_100 : decode cX9_solved 100 = .ok (.iinc 5 (-1), 3) := by decide +kernel
theorem dX9_solved_103 : decode cX9_solved 103 = .ok (.goto (-50), 3) := by decide +kernel
theorem dX9_solved_106 : decode cX9_solved 106 = .ok (.iload_n 2, 1) := by decide +kernel
theorem dX9_solved_107 : decode cX9_solved 107 = .ok (.aload_n 0, 1) := by decide +kernel
theorem dX9_solved_108 : decode cX9_solved 108 = .ok (.iload_n 3, 1) := by decide +kernel
theorem dX9_solved_109 : decode cX9_solved 109 = .ok (.invokevirtual 133, 3) := by decide +kernel
theorem dX9_solved_112 : decode cX9_solved 112 = .ok (.ifCond .eq 38, 3) := by decide +kernel
theorem dX9_solved_115 : decode cX9_solved 115 = .ok (.aload_n 0, 1) := by decide +kernel
theorem dX9_solved_116 : decode cX9_solved 116 = .ok (.getfield 59, 3) := by decide +kernel
theorem dX9_solved_119 : decode cX9_solved 119 = .ok (.iload_n 3, 1) := by decide +kernel
theorem dX9_solved_120 : decode cX9_solved 120 = .ok (.baload, 1) := by decide +kernel
theorem dX9_solved_121 : decode cX9_solved 121 = .ok (.ifCond .ne 29, 3) := by decide +kernel
theorem dX9_solved_124 : decode cX9_solved 124 = .ok (.iload 4, 2) := by decide +kernel
theorem dX9_solved_126 : decode cX9_solved 126 = .ok (.iconst (-1), 1) := by decide +kernel
theorem dX9_solved_127 : decode cX9_solved 127 = .ok (.if_icmp .eq 23, 3) := by decide +kernel
theorem dX9_solved_130 : decode cX9_solved 130 = .ok (.aload_n 0, 1) := by decide +kernel
theorem dX9_solved_131 : decode cX9_solved 131 = .ok (.getfield 22, 3) := by decide +kernel
theorem dX9_solved_134 : decode cX9_solved 134 = .ok (.aload_n 0, 1) := by decide +kernel
theorem dX9_solved_135 : decode cX9_solved 135 = .ok (.getfield 28, 3) := by decide +kernel
theorem dX9_solved_138 : decode cX9_solved 138 = .ok (.iload 4, 2) := by decide +kernel
theorem dX9_solved_140 : decode cX9_solved 140 = .ok (.iaload, 1) := by decide +kernel
theorem dX9_solved_141 : decode cX9_solved 141 = .ok (.iaload, 1) := by decide +kernel
theorem dX9_solved_142 : decode cX9_solved 142 = .ok (.iload_n 1, 1) := by decide +kernel
theorem dX9_solved_143 : decode cX9_solved 143 = .ok (.if_icmp .ne 7, 3) := by decide +kernel
theorem dX9_solved_146 : decode cX9_solved 146 = .ok (.iconst 1, 1) := by decide +kernel
theorem dX9_solved_147 : decode cX9_solved 147 = .ok (.goto 4, 3) := by decide +kernel
theorem dX9_solved_150 : decode cX9_solved 150 = .ok (.iconst 0, 1) := by decide +kernel
theorem dX9_solved_151 : decode cX9_solved 151 = .ok (.iadd, 1) := by decide +kernel
theorem dX9_solved_152 : decode cX9_solved 152 = .ok (.istore_n 2, 1) := by decide +kernel
theorem dX9_solved_153 : decode cX9_solved 153 = .ok (.iinc 3 1, 3) := by decide +kernel
theorem dX9_solved_156 : decode cX9_solved 156 = .ok (.goto (-129), 3) := by decide +kernel
theorem dX9_solved_159 : decode cX9_solved 159 = .ok (.iload_n 2, 1) := by decide +kernel
theorem dX9_solved_160 : decode cX9_solved 160 = .ok (.ireturn, 1) := by decide +kernel
theorem dX9_likeness_0 : decode cX9_likeness 0 = .ok (.iconst 0, 1) := by decide +kernel
theorem dX9_likeness_1 : decode cX9_likeness 1 = .ok (.istore_n 2, 1) := by decide +kernel
theorem dX9_likeness_2 : decode cX9_likeness 2 = .ok (.iload_n 2, 1) := by decide +kernel
theorem dX9_likeness_3 : decode cX9_likeness 3 = .ok (.bipush 13, 2) := by decide +kernel
theorem dX9_likeness_5 : decode cX9_likeness 5 = .ok (.if_icmp .ge 16, 3) := by decide +kernel
theorem dX9_likeness_8 : decode cX9_likeness 8 = .ok (.aload_n 0, 1) := by decide +kernel
theorem dX9_likeness_9 : decode cX9_likeness 9 = .ok (.getfield 86, 3) := by decide +kernel
theorem dX9_likeness_12 : decode cX9_likeness 12 = .ok (.iload_n 2, 1) := by decide +kernel
theorem dX9_likeness_13 : decode cX9_likeness 13 = .ok (.iconst 0, 1) := by decide +kernel
theorem dX9_likeness_14 : decode cX9_likeness 14 = .ok (.iastore, 1) := by decide +kernel
theorem dX9_likeness_15 : decode cX9_likeness 15 = .ok (.iinc 2 1, 3) := by decide +kernel
theorem dX9_likeness_18 : decode cX9_likeness 18 = .ok (.goto (-16), 3) := by decide +kernel
theorem dX9_likeness_21 : decode cX9_likeness 21 = .ok (.iconst 0, 1) := by decide +kernel
theorem dX9_likeness_22 : decode cX9_likeness 22 = .ok (.istore_n 2, 1) := by decide +kernel
theorem dX9_likeness_23 : decode cX9_likeness 23 = .ok (.iload_n 2, 1) := by decide +kernel
theorem dX9_likeness_24 : decode cX9_likeness 24 = .ok (.aload_n 0, 1) := by decide +kernel
theorem dX9_likeness_25 : decode cX9_likeness 25 = .ok (.getfield 106, 3) := by decide +kernel
theorem dX9_likeness_28 : decode cX9_likeness 28 = .ok (.if_icmp .ge 108, 3) := by decide +kernel
theorem dX9_likeness_31 : decode cX9_likeness 31 = .ok (.iconst 0, 1) := by decide +kernel
theorem dX9_likeness_32 : decode cX9_likeness 32 = .ok (.istore_n 3, 1) := by decide +kernel
theorem dX9_likeness_33 : decode cX9_likeness 33 = .ok (.iconst 0, 1) := by decide +kernel
theorem dX9_likeness_34 : decode cX9_likeness 34 = .ok (.istore 4, 2) := by decide +kernel
theorem dX9_likeness_36 : decode cX9_likeness 36 = .ok (.iload 4, 2) := by decide +kernel
theorem dX9_likeness_38 : decode cX9_likeness 38 = .ok (.aload_n 0, 1) := by decide +kernel
theorem dX9_likeness_39 : decode cX9_likeness 39 = .ok (.getfield 16, 3) := by decide +kernel
theorem dX9_likeness_42 : decode cX9_likeness 42 = .ok (.iload_n 1, 1) := by decide +kernel
theorem dX9_likeness_43 : decode cX9_likeness 43 = .ok (.iaload, 1) := by decide +kernel
theorem dX9_likeness_44 : decode cX9_likeness 44 = .ok (.if_icmp .ge 86, 3) := by decide +kernel
theorem dX9_likeness_47 : decode cX9_likeness 47 = .ok (.aload_n 0, 1) := by decide +kernel
theorem dX9_likeness_48 : decode cX9_likeness 48 = .ok (.getfield 86, 3) := by decide +kernel
theorem dX9_likeness_51 : decode cX9_likeness 51 = .ok (.iload 4, 2) := by decide +kernel
theorem dX9_likeness_53 : decode cX9_likeness 53 = .ok (.iconst 1, 1) := by decide +kernel
theorem dX9_likeness_54 : decode cX9_likeness 54 = .ok (.iadd, 1) := by decide +kernel
theorem dX9_likeness_55 : decode cX9_likeness 55 = .ok (.iaload, 1) := by decide +kernel
theorem dX9_likeness_56 : decode cX9_likeness 56 = .ok (.istore 5, 2) := by decide +kernel
theorem dX9_likeness_58 : decode cX9_likeness 58 = .ok (.aload_n 0, 1) := by decide +kernel
theorem dX9_likeness_59 : decode cX9_likeness 59 = .ok (.getfield 86, 3) := by decide +kernel
theorem dX9_likeness_62 : decode cX9_likeness 62 = .ok (.iload 4, 2) := by decide +kernel
theorem dX9_likeness_64 : decode cX9_likeness 64 = .ok (.iaload, 1) := by decide +kernel
theorem dX9_likeness_65 : decode cX9_likeness 65 = .ok (.istore 6, 2) := by decide +kernel
theorem dX9_likeness_67 : decode cX9_likeness 67 = .ok (.iload 5, 2) := by decide +kernel
theorem dX9_likeness_69 : decode cX9_likeness 69 = .ok (.iload 6, 2) := by decide +kernel
theorem dX9_likeness_71 : decode cX9_likeness 71 = .ok (.if_icmp .le 8, 3) := by decide +kernel
theorem dX9_likeness_74 : decode cX9_likeness 74 = .ok (.iload 5, 2) := by decide +kernel
theorem dX9_likeness_76 : decode cX9_likeness 76 = .ok (.goto 5, 3) := by decide +kernel
theorem dX9_likeness_79 : decode cX9_likeness 79 = .ok (.iload 6, 2) := by decide +kernel
theorem dX9_likeness_81 : decode cX9_likeness 81 = .ok (.istore 7, 2) := by decide +kernel
theorem dX9_likeness_83 : decode cX9_likeness 83 = .ok (.aload_n 0, 1) := by decide +kernel
theorem dX9_likeness_84 : decode cX9_likeness 84 = .ok (.getfield 86, 3) := by decide +kernel
theorem dX9_likeness_87 : decode cX9_likeness 87 = .ok (.iload 4, 2) := by decide +kernel
theorem dX9_likeness_89 : decode cX9_likeness 89 = .ok (.iconst 1, 1) := by decide +kernel
theorem dX9_likeness_90 : decode cX9_likeness 90 = .ok (.iadd, 1) := by decide +kernel
theorem dX9_likeness_91 : decode cX9_likeness 91 = .ok (.aload_n 0, 1) := by decide +kernel
theorem dX9_likeness_92 : decode cX9_likeness 92 = .ok (.getfield 7, 3) := by decide +kernel
theorem dX9_likeness_95 : decode cX9_likeness 95 = .ok (.iload_n 2, 1) := by decide +kernel
theorem dX9_likeness_96 : decode cX9_likeness 96 = .ok (.iaload, 1) := by decide +kernel
theorem dX9_likeness_97 : decode cX9_likeness 97 = .ok (.aload_n 0, 1) := by decide +kernel
theorem dX9_likeness_98 : decode cX9_likeness 98 = .ok (.getfield 13, 3) := by decide +kernel
theorem dX9_likeness_101 : decode cX9_likeness 101 = .ok (.bipush 12, 2) := by decide +kernel
theorem dX9_likeness_103 : decode cX9_likeness 103 = .ok (.iload_n 1, 1) := by decide +kernel
theorem dX9_likeness_104 : decode cX9_likeness 104 = .ok (.imul, 1) := by decide +kernel
theorem dX9_likeness_105 : decode cX9_likeness 105 = .ok (.iload 4, 2) := by decide +kernel
theorem dX9_likeness_107 : decode cX9_likeness 107 = .ok (.iadd, 1) := by decide +kernel
theorem dX9_likeness_108 : decode cX9_likeness 108 = .ok (.iaload, 1) := by decide +kernel
theorem dX9_likeness_109 : decode cX9_likeness 109 = .ok (.if_icmp .ne 9, 3) := by decide +kernel
theorem dX9_likeness_112 : decode cX9_likeness 112 = .ok (.iload_n 3, 1) := by decide +kernel
theorem dX9_likeness_113 : decode cX9_likeness 113 = .ok (.iconst 1, 1) := by decide +kernel
theorem dX9_likeness_114 : decode cX9_likeness 114 = .ok (.iadd, 1) := by decide +kernel
theorem dX9_likeness_115 : decode cX9_likeness 115 = .ok (.goto 5, 3) := by decide +kernel
theorem dX9_likeness_118 : decode cX9_likeness 118 = .ok (.iload 7, 2) := by decide +kernel
theorem dX9_likeness_120 : decode cX9_likeness 120 = .ok (.iastore, 1) := by decide +kernel
theorem dX9_likeness_121 : decode cX9_likeness 121 = .ok (.iload 5, 2) := by decide +kernel
theorem dX9_likeness_123 : decode cX9_likeness 123 = .ok (.istore_n 3, 1) := by decide +kernel
theorem dX9_likeness_124 : decode cX9_likeness 124 = .ok (.iinc 4 1, 3) := by decide +kernel
theorem dX9_likeness_127 : decode cX9_likeness 127 = .ok (.goto (-91), 3) := by decide +kernel
theorem dX9_likeness_130 : decode cX9_likeness 130 = .ok (.iinc 2 1, 3) := by decide +kernel
theorem dX9_likeness_133 : decode cX9_likeness 133 = .ok (.goto (-110), 3) := by decide +kernel
theorem dX9_likeness_136 : decode cX9_likeness 136 = .ok (.aload_n 0, 1) := by decide +kernel
theorem dX9_likeness_137 : decode cX9_likeness 137 = .ok (.getfield 86, 3) := by decide +kernel
theorem dX9_likeness_140 : decode cX9_likeness 140 = .ok (.aload_n 0, 1) := by decide +kernel
theorem dX9_likeness_141 : decode cX9_likeness 141 = .ok (.getfield 16, 3) := by decide +kernel
theorem dX9_likeness_144 : decode cX9_likeness 144 = .ok (.iload_n 1, 1) := by decide +kernel
theorem dX9_likeness_145 : decode cX9_likeness 145 = .ok (.iaload, 1) := by decide +kernel
theorem dX9_likeness_146 : decode cX9_likeness 146 = .ok (.iaload, 1) := by decide +kernel
theorem dX9_likeness_147 : decode cX9_likeness 147 = .ok (.ireturn, 1) := by decide +kernel
theorem dX9_findUnit_0 : decode cX9_findUnit 0 = .ok (.iconst (-1), 1) := by decide +kernel
theorem dX9_findUnit_1 : decode cX9_findUnit 1 = .ok (.istore_n 1, 1) := by decide +kernel
theorem dX9_findUnit_2 : decode cX9_findUnit 2 = .ok (.iconst 0, 1) := by decide +kernel
theorem dX9_findUnit_3 : decode cX9_findUnit 3 = .ok (.istore_n 2, 1) := by decide +kernel
theorem dX9_findUnit_4 : decode cX9_findUnit 4 = .ok (.iconst 0, 1) := by decide +kernel
theorem dX9_findUnit_5 : decode cX9_findUnit 5 = .ok (.istore_n 3, 1) := by decide +kernel
theorem dX9_findUnit_6 : decode cX9_findUnit 6 = .ok (.iload_n 3, 1) := by decide +kernel
theorem dX9_findUnit_7 : decode cX9_findUnit 7 = .ok (.aload_n 0, 1) := by decide +kernel
theorem dX9_findUnit_8 : decode cX9_findUnit 8 = .ok (.getfield 93, 3) := by decide +kernel
theorem dX9_findUnit_11 : decode cX9_findUnit 11 = .ok (.if_icmp .ge 41, 3) := by decide +kernel
theorem dX9_findUnit_14 : decode cX9_findUnit 14 = .ok (.aload_n 0, 1) := by decide +kernel
theorem dX9_findUnit_15 : decode cX9_findUnit 15 = .ok (.iload_n 3, 1) := by decide +kernel
theorem dX9_findUnit_16 : decode cX9_findUnit 16 = .ok (.invokevirtual 136, 3) := by decide +kernel
theorem dX9_findUnit_19 : decode cX9_findUnit 19 = .ok (.istore 4, 2) := by decide +kernel
theorem dX9_findUnit_21 : decode cX9_findUnit 21 = .ok (.iload 4, 2) := by decide +kernel
theorem dX9_findUnit_23 : decode cX9_findUnit 23 = .ok (.iload_n 2, 1) := by decide +kernel
theorem dX9_findUnit_24 : decode cX9_findUnit 24 = .ok (.if_icmp .le 7, 3) := by decide +kernel
theorem dX9_findUnit_27 : decode cX9_findUnit 27 = .ok (.iload_n 3, 1) := by decide +kernel
theorem dX9_findUnit_28 : decode cX9_findUnit 28 = .ok (.goto 4, 3) := by decide +kernel
theorem dX9_findUnit_31 : decode cX9_findUnit 31 = .ok (.iload_n 1, 1) := by decide +kernel
theorem dX9_findUnit_32 : decode cX9_findUnit 32 = .ok (.istore_n 1, 1) := by decide +kernel
theorem dX9_findUnit_33 : decode cX9_findUnit 33 = .ok (.iload 4, 2) := by decide +kernel
theorem dX9_findUnit_35 : decode cX9_findUnit 35 = .ok (.iload_n 2, 1) := by decide +kernel
theorem dX9_findUnit_36 : decode cX9_findUnit 36 = .ok (.if_icmp .le 8, 3) := by decide +kernel
theorem dX9_findUnit_39 : decode cX9_findUnit 39 = .ok (.iload 4, 2) := by decide +kernel
theorem dX9_findUnit_41 : decode cX9_findUnit 41 = .ok (.goto 4, 3) := by decide +kernel
theorem dX9_findUnit_44 : decode cX9_findUnit 44 = .ok (.iload_n 2, 1) := by decide +kernel
theorem dX9_findUnit_45 : decode cX9_findUnit 45 = .ok (.istore_n 2, 1) := by decide +kernel
theorem dX9_findUnit_46 : decode cX9_findUnit 46 = .ok (.iinc 3 1, 3) := by decide +kernel
theorem dX9_findUnit_49 : decode cX9_findUnit 49 = .ok (.goto (-43), 3) := by decide +kernel
theorem dX9_findUnit_52 : decode cX9_findUnit 52 = .ok (.iload_n 1, 1) := by decide +kernel
theorem dX9_findUnit_53 : decode cX9_findUnit 53 = .ok (.ireturn, 1) := by decide +kernel
theorem dX9_found_0 : decode cX9_found 0 = .ok (.aload_n 0, 1) := by decide +kernel
theorem dX9_found_1 : decode cX9_found 1 = .ok (.iconst 0, 1) := by decide +kernel
theorem dX9_found_2 : decode cX9_found 2 = .ok (.putfield 89, 3) := by decide +kernel
theorem dX9_found_5 : decode cX9_found 5 = .ok (.aload_n 0, 1) := by decide +kernel
theorem dX9_found_6 : decode cX9_found 6 = .ok (.invokevirtual 140, 3) := by decide +kernel
theorem dX9_found_9 : decode cX9_found 9 = .ok (.ireturn, 1) := by decide +kernel
theorem dX9_exact_0 : decode cX9_exact 0 = .ok (.aload_n 0, 1) := by decide +kernel
theorem dX9_exact_1 : decode cX9_exact 1 = .ok (.iconst 0, 1) := by decide +kernel
theorem dX9_exact_2 : decode cX9_exact 2 = .ok (.putfield 89, 3) := by decide +kernel
theorem dX9_exact_5 : decode cX9_exact 5 = .ok (.aload_n 0, 1) := by decide +kernel
theorem dX9_exact_6 : decode cX9_exact 6 = .ok (.invokevirtual 140, 3) := by decide +kernel
theorem dX9_exact_9 : decode cX9_exact 9 = .ok (.istore_n 1, 1) := by decide +kernel
theorem dX9_exact_10 : decode cX9_exact 10 = .ok (.iload_n 1, 1) := by decide +kernel
theorem dX9_exact_11 : decode cX9_exact 11 = .ok (.iconst (-1), 1) := by decide +kernel
theorem dX9_exact_12 : decode cX9_exact 12 = .ok (.if_icmp .ne 7, 3) := by decide +kernel
theorem dX9_exact_15 : decode cX9_exact 15 = .ok (.iconst 0, 1) := by decide +kernel
theorem dX9_exact_16 : decode cX9_exact 16 = .ok (.goto 25, 3) := by decide +kernel
theorem dX9_exact_19 : decode cX9_exact 19 = .ok (.iconst 2, 1) := by decide +kernel
theorem dX9_exact_20 : decode cX9_exact 20 = .ok (.aload_n 0, 1) := by decide +kernel
theorem dX9_exact_21 : decode cX9_exact 21 = .ok (.iload_n 1, 1) := by decide +kernel
theorem dX9_exact_22 : decode cX9_exact 22 = .ok (.invokevirtual 136, 3) := by decide +kernel
theorem dX9_exact_25 : decode cX9_exact 25 = .ok (.imul, 1) := by decide +kernel
theorem dX9_exact_26 : decode cX9_exact 26 = .ok (.bipush 100, 2) := by decide +kernel
theorem dX9_exact_28 : decode cX9_exact 28 = .ok (.imul, 1) := by decide +kernel
theorem dX9_exact_29 : decode cX9_exact 29 = .ok (.aload_n 0, 1) := by decide +kernel
theorem dX9_exact_30 : decode cX9_exact 30 = .ok (.getfield 106, 3) := by decide +kernel
theorem dX9_exact_33 : decode cX9_exact 33 = .ok (.aload_n 0, 1) := by decide +kernel
theorem dX9_exact_34 : decode cX9_exact 34 = .ok (.getfield 16, 3) := by decide +kernel
theorem dX9_exact_37 : decode cX9_exact 37 = .ok (.iload_n 1, 1) := by decide +kernel
theorem dX9_exact_38 : decode cX9_exact 38 = .ok (.iaload, 1) := by decide +kernel
theorem dX9_exact_39 : decode cX9_exact 39 = .ok (.iadd, 1) := by decide +kernel
theorem dX9_exact_40 : decode cX9_exact 40 = .ok (.idiv, 1) := by decide +kernel
theorem dX9_exact_41 : decode cX9_exact 41 = .ok (.ireturn, 1) := by decide +kernel
theorem dX9_ruling_0 : decode cX9_ruling 0 = .ok (.aload_n 0, 1) := by decide +kernel
theorem dX9_ruling_1 : decode cX9_ruling 1 = .ok (.aload_n 0, 1) := by decide +kernel
theorem dX9_ruling_2 : decode cX9_ruling 2 = .ok (.iload_n 1, 1) := by decide +kernel
theorem dX9_ruling_3 : decode cX9_ruling 3 = .ok (.invokevirtual 117, 3) := by decide +kernel
theorem dX9_ruling_6 : decode cX9_ruling 6 = .ok (.ifCond .eq 14, 3) := by decide +kernel
theorem dX9_ruling_9 : decode cX9_ruling 9 = .ok (.aload_n 0, 1) := by decide +kernel
theorem dX9_ruling_10 : decode cX9_ruling 10 = .ok (.iload_n 2, 1) := by decide +kernel
theorem dX9_ruling_11 : decode cX9_ruling 11 = .ok (.iconst 0, 1) := by decide +kernel
theorem dX9_ruling_12 : decode cX9_ruling 12 = .ok (.bipush 9, 2) := by decide +kernel
theorem dX9_ruling_14 : decode cX9_ruling 14 = .ok (.invokevirtual 96, 3) := by decide +kernel
theorem dX9_ruling_17 : decode cX9_ruling 17 = .ok (.ifCond .ne 7, 3) := by decide +kernel
theorem dX9_ruling_20 : decode cX9_ruling 20 = .ok (.iconst 1, 1) := by decide +kernel
theorem dX9_ruling_21 : decode cX9_ruling 21 = .ok (.goto 4, 3) := by decide +kernel
theorem dX9_ruling_24 : decode cX9_ruling 24 = .ok (.iconst 0, 1) := by decide +kernel
theorem dX9_ruling_25 : decode cX9_ruling 25 = .ok (.putfield 89, 3) := by decide +kernel
theorem dX9_ruling_28 : decode cX9_ruling 28 = .ok (.aload_n 0, 1) := by decide +kernel
theorem dX9_ruling_29 : decode cX9_ruling 29 = .ok (.getfield 89, 3) := by decide +kernel
theorem dX9_ruling_32 : decode cX9_ruling 32 = .ok (.ifCond .ne 27, 3) := by decide +kernel
theorem dX9_ruling_35 : decode cX9_ruling 35 = .ok (.aload_n 0, 1) := by decide +kernel
theorem dX9_ruling_36 : decode cX9_ruling 36 = .ok (.aload_n 0, 1) := by decide +kernel
theorem dX9_ruling_37 : decode cX9_ruling 37 = .ok (.getfield 62, 3) := by decide +kernel
theorem dX9_ruling_40 : decode cX9_ruling 40 = .ok (.bipush 10, 2) := by decide +kernel
theorem dX9_ruling_42 : decode cX9_ruling 42 = .ok (.iload_n 1, 1) := by decide +kernel
theorem dX9_ruling_43 : decode cX9_ruling 43 = .ok (.imul, 1) := by decide +kernel
theorem dX9_ruling_44 : decode cX9_ruling 44 = .ok (.iload_n 2, 1) := by decide +kernel
theorem dX9_ruling_45 : decode cX9_ruling 45 = .ok (.iadd, 1) := by decide +kernel
theorem dX9_ruling_46 : decode cX9_ruling 46 = .ok (.iaload, 1) := by decide +kernel
theorem dX9_ruling_47 : decode cX9_ruling 47 = .ok (.iconst (-1), 1) := by decide +kernel
theorem dX9_ruling_48 : decode cX9_ruling 48 = .ok (.if_icmp .eq 7, 3) := by decide +kernel
theorem dX9_ruling_51 : decode cX9_ruling 51 = .ok (.iconst 2, 1) := by decide +kernel
theorem dX9_ruling_52 : decode cX9_ruling 52 = .ok (.goto 4, 3) := by decide +kernel
theorem dX9_ruling_55 : decode cX9_ruling 55 = .ok (.iconst 0, 1) := by decide +kernel
theorem dX9_ruling_56 : decode cX9_ruling 56 = .ok (.putfield 89, 3) := by decide +kernel
theorem dX9_ruling_59 : decode cX9_ruling 59 = .ok (.aload_n 0, 1) := by decide +kernel
theorem dX9_ruling_60 : decode cX9_ruling 60 = .ok (.getfield 89, 3) := by decide +kernel
theorem dX9_ruling_63 : decode cX9_ruling 63 = .ok (.ifCond .le 5, 3) := by decide +kernel
theorem dX9_ruling_66 : decode cX9_ruling 66 = .ok (.iconst 0, 1) := by decide +kernel
theorem dX9_ruling_67 : decode cX9_ruling 67 = .ok (.ireturn, 1) := by decide +kernel
theorem dX9_ruling_68 : decode cX9_ruling 68 = .ok (.aload_n 0, 1) := by decide +kernel
theorem dX9_ruling_69 : decode cX9_ruling 69 = .ok (.getfield 62, 3) := by decide +kernel
theorem dX9_ruling_72 : decode cX9_ruling 72 = .ok (.bipush 10, 2) := by decide +kernel
theorem dX9_ruling_74 : decode cX9_ruling 74 = .ok (.iload_n 1, 1) := by decide +kernel
theorem dX9_ruling_75 : decode cX9_ruling 75 = .ok (.imul, 1) := by decide +kernel
theorem dX9_ruling_76 : decode cX9_ruling 76 = .ok (.iload_n 2, 1) := by decide +kernel
theorem dX9_ruling_77 : decode cX9_ruling 77 = .ok (.iadd, 1) := by decide +kernel
theorem dX9_ruling_78 : decode cX9_ruling 78 = .ok (.iload_n 3, 1) := by decide +kernel
theorem dX9_ruling_79 : decode cX9_ruling 79 = .ok (.ifCond .eq 7, 3) := by decide +kernel
theorem dX9_ruling_82 : decode cX9_ruling 82 = .ok (.iconst 1, 1) := by decide +kernel
theorem dX9_ruling_83 : decode cX9_ruling 83 = .ok (.goto 4, 3) := by decide +kernel
theorem dX9_ruling_86 : decode cX9_ruling 86 = .ok (.iconst 0, 1) := by decide +kernel
theorem dX9_ruling_87 : decode cX9_ruling 87 = .ok (.iastore, 1) := by decide +kernel
theorem dX9_ruling_88 : decode cX9_ruling 88 = .ok (.iconst 0, 1) := by decide +kernel
theorem dX9_ruling_89 : decode cX9_ruling 89 = .ok (.istore 4, 2) := by decide +kernel
theorem dX9_ruling_91 : decode cX9_ruling 91 = .ok (.iconst 0, 1) := by decide +kernel
theorem dX9_ruling_92 : decode cX9_ruling 92 = .ok (.istore 5, 2) := by decide +kernel
theorem dX9_ruling_94 : decode cX9_ruling 94 = .ok (.iload 5, 2) := by decide +kernel
theorem dX9_ruling_96 : decode cX9_ruling 96 = .ok (.aload_n 0, 1) := by decide +kernel
theorem dX9_ruling_97 : decode cX9_ruling 97 = .ok (.getfield 100, 3) := by decide +kernel
theorem dX9_ruling_100 : decode cX9_ruling 100 = .ok (.if_icmp .ge 35, 3) := by decide +kernel
theorem dX9_ruling_103 : decode cX9_ruling 103 = .ok (.iload 4, 2) := by decide +kernel
theorem dX9_ruling_105 : decode cX9_ruling 105 = .ok (.aload_n 0, 1) := by decide +kernel
theorem dX9_ruling_106 : decode cX9_ruling 106 = .ok (.getfield 62, 3) := by decide +kernel
theorem dX9_ruling_109 : decode cX9_ruling 109 = .ok (.bipush 10, 2) := by decide +kernel
theorem dX9_ruling_111 : decode cX9_ruling 111 = .ok (.iload 5, 2) := by decide +kernel
theorem dX9_ruling_113 : decode cX9_ruling 113 = .ok (.imul, 1) := by decide +kernel
theorem dX9_ruling_114 : decode cX9_ruling 114 = .ok (.iload_n 2, 1) := by decide +kernel
theorem dX9_ruling_115 : decode cX9_ruling 115 = .ok (.iadd, 1) := by decide +kernel
theorem dX9_ruling_116 : decode cX9_ruling 116 = .ok (.iaload, 1) := by decide +kernel
theorem dX9_ruling_117 : decode cX9_ruling 117 = .ok (.iconst (-1), 1) := by decide +kernel
theorem dX9_ruling_118 : decode cX9_ruling 118 = .ok (.if_icmp .eq 7, 3) := by decide +kernel
theorem dX9_ruling_121 : decode cX9_ruling 121 = .ok (.iconst 1, 1) := by decide +kernel
theorem dX9_ruling_122 : decode cX9_ruling 122 = .ok (.goto 4, 3) := by decide +kernel
theorem dX9_ruling_125 : decode cX9_ruling 125 = .ok (.iconst 0, 1) := by decide +kernel
theorem dX9_ruling_126 : decode cX9_ruling 126 = .ok (.iadd, 1) := by decide +kernel
theorem dX9_ruling_127 : decode cX9_ruling 127 = .ok (.istore 4, 2) := by decide +kernel
theorem dX9_ruling_129 : decode cX9_ruling 129 = .ok (.iinc 5 1, 3) := by decide +kernel
theorem dX9_ruling_132 : decode cX9_ruling 132 = .ok (.goto (-38), 3) := by decide +kernel
theorem dX9_ruling_135 : decode cX9_ruling 135 = .ok (.iload 4, 2) := by decide +kernel
theorem dX9_ruling_137 : decode cX9_ruling 137 = .ok (.ireturn, 1) := by decide +kernel
theorem dX9_follow_0 : decode cX9_follow 0 = .ok (.aload_n 0, 1) := by decide +kernel
theorem dX9_follow_1 : decode cX9_follow 1 = .ok (.iload_n 1, 1) := by decide +kernel
theorem dX9_follow_2 : decode cX9_follow 2 = .ok (.iconst 0, 1) := by decide +kernel
theorem dX9_follow_3 : decode cX9_follow 3 = .ok (.iconst 3, 1) := by decide +kernel
theorem dX9_follow_4 : decode cX9_follow 4 = .ok (.invokevirtual 96, 3) := by decide +kernel
theorem dX9_follow_7 : decode cX9_follow 7 = .ok (.ifCond .eq 37, 3) := by decide +kernel
theorem dX9_follow_10 : decode cX9_follow 10 = .ok (.iload_n 1, 1) := by decide +kernel
theorem dX9_follow_11 : decode cX9_follow 11 = .ok (.ifCond .ne 13, 3) := by decide +kernel
theorem dX9_follow_14 : decode cX9_follow 14 = .ok (.aload_n 0, 1) := by decide +kernel
theorem dX9_follow_15 : decode cX9_follow 15 = .ok (.iload_n 2, 1) := by decide +kernel
theorem dX9_follow_16 : decode cX9_follow 16 = .ok (.iconst 0, 1) := by decide +kernel
theorem dX9_follow_17 : decode cX9_follow 17 = .ok (.iconst 3, 1) := by decide +kernel
theorem dX9_follow_18 : decode cX9_follow 18 = .ok (.invokevirtual 96, 3) := by decide +kernel
theorem dX9_follow_21 : decode cX9_follow 21 = .ok (.ifCond .eq 23, 3) := by decide +kernel
theorem dX9_follow_24 : decode cX9_follow 24 = .ok (.iload_n 1, 1) := by decide +kernel
theorem dX9_follow_25 : decode cX9_follow 25 = .ok (.iconst 3, 1) := by decide +kernel
theorem dX9_follow_26 : decode cX9_follow 26 = .ok (.if_icmp .ne 14, 3) := by decide +kernel
theorem dX9_follow_29 : decode cX9_follow 29 = .ok (.aload_n 0, 1) := by decide +kernel
theorem dX9_follow_30 : decode cX9_follow 30 = .ok (.iload_n 2, 1) := by decide +kernel
theorem dX9_follow_31 : decode cX9_follow 31 = .ok (.iconst 0, 1) := by decide +kernel
theorem dX9_follow_32 : decode cX9_follow 32 = .ok (.bipush 19, 2) := by decide +kernel
theorem dX9_follow_34 : decode cX9_follow 34 = .ok (.invokevirtual 96, 3) := by decide +kernel
theorem dX9_follow_37 : decode cX9_follow 37 = .ok (.ifCond .eq 7, 3) := by decide +kernel
theorem dX9_follow_40 : decode cX9_follow 40 = .ok (.iconst 1, 1) := by decide +kernel
theorem dX9_follow_41 : decode cX9_follow 41 = .ok (.goto 4, 3) := by decide +kernel
theorem dX9_follow_44 : decode cX9_follow 44 = .ok (.iconst 0, 1) := by decide +kernel
theorem dX9_follow_45 : decode cX9_follow 45 = .ok (.istore_n 3, 1) := by decide +kernel
theorem dX9_follow_46 : decode cX9_follow 46 = .ok (.aload_n 0, 1) := by decide +kernel
theorem dX9_follow_47 : decode cX9_follow 47 = .ok (.iload_n 3, 1) := by decide +kernel
theorem dX9_follow_48 : decode cX9_follow 48 = .ok (.ifCond .ne 7, 3) := by decide +kernel
theorem dX9_follow_51 : decode cX9_follow 51 = .ok (.iconst 1, 1) := by decide +kernel
theorem dX9_follow_52 : decode cX9_follow 52 = .ok (.goto 17, 3) := by decide +kernel
theorem dX9_follow_55 : decode cX9_follow 55 = .ok (.aload_n 0, 1) := by decide +kernel
theorem dX9_follow_56 : decode cX9_follow 56 = .ok (.getfield 144, 3) := by decide +kernel
theorem dX9_follow_59 : decode cX9_follow 59 = .ok (.bipush 6, 2) := by decide +kernel
theorem dX9_follow_61 : decode cX9_follow 61 = .ok (.if_icmp .ne 7, 3) := by decide +kernel
theorem dX9_follow_64 : decode cX9_follow 64 = .ok (.iconst 2, 1) := by decide +kernel
theorem dX9_follow_65 : decode cX9_follow 65 = .ok (.goto 4, 3) := by decide +kernel
theorem dX9_follow_68 : decode cX9_follow 68 = .ok (.iconst 0, 1) := by decide +kernel
theorem dX9_follow_69 : decode cX9_follow 69 = .ok (.putfield 89, 3) := by decide +kernel
theorem dX9_follow_72 : decode cX9_follow 72 = .ok (.aload_n 0, 1) := by decide +kernel
theorem dX9_follow_73 : decode cX9_follow 73 = .ok (.getfield 89, 3) := by decide +kernel
theorem dX9_follow_76 : decode cX9_follow 76 = .ok (.ifCond .le 5, 3) := by decide +kernel
theorem dX9_follow_79 : decode cX9_follow 79 = .ok (.iconst 0, 1) := by decide +kernel
theorem dX9_follow_80 : decode cX9_follow 80 = .ok (.ireturn, 1) := by decide +kernel
theorem dX9_follow_81 : decode cX9_follow 81 = .ok (.aload_n 0, 1) := by decide +kernel
theorem dX9_follow_82 : decode cX9_follow 82 = .ok (.getfield 65, 3) := by decide +kernel
theorem dX9_follow_85 : decode cX9_follow 85 = .ok (.aload_n 0, 1) := by decide +kernel
theorem dX9_follow_86 : decode cX9_follow 86 = .ok (.getfield 144, 3) := by decide +kernel
theorem dX9_follow_89 : decode cX9_follow 89 = .ok (.iload_n 1, 1) := by decide +kernel
theorem dX9_follow_90 : decode cX9_follow 90 = .ok (.iastore, 1) := by decide +kernel
theorem dX9_follow_91 : decode cX9_follow 91 = .ok (.aload_n 0, 1) := by decide +kernel
theorem dX9_follow_92 : decode cX9_follow 92 = .ok (.getfield 68, 3) := by decide +kernel
theorem dX9_follow_95 : decode cX9_follow 95 = .ok (.aload_n 0, 1) := by decide +kernel
theorem dX9_follow_96 : decode cX9_follow 96 = .ok (.getfield 144, 3) := by decide +kernel
theorem dX9_follow_99 : decode cX9_follow 99 = .ok (.iload_n 2, 1) := by decide +kernel
theorem dX9_follow_100 : decode cX9_follow 100 = .ok (.iastore, 1) := by decide +kernel
theorem dX9_follow_101 : decode cX9_follow 101 = .ok (.aload_n 0, 1) := by decide +kernel
theorem dX9_follow_102 : decode cX9_follow 102 = .ok (.dup, 1) := by decide +kernel
theorem dX9_follow_103 : decode cX9_follow 103 = .ok (.getfield 144, 3) := by decide +kernel
theorem dX9_follow_106 : decode cX9_follow 106 = .ok (.iconst 1, 1) := by decide +kernel
theorem dX9_follow_107 : decode cX9_follow 107 = .ok (.iadd, 1) := by decide +kernel
theorem dX9_follow_108 : decode cX9_follow 108 = .ok (.putfield 144, 3) := by decide +kernel
theorem dX9_follow_111 : decode cX9_follow 111 = .ok (.aload_n 0, 1) := by decide +kernel
theorem dX9_follow_112 : decode cX9_follow 112 = .ok (.getfield 144, 3) := by decide +kernel
theorem dX9_follow_115 : decode cX9_follow 115 = .ok (.ireturn, 1) := by decide +kernel
theorem dX9_unfollow_0 : decode cX9_unfollow 0 = .ok (.aload_n 0, 1) := by decide +kernel
theorem dX9_unfollow_1 : decode cX9_unfollow 1 = .ok (.aload_n 0, 1) := by decide +kernel
theorem dX9_unfollow_2 : decode cX9_unfollow 2 = .ok (.iload_n 1, 1) := by decide +kernel
theorem dX9_unfollow_3 : decode cX9_unfollow 3 = .ok (.iconst 0, 1) := by decide +kernel
theorem dX9_unfollow_4 : decode cX9_unfollow 4 = .ok (.aload_n 0, 1) := by decide +kernel
theorem dX9_unfollow_5 : decode cX9_unfollow 5 = .ok (.getfield 144, 3) := by decide +kernel
theorem dX9_unfollow_8 : decode cX9_unfollow 8 = .ok (.iconst 1, 1) := by decide +kernel
theorem dX9_unfollow_9 : decode cX9_unfollow 9 = .ok (.isub, 1) := by decide +kernel
theorem dX9_unfollow_10 : decode cX9_unfollow 10 = .ok (.invokevirtual 96, 3) := by decide +kernel
theorem dX9_unfollow_13 : decode cX9_unfollow 13 = .ok (.ifCond .ne 7, 3) := by decide +kernel
theorem dX9_unfollow_16 : decode cX9_unfollow 16 = .ok (.iconst 1, 1) := by decide +kernel
theorem dX9_unfollow_17 : decode cX9_unfollow 17 = .ok (.goto 4, 3) := by decide +kernel
theorem dX9_unfollow_20 : decode cX9_unfollow 20 = .ok (.iconst 0, 1) := by decide +kernel
theorem dX9_unfollow_21 : decode cX9_unfollow 21 = .ok (.putfield 89, 3) := by decide +kernel
theorem dX9_unfollow_24 : decode cX9_unfollow 24 = .ok (.aload_n 0, 1) := by decide +kernel
theorem dX9_unfollow_25 : decode cX9_unfollow 25 = .ok (.getfield 89, 3) := by decide +kernel
theorem dX9_unfollow_28 : decode cX9_unfollow 28 = .ok (.ifCond .le 5, 3) := by decide +kernel
theorem dX9_unfollow_31 : decode cX9_unfollow 31 = .ok (.iconst 0, 1) := by decide +kernel
theorem dX9_unfollow_32 : decode cX9_unfollow 32 = .ok (.ireturn, 1) := by decide +kernel
theorem dX9_unfollow_33 : decode cX9_unfollow 33 = .ok (.aload_n 0, 1) := by decide +kernel
theorem dX9_unfollow_34 : decode cX9_unfollow 34 = .ok (.getfield 65, 3) := by decide +kernel
theorem dX9_unfollow_37 : decode cX9_unfollow 37 = .ok (.iload_n 1, 1) := by decide +kernel
theorem dX9_unfollow_38 : decode cX9_unfollow 38 = .ok (.iaload, 1) := by decide +kernel
theorem dX9_unfollow_39 : decode cX9_unfollow 39 = .ok (.istore_n 2, 1) := by decide +kernel
theorem dX9_unfollow_40 : decode cX9_unfollow 40 = .ok (.iload_n 1, 1) := by decide +kernel
theorem dX9_unfollow_41 : decode cX9_unfollow 41 = .ok (.istore_n 3, 1) := by decide +kernel
theorem dX9_unfollow_42 : decode cX9_unfollow 42 = .ok (.iload_n 3, 1) := by decide +kernel
theorem dX9_unfollow_43 : decode cX9_unfollow 43 = .ok (.aload_n 0, 1) := by decide +kernel
theorem dX9_unfollow_44 : decode cX9_unfollow 44 = .ok (.getfield 144, 3) := by decide +kernel
theorem dX9_unfollow_47 : decode cX9_unfollow 47 = .ok (.iconst 1, 1) := by decide +kernel
theorem dX9_unfollow_48 : decode cX9_unfollow 48 = .ok (.isub, 1) := by decide +kernel
theorem dX9_unfollow_49 : decode cX9_unfollow 49 = .ok (.if_icmp .ge 37, 3) := by decide +kernel
theorem dX9_unfollow_52 : decode cX9_unfollow 52 = .ok (.aload_n 0, 1) := by decide +kernel
theorem dX9_unfollow_53 : decode cX9_unfollow 53 = .ok (.getfield 65, 3) := by decide +kernel
theorem dX9_unfollow_56 : decode cX9_unfollow 56 = .ok (.iload_n 3, 1) := by decide +kernel
theorem dX9_unfollow_57 : decode cX9_unfollow 57 = .ok (.aload_n 0, 1) := by decide +kernel
theorem dX9_unfollow_58 : decode cX9_unfollow 58 = .ok (.getfield 65, 3) := by decide +kernel
theorem dX9_unfollow_61 : decode cX9_unfollow 61 = .ok (.iload_n 3, 1) := by decide +kernel
theorem dX9_unfollow_62 : decode cX9_unfollow 62 = .ok (.iconst 1, 1) := by decide +kernel
theorem dX9_unfollow_63 : decode cX9_unfollow 63 = .ok (.iadd, 1) := by decide +kernel
theorem dX9_unfollow_64 : decode cX9_unfollow 64 = .ok (.iaload, 1) := by decide +kernel
theorem dX9_unfollow_65 : decode cX9_unfollow 65 = .ok (.iastore, 1) := by decide +kernel
theorem dX9_unfollow_66 : decode cX9_unfollow 66 = .ok (.aload_n 0, 1) := by decide +kernel
theorem dX9_unfollow_67 : decode cX9_unfollow 67 = .ok (.getfield 68, 3) := by decide +kernel
theorem dX9_unfollow_70 : decode cX9_unfollow 70 = .ok (.iload_n 3, 1) := by decide +kernel
theorem dX9_unfollow_71 : decode cX9_unfollow 71 = .ok (.aload_n 0, 1) := by decide +kernel
theorem dX9_unfollow_72 : decode cX9_unfollow 72 = .ok (.getfield 68, 3) := by decide +kernel
theorem dX9_unfollow_75 : decode cX9_unfollow 75 = .ok (.iload_n 3, 1) := by decide +kernel
theorem dX9_unfollow_76 : decode cX9_unfollow 76 = .ok (.iconst 1, 1) := by decide +kernel
theorem dX9_unfollow_77 : decode cX9_unfollow 77 = .ok (.iadd, 1) := by decide +kernel
theorem dX9_unfollow_78 : decode cX9_unfollow 78 = .ok (.iaload, 1) := by decide +kernel
theorem dX9_unfollow_79 : decode cX9_unfollow 79 = .ok (.iastore, 1) := by decide +kernel
theorem dX9_unfollow_80 : decode cX9_unfollow 80 = .ok (.iinc 3 1, 3) := by decide +kernel
theorem dX9_unfollow_83 : decode cX9_unfollow 83 = .ok (.goto (-41), 3) := by decide +kernel
theorem dX9_unfollow_86 : decode cX9_unfollow 86 = .ok (.aload_n 0, 1) := by decide +kernel
theorem dX9_unfollow_87 : decode cX9_unfollow 87 = .ok (.dup, 1) := by decide +kernel
theorem dX9_unfollow_88 : decode cX9_unfollow 88 = .ok (.getfield 144, 3) := by decide +kernel
theorem dX9_unfollow_91 : decode cX9_unfollow 91 = .ok (.iconst 1, 1) := by decide +kernel
theorem dX9_unfollow_92 : decode cX9_unfollow 92 = .ok (.isub, 1) := by decide +kernel
theorem dX9_unfollow_93 : decode cX9_unfollow 93 = .ok (.putfield 144, 3) := by decide +kernel
theorem dX9_unfollow_96 : decode cX9_unfollow 96 = .ok (.iload_n 2, 1) := by decide +kernel
theorem dX9_unfollow_97 : decode cX9_unfollow 97 = .ok (.ireturn, 1) := by decide +kernel
theorem dX9_latestRuling_0 : decode cX9_latestRuling 0 = .ok (.iconst (-1), 1) := by decide +kernel
theorem dX9_latestRuling_1 : decode cX9_latestRuling 1 = .ok (.istore_n 3, 1) := by decide +kernel
theorem dX9_latestRuling_2 : decode cX9_latestRuling 2 = .ok (.iconst 0, 1) := by decide +kernel
theorem dX9_latestRuling_3 : decode cX9_latestRuling 3 = .ok (.istore 4, 2) := by decide +kernel
theorem dX9_latestRuling_5 : decode cX9_latestRuling 5 = .ok (.iload 4, 2) := by decide +kernel
theorem dX9_latestRuling_7 : decode cX9_latestRuling 7 = .ok (.aload_n 0, 1) := by decide +kernel
theorem dX9_latestRuling_8 : decode cX9_latestRuling 8 = .ok (.getfield 100, 3) := by decide +kernel
theorem dX9_latestRuling_11 : decode cX9_latestRuling 11 = .ok (.if_icmp .ge 81, 3) := by decide +kernel
theorem dX9_latestRuling_14 : decode cX9_latestRuling 14 = .ok (.aload_n 0, 1) := by decide +kernel
theorem dX9_latestRuling_15 : decode cX9_latestRuling 15 = .ok (.getfield 62, 3) := by decide +kernel
theorem dX9_latestRuling_18 : decode cX9_latestRuling 18 = .ok (.bipush 10, 2) := by decide +kernel
theorem dX9_latestRuling_20 : decode cX9_latestRuling 20 = .ok (.iload 4, 2) := by decide +kernel
theorem dX9_latestRuling_22 : decode cX9_latestRuling 22 = .ok (.imul, 1) := by decide +kernel
theorem dX9_latestRuling_23 : decode cX9_latestRuling 23 = .ok (.iload_n 2, 1) := by decide +kernel
theorem dX9_latestRuling_24 : decode cX9_latestRuling 24 = .ok (.iadd, 1) := by decide +kernel
theorem dX9_latestRuling_25 : decode cX9_latestRuling 25 = .ok (.iaload, 1) := by decide +kernel
theorem dX9_latestRuling_26 : decode cX9_latestRuling 26 = .ok (.iconst (-1), 1) := by decide +kernel
theorem dX9_latestRuling_27 : decode cX9_latestRuling 27 = .ok (.if_icmp .eq 23, 3) := by decide +kernel
theorem dX9_latestRuling_30 : decode cX9_latestRuling 30 = .ok (.iload_n 1, 1) := by decide +kernel
theorem dX9_latestRuling_31 : decode cX9_latestRuling 31 = .ok (.iconst (-1), 1) := by decide +kernel
theorem dX9_latestRuling_32 : decode cX9_latestRuling 32 = .ok (.if_icmp .eq 14, 3) := by decide +kernel
theorem dX9_latestRuling_35 : decode cX9_latestRuling 35 = .ok (.aload_n 0, 1) := by decide +kernel
theorem dX9_latestRuling_36 : decode cX9_latestRuling 36 = .ok (.getfield 22, 3) := by decide +kernel
theorem dX9_latestRuling_39 : decode cX9_latestRuling 39 = .ok (.iload 4, 2) := by decide +kernel
theorem dX9_latestRuling_41 : decode cX9_latestRuling 41 = .ok (.iaload, 1) := by decide +kernel
theorem dX9_latestRuling_42 : decode cX9_latestRuling 42 = .ok (.iload_n 1, 1) := by decide +kernel
theorem dX9_latestRuling_43 : decode cX9_latestRuling 43 = .ok (.if_icmp .ne 7, 3) := by decide +kernel
theorem dX9_latestRuling_46 : decode cX9_latestRuling 46 = .ok (.iconst 1, 1) := by decide +kernel
theorem dX9_latestRuling_47 : decode cX9_latestRuling 47 = .ok (.goto 4, 3) := by decide +kernel
theorem dX9_latestRuling_50 : decode cX9_latestRuling 50 = .ok (.iconst 0, 1) := by decide +kernel
theorem dX9_latestRuling_51 : decode cX9_latestRuling 51 = .ok (.istore 5, 2) := by decide +kernel
theorem dX9_latestRuling_53 : decode cX9_latestRuling 53 = .ok (.iload 5, 2) := by decide +kernel
theorem dX9_latestRuling_55 : decode cX9_latestRuling 55 = .ok (.ifCond .eq 29, 3) := by decide +kernel
theorem dX9_latestRuling_58 : decode cX9_latestRuling 58 = .ok (.iload_n 3, 1) := by decide +kernel
theorem dX9_latestRuling_59 : decode cX9_latestRuling 59 = .ok (.iconst (-1), 1) := by decide +kernel
theorem dX9_latestRuling_60 : decode cX9_latestRuling 60 = .ok (.if_icmp .eq 19, 3) := by decide +kernel
theorem dX9_latestRuling_63 : decode cX9_latestRuling 63 = .ok (.aload_n 0, 1) := by decide +kernel
theorem dX9_latestRuling_64 : decode cX9_latestRuling 64 = .ok (.getfield 19, 3) := by decide +kernel
theorem dX9_latestRuling_67 : decode cX9_latestRuling 67 = .ok (.iload 4, 2) := by decide +kernel
theorem dX9_latestRuling_69 : decode cX9_latestRuling 69 = .ok (.iaload, 1) := by decide +kernel
theorem dX9_latestRuling_70 : decode cX9_latestRuling 70 = .ok (.aload_n 0, 1) := by decide +kernel
theorem dX9_latestRuling_71 : decode cX9_latestRuling 71 = .ok (.getfield 19, 3) := by decide +kernel
theorem dX9_latestRuling_74 : decode cX9_latestRuling 74 = .ok (.iload_n 3, 1) := by decide +kernel
theorem dX9_latestRuling_75 : decode cX9_latestRuling 75 = .ok (.iaload, 1) := by decide +kernel
theorem dX9_latestRuling_76 : decode cX9_latestRuling 76 = .ok (.if_icmp .le 8, 3) := by decide +kernel
theorem dX9_latestRuling_79 : decode cX9_latestRuling 79 = .ok (.iload 4, 2) := by decide +kernel
theorem dX9_latestRuling_81 : decode cX9_latestRuling 81 = .ok (.goto 4, 3) := by decide +kernel
theorem dX9_latestRuling_84 : decode cX9_latestRuling 84 = .ok (.iload_n 3, 1) := by decide +kernel
theorem dX9_latestRuling_85 : decode cX9_latestRuling 85 = .ok (.istore_n 3, 1) := by decide +kernel
theorem dX9_latestRuling_86 : decode cX9_latestRuling 86 = .ok (.iinc 4 1, 3) := by decide +kernel
theorem dX9_latestRuling_89 : decode cX9_latestRuling 89 = .ok (.goto (-84), 3) := by decide +kernel
theorem dX9_latestRuling_92 : decode cX9_latestRuling 92 = .ok (.iload_n 3, 1) := by decide +kernel
theorem dX9_latestRuling_93 : decode cX9_latestRuling 93 = .ok (.iconst (-1), 1) := by decide +kernel
theorem dX9_latestRuling_94 : decode cX9_latestRuling 94 = .ok (.if_icmp .ne 7, 3) := by decide +kernel
theorem dX9_latestRuling_97 : decode cX9_latestRuling 97 = .ok (.iconst (-1), 1) := by decide +kernel
theorem dX9_latestRuling_98 : decode cX9_latestRuling 98 = .ok (.goto 14, 3) := by decide +kernel
theorem dX9_latestRuling_101 : decode cX9_latestRuling 101 = .ok (.aload_n 0, 1) := by decide +kernel
theorem dX9_latestRuling_102 : decode cX9_latestRuling 102 = .ok (.getfield 62, 3) := by decide +kernel
theorem dX9_latestRuling_105 : decode cX9_latestRuling 105 = .ok (.bipush 10, 2) := by decide +kernel
theorem dX9_latestRuling_107 : decode cX9_latestRuling 107 = .ok (.iload_n 3, 1) := by decide +kernel
theorem dX9_latestRuling_108 : decode cX9_latestRuling 108 = .ok (.imul, 1) := by decide +kernel
theorem dX9_latestRuling_109 : decode cX9_latestRuling 109 = .ok (.iload_n 2, 1) := by decide +kernel
theorem dX9_latestRuling_110 : decode cX9_latestRuling 110 = .ok (.iadd, 1) := by decide +kernel
theorem dX9_latestRuling_111 : decode cX9_latestRuling 111 = .ok (.iaload, 1) := by decide +kernel
theorem dX9_latestRuling_112 : decode cX9_latestRuling 112 = .ok (.ireturn, 1) := by decide +kernel
theorem dX9_tells_0 : decode cX9_tells 0 = .ok (.aload_n 0, 1) := by decide +kernel
theorem dX9_tells_1 : decode cX9_tells 1 = .ok (.getfield 65, 3) := by decide +kernel
theorem dX9_tells_4 : decode cX9_tells 4 = .ok (.iload_n 1, 1) := by decide +kernel
theorem dX9_tells_5 : decode cX9_tells 5 = .ok (.iaload, 1) := by decide +kernel
theorem dX9_tells_6 : decode cX9_tells 6 = .ok (.istore_n 3, 1) := by decide +kernel
theorem dX9_tells_7 : decode cX9_tells 7 = .ok (.iload_n 3, 1) := by decide +kernel
theorem dX9_tells_8 : decode cX9_tells 8 = .ok (.ifCond .eq 8, 3) := by decide +kernel
theorem dX9_tells_11 : decode cX9_tells 11 = .ok (.iload_n 3, 1) := by decide +kernel
theorem dX9_tells_12 : decode cX9_tells 12 = .ok (.iconst 1, 1) := by decide +kernel
theorem dX9_tells_13 : decode cX9_tells 13 = .ok (.if_icmp .ne 23, 3) := by decide +kernel
theorem dX9_tells_16 : decode cX9_tells 16 = .ok (.aload_n 0, 1) := by decide +kernel
theorem dX9_tells_17 : decode cX9_tells 17 = .ok (.iload_n 3, 1) := by decide +kernel
theorem dX9_tells_18 : decode cX9_tells 18 = .ok (.ifCond .ne 12, 3) := by decide +kernel
theorem dX9_tells_21 : decode cX9_tells 21 = .ok (.aload_n 0, 1) := by decide +kernel
theorem dX9_tells_22 : decode cX9_tells 22 = .ok (.getfield 68, 3) := by decide +kernel
theorem dX9_tells_25 : decode cX9_tells 25 = .ok (.iload_n 1, 1) := by decide +kernel
theorem dX9_tells_26 : decode cX9_tells 26 = .ok (.iaload, 1) := by decide +kernel
theorem dX9_tells_27 : decode cX9_tells 27 = .ok (.goto 4, 3) := by decide +kernel
theorem dX9_tells_30 : decode cX9_tells 30 = .ok (.iconst (-1), 1) := by decide +kernel
theorem dX9_tells_31 : decode cX9_tells 31 = .ok (.iload_n 2, 1) := by decide +kernel
theorem dX9_tells_32 : decode cX9_tells 32 = .ok (.invokevirtual 147, 3) := by decide +kernel
theorem dX9_tells_35 : decode cX9_tells 35 = .ok (.ireturn, 1) := by decide +kernel
theorem dX9_tells_36 : decode cX9_tells 36 = .ok (.iload_n 3, 1) := by decide +kernel
theorem dX9_tells_37 : decode cX9_tells 37 = .ok (.iconst 3, 1) := by decide +kernel
theorem dX9_tells_38 : decode cX9_tells 38 = .ok (.if_icmp .ne 28, 3) := by decide +kernel
theorem dX9_tells_41 : decode cX9_tells 41 = .ok (.aload_n 0, 1) := by decide +kernel
theorem dX9_tells_42 : decode cX9_tells 42 = .ok (.getfield 68, 3) := by decide +kernel
theorem dX9_tells_45 : decode cX9_tells 45 = .ok (.iload_n 1, 1) := by decide +kernel
theorem dX9_tells_46 : decode cX9_tells 46 = .ok (.iaload, 1) := by decide +kernel
theorem dX9_tells_47 : decode cX9_tells 47 = .ok (.iconst 2, 1) := by decide +kernel
theorem dX9_tells_48 : decode cX9_tells 48 = .ok (.idiv, 1) := by decide +kernel
theorem dX9_tells_49 : decode cX9_tells 49 = .ok (.iload_n 2, 1) := by decide +kernel
theorem dX9_tells_50 : decode cX9_tells 50 = .ok (.if_icmp .ne 14, 3) := by decide +kernel
theorem dX9_tells_53 : decode cX9_tells 53 = .ok (.aload_n 0, 1) := by decide +kernel
theorem dX9_tells_54 : decode cX9_tells 54 = .ok (.getfield 68, 3) := by decide +kernel
theorem dX9_tells_57 : decode cX9_tells 57 = .ok (.iload_n 1, 1) := by decide +kernel
theorem dX9_tells_58 : decode cX9_tells 58 = .ok (.iaload, 1) := by decide +kernel
theorem dX9_tells_59 : decode cX9_tells 59 = .ok (.iconst 2, 1) := by decide +kernel
theorem dX9_tells_60 : decode cX9_tells 60 = .ok (.irem, 1) := by decide +kernel
theorem dX9_tells_61 : decode cX9_tells 61 = .ok (.goto 4, 3) := by decide +kernel
theorem dX9_tells_64 : decode cX9_tells 64 = .ok (.iconst (-1), 1) := by decide +kernel
theorem dX9_tells_65 : decode cX9_tells 65 = .ok (.ireturn, 1) := by decide +kernel
theorem dX9_tells_66 : decode cX9_tells 66 = .ok (.iconst 0, 1) := by decide +kernel
theorem dX9_tells_67 : decode cX9_tells 67 = .ok (.istore 4, 2) := by decide +kernel
theorem dX9_tells_69 : decode cX9_tells 69 = .ok (.iconst 0, 1) := by decide +kernel
theorem dX9_tells_70 : decode cX9_tells 70 = .ok (.istore 5, 2) := by decide +kernel
theorem dX9_tells_72 : decode cX9_tells 72 = .ok (.iload 5, 2) := by decide +kernel
theorem dX9_tells_74 : decode cX9_tells 74 = .ok (.aload_n 0, 1) := by decide +kernel
theorem dX9_tells_75 : decode cX9_tells 75 = .ok (.getfield 100, 3) := by decide +kernel
theorem dX9_tells_78 : decode cX9_tells 78 = .ok (.if_icmp .ge 48, 3) := by decide +kernel
theorem dX9_tells_81 : decode cX9_tells 81 = .ok (.aload_n 0, 1) := by decide +kernel
theorem dX9_tells_82 : decode cX9_tells 82 = .ok (.getfield 62, 3) := by decide +kernel
theorem dX9_tells_85 : decode cX9_tells 85 = .ok (.bipush 10, 2) := by decide +kernel
theorem dX9_tells_87 : decode cX9_tells 87 = .ok (.iload 5, 2) := by decide +kernel
theorem dX9_tells_89 : decode cX9_tells 89 = .ok (.imul, 1) := by decide +kernel
theorem dX9_tells_90 : decode cX9_tells 90 = .ok (.iload_n 2, 1) := by decide +kernel
theorem dX9_tells_91 : decode cX9_tells 91 = .ok (.iadd, 1) := by decide +kernel
theorem dX9_tells_92 : decode cX9_tells 92 = .ok (.iaload, 1) := by decide +kernel
theorem dX9_tells_93 : decode cX9_tells 93 = .ok (.istore 6, 2) := by decide +kernel
theorem dX9_tells_95 : decode cX9_tells 95 = .ok (.iload 4, 2) := by decide +kernel
theorem dX9_tells_97 : decode cX9_tells 97 = .ok (.iload 6, 2) := by decide +kernel
theorem dX9_tells_99 : decode cX9_tells 99 = .ok (.iconst 1, 1) := by decide +kernel
theorem dX9_tells_100 : decode cX9_tells 100 = .ok (.if_icmp .ne 7, 3) := by decide +kernel
theorem dX9_tells_103 : decode cX9_tells 103 = .ok (.iconst 1, 1) := by decide +kernel
theorem dX9_tells_104 : decode cX9_tells 104 = .ok (.goto 13, 3) := by decide +kernel
theorem dX9_tells_107 : decode cX9_tells 107 = .ok (.iload 6, 2) := by decide +kernel
theorem dX9_tells_109 : decode cX9_tells 109 = .ok (.ifCond .ne 7, 3) := by decide +kernel
theorem dX9_tells_112 : decode cX9_tells 112 = .ok (.iconst (-1), 1) := by decide +kernel
theorem dX9_tells_113 : decode cX9_tells 113 = .ok (.goto 4, 3) := by decide +kernel
theorem dX9_tells_116 : decode cX9_tells 116 = .ok (.iconst 0, 1) := by decide +kernel
theorem dX9_tells_117 : decode cX9_tells 117 = .ok (.iadd, 1) := by decide +kernel
theorem dX9_tells_118 : decode cX9_tells 118 = .ok (.istore 4, 2) := by decide +kernel
theorem dX9_tells_120 : decode cX9_tells 120 = .ok (.iinc 5 1, 3) := by decide +kernel
theorem dX9_tells_123 : decode cX9_tells 123 = .ok (.goto (-51), 3) := by decide +kernel
theorem dX9_tells_126 : decode cX9_tells 126 = .ok (.iload 4, 2) := by decide +kernel
theorem dX9_tells_128 : decode cX9_tells 128 = .ok (.ifCond .le 7, 3) := by decide +kernel
theorem dX9_tells_131 : decode cX9_tells 131 = .ok (.iconst 1, 1) := by decide +kernel
theorem dX9_tells_132 : decode cX9_tells 132 = .ok (.goto 13, 3) := by decide +kernel
theorem dX9_tells_135 : decode cX9_tells 135 = .ok (.iload 4, 2) := by decide +kernel
theorem dX9_tells_137 : decode cX9_tells 137 = .ok (.ifCond .ge 7, 3) := by decide +kernel
theorem dX9_tells_140 : decode cX9_tells 140 = .ok (.iconst 0, 1) := by decide +kernel
theorem dX9_tells_141 : decode cX9_tells 141 = .ok (.goto 4, 3) := by decide +kernel
theorem dX9_tells_144 : decode cX9_tells 144 = .ok (.iconst (-1), 1) := by decide +kernel
theorem dX9_tells_145 : decode cX9_tells 145 = .ok (.ireturn, 1) := by decide +kernel
theorem dX9_decided_0 : decode cX9_decided 0 = .ok (.aload_n 0, 1) := by decide +kernel
theorem dX9_decided_1 : decode cX9_decided 1 = .ok (.aload_n 0, 1) := by decide +kernel
theorem dX9_decided_2 : decode cX9_decided 2 = .ok (.iload_n 1, 1) := by decide +kernel
theorem dX9_decided_3 : decode cX9_decided 3 = .ok (.iconst 0, 1) := by decide +kernel
theorem dX9_decided_4 : decode cX9_decided 4 = .ok (.bipush 9, 2) := by decide +kernel
theorem dX9_decided_6 : decode cX9_decided 6 = .ok (.invokevirtual 96, 3) := by decide +kernel
theorem dX9_decided_9 : decode cX9_decided 9 = .ok (.ifCond .ne 7, 3) := by decide +kernel
theorem dX9_decided_12 : decode cX9_decided 12 = .ok (.iconst 1, 1) := by decide +kernel
theorem dX9_decided_13 : decode cX9_decided 13 = .ok (.goto 4, 3) := by decide +kernel
theorem dX9_decided_16 : decode cX9_decided 16 = .ok (.iconst 0, 1) := by decide +kernel
theorem dX9_decided_17 : decode cX9_decided 17 = .ok (.putfield 89, 3) := by decide +kernel
theorem dX9_decided_20 : decode cX9_decided 20 = .ok (.aload_n 0, 1) := by decide +kernel
theorem dX9_decided_21 : decode cX9_decided 21 = .ok (.getfield 89, 3) := by decide +kernel
theorem dX9_decided_24 : decode cX9_decided 24 = .ok (.ifCond .le 5, 3) := by decide +kernel
theorem dX9_decided_27 : decode cX9_decided 27 = .ok (.iconst 0, 1) := by decide +kernel
theorem dX9_decided_28 : decode cX9_decided 28 = .ok (.ireturn, 1) := by decide +kernel
theorem dX9_decided_29 : decode cX9_decided 29 = .ok (.iconst 0, 1) := by decide +kernel
theorem dX9_decided_30 : decode cX9_decided 30 = .ok (.istore_n 2, 1) := by decide +kernel
theorem dX9_decided_31 : decode cX9_decided 31 = .ok (.iload_n 2, 1) := by decide +kernel
theorem dX9_decided_32 : decode cX9_decided 32 = .ok (.aload_n 0, 1) := by decide +kernel
theorem dX9_decided_33 : decode cX9_decided 33 = .ok (.getfield 144, 3) := by decide +kernel
theorem dX9_decided_36 : decode cX9_decided 36 = .ok (.if_icmp .ge 28, 3) := by decide +kernel
theorem dX9_decided_39 : decode cX9_decided 39 = .ok (.aload_n 0, 1) := by decide +kernel
theorem dX9_decided_40 : decode cX9_decided 40 = .ok (.iload_n 2, 1) := by decide +kernel
theorem dX9_decided_41 : decode cX9_decided 41 = .ok (.iload_n 1, 1) := by decide +kernel
theorem dX9_decided_42 : decode cX9_decided 42 = .ok (.invokevirtual 151, 3) := by decide +kernel
theorem dX9_decided_45 : decode cX9_decided 45 = .ok (.istore_n 3, 1) := by decide +kernel
theorem dX9_decided_46 : decode cX9_decided 46 = .ok (.iload_n 3, 1) := by decide +kernel
theorem dX9_decided_47 : decode cX9_decided 47 = .ok (.iconst (-1), 1) := by decide +kernel
theorem dX9_decided_48 : decode cX9_decided 48 = .ok (.if_icmp .eq 10, 3) := by decide +kernel
theorem dX9_decided_51 : decode cX9_decided 51 = .ok (.bipush 10, 2) := by decide +kernel
theorem dX9_decided_53 : decode cX9_decided 53 = .ok (.iload_n 2, 1) := by decide +kernel
theorem dX9_decided_54 : decode cX9_decided 54 = .ok (.imul, 1) := by decide +kernel
theorem dX9_decided_55 : decode cX9_decided 55 = .ok (.iload_n 3, 1) := by decide +kernel
theorem dX9_decided_56 : decode cX9_decided 56 = .ok (.iadd, 1) := by decide +kernel
theorem dX9_decided_57 : decode cX9_decided 57 = .ok (.ireturn, 1) := by decide +kernel
theorem dX9_decided_58 : decode cX9_decided 58 = .ok (.iinc 2 1, 3) := by decide +kernel
theorem dX9_decided_61 : decode cX9_decided 61 = .ok (.goto (-30), 3) := by decide +kernel
theorem dX9_decided_64 : decode cX9_decided 64 = .ok (.iconst (-1), 1) := by decide +kernel
theorem dX9_decided_65 : decode cX9_decided 65 = .ok (.ireturn, 1) := by decide +kernel
theorem dX9_isIn_0 : decode cX9_isIn 0 = .ok (.aload_n 0, 1) := by decide +kernel
theorem dX9_isIn_1 : decode cX9_isIn 1 = .ok (.getfield 37, 3) := by decide +kernel
theorem dX9_isIn_4 : decode cX9_isIn 4 = .ok (.iload_n 1, 1) := by decide +kernel
theorem dX9_isIn_5 : decode cX9_isIn 5 = .ok (.iaload, 1) := by decide +kernel
theorem dX9_isIn_6 : decode cX9_isIn 6 = .ok (.istore 5, 2) := by decide +kernel
theorem dX9_isIn_8 : decode cX9_isIn 8 = .ok (.aload_n 0, 1) := by decide +kernel
theorem dX9_isIn_9 : decode cX9_isIn 9 = .ok (.getfield 40, 3) := by decide +kernel
theorem dX9_isIn_12 : decode cX9_isIn 12 = .ok (.iload_n 1, 1) := by decide +kernel
theorem dX9_isIn_13 : decode cX9_isIn 13 = .ok (.iaload, 1) := by decide +kernel
theorem dX9_isIn_14 : decode cX9_isIn 14 = .ok (.iload_n 2, 1) := by decide +kernel
theorem dX9_isIn_15 : decode cX9_isIn 15 = .ok (.if_icmp .ne 34, 3) := by decide +kernel
theorem dX9_isIn_18 : decode cX9_isIn 18 = .ok (.aload_n 0, 1) := by decide +kernel
theorem dX9_isIn_19 : decode cX9_isIn 19 = .ok (.getfield 49, 3) := by decide +kernel
theorem dX9_isIn_22 : decode cX9_isIn 22 = .ok (.iload 5, 2) := by decide +kernel
theorem dX9_isIn_24 : decode cX9_isIn 24 = .ok (.baload, 1) := by decide +kernel
theorem dX9_isIn_25 : decode cX9_isIn 25 = .ok (.ifCond .ne 24, 3) := by decide +kernel
theorem dX9_isIn_28 : decode cX9_isIn 28 = .ok (.aload_n 0, 1) := by decide +kernel
theorem dX9_isIn_29 : decode cX9_isIn 29 = .ok (.aload_n 0, 1) := by decide +kernel
theorem dX9_isIn_30 : decode cX9_isIn 30 = .ok (.getfield 46, 3) := by decide +kernel
theorem dX9_isIn_33 : decode cX9_isIn 33 = .ok (.iload 5, 2) := by decide +kernel
theorem dX9_isIn_35 : decode cX9_isIn 35 = .ok (.iaload, 1) := by decide +kernel
theorem dX9_isIn_36 : decode cX9_isIn 36 = .ok (.iload_n 3, 1) := by decide +kernel
theorem dX9_isIn_37 : decode cX9_isIn 37 = .ok (.iload 4, 2) := by decide +kernel
theorem dX9_isIn_39 : decode cX9_isIn 39 = .ok (.invokevirtual 96, 3) := by decide +kernel
theorem dX9_isIn_42 : decode cX9_isIn 42 = .ok (.ifCond .eq 7, 3) := by decide +kernel
theorem dX9_isIn_45 : decode cX9_isIn 45 = .ok (.iconst 1, 1) := by decide +kernel
theorem dX9_isIn_46 : decode cX9_isIn 46 = .ok (.goto 4, 3) := by decide +kernel
theorem dX9_isIn_49 : decode cX9_isIn 49 = .ok (.iconst 0, 1) := by decide +kernel
theorem dX9_isIn_50 : decode cX9_isIn 50 = .ok (.ireturn, 1) := by decide +kernel
theorem dX9_set_0 : decode cX9_set 0 = .ok (.iconst (-1), 1) := by decide +kernel
theorem dX9_set_1 : decode cX9_set 1 = .ok (.istore_n 2, 1) := by decide +kernel
theorem dX9_set_2 : decode cX9_set 2 = .ok (.iconst 0, 1) := by decide +kernel
theorem dX9_set_3 : decode cX9_set 3 = .ok (.istore_n 3, 1) := by decide +kernel
theorem dX9_set_4 : decode cX9_set 4 = .ok (.iconst 0, 1) := by decide +kernel
theorem dX9_set_5 : decode cX9_set 5 = .ok (.istore 4, 2) := by decide +kernel
theorem dX9_set_7 : decode cX9_set 7 = .ok (.aload_n 0, 1) := by decide +kernel
theorem dX9_set_8 : decode cX9_set 8 = .ok (.iconst 0, 1) := by decide +kernel
theorem dX9_set_9 : decode cX9_set 9 = .ok (.putfield 154, 3) := by decide +kernel
theorem dX9_set_12 : decode cX9_set 12 = .ok (.iconst 0, 1) := by decide +kernel
theorem dX9_set_13 : decode cX9_set 13 = .ok (.istore 5, 2) := by decide +kernel
theorem dX9_set_15 : decode cX9_set 15 = .ok (.iload 5, 2) := by decide +kernel
theorem dX9_set_17 : decode cX9_set 17 = .ok (.aload_n 0, 1) := by decide +kernel
theorem dX9_set_18 : decode cX9_set 18 = .ok (.getfield 93, 3) := by decide +kernel
theorem dX9_set_21 : decode cX9_set 21 = .ok (.if_icmp .ge 345, 3) := by decide +kernel
theorem dX9_set_24 : decode cX9_set 24 = .ok (.iconst 0, 1) := by decide +kernel
theorem dX9_set_25 : decode cX9_set 25 = .ok (.istore 6, 2) := by decide +kernel
theorem dX9_set_27 : decode cX9_set 27 = .ok (.iload 6, 2) := by decide +kernel
theorem dX9_set_29 : decode cX9_set 29 = .ok (.aload_n 0, 1) := by decide +kernel
theorem dX9_set_30 : decode cX9_set 30 = .ok (.getfield 16, 3) := by decide +kernel
theorem dX9_set_33 : decode cX9_set 33 = .ok (.iload 5, 2) := by decide +kernel
theorem dX9_set_35 : decode cX9_set 35 = .ok (.iaload, 1) := by decide +kernel
theorem dX9_set_36 : decode cX9_set 36 = .ok (.if_icmp .ge 324, 3) := by decide +kernel
theorem dX9_set_39 : decode cX9_set 39 = .ok (.iload 6, 2) := by decide +kernel
theorem dX9_set_41 : decode cX9_set 41 = .ok (.iload_n 1, 1) := by decide +kernel
theorem dX9_set_42 : decode cX9_set 42 = .ok (.iadd, 1) := by decide +kernel
theorem dX9_set_43 : decode cX9_set 43 = .ok (.iconst 1, 1) := by decide +kernel
theorem dX9_set_44 : decode cX9_set 44 = .ok (.isub, 1) := by decide +kernel
theorem dX9_set_45 : decode cX9_set 45 = .ok (.istore 7, 2) := by decide +kernel
theorem dX9_set_47 : decode cX9_set 47 = .ok (.iconst 0, 1) := by decide +kernel
theorem dX9_set_48 : decode cX9_set 48 = .ok (.istore 8, 2) := by decide +kernel
theorem dX9_set_50 : decode cX9_set 50 = .ok (.iconst 0, 1) := by decide +kernel
theorem dX9_set_51 : decode cX9_set 51 = .ok (.istore 9, 2) := by decide +kernel
theorem dX9_set_53 : decode cX9_set 53 = .ok (.iconst 0, 1) := by decide +kernel
theorem dX9_set_54 : decode cX9_set 54 = .ok (.istore 10, 2) := by decide +kernel
theorem dX9_set_56 : decode cX9_set 56 = .ok (.iload 10, 2) := by decide +kernel
theorem dX9_set_58 : decode cX9_set 58 = .ok (.aload_n 0, 1) := by decide +kernel
theorem dX9_set_59 : decode cX9_set 59 = .ok (.getfield 103, 3) := by decide +kernel
theorem dX9_set_62 : decode cX9_set 62 = .ok (.if_icmp .ge 78, 3) := by decide +kernel
theorem dX9_set_65 : decode cX9_set 65 = .ok (.aload_n 0, 1) := by decide +kernel
theorem dX9_set_66 : decode cX9_set 66 = .ok (.iload 10, 2) := by decide +kernel
theorem dX9_set_68 : decode cX9_set 68 = .ok (.iload 5, 2) := by decide +kernel
theorem dX9_set_70 : decode cX9_set 70 = .ok (.iload 6, 2) := by decide +kernel
theorem dX9_set_72 : decode cX9_set 72 = .ok (.iload 7, 2) := by decide +kernel
theorem dX9_set_74 : decode cX9_set 74 = .ok (.invokevirtual 157, 3) := by decide +kernel
theorem dX9_set_77 : decode cX9_set 77 = .ok (.istore 11, 2) := by decide +kernel
theorem dX9_set_79 : decode cX9_set 79 = .ok (.iload 8, 2) := by decide +kernel
theorem dX9_set_81 : decode cX9_set 81 = .ok (.ifCond .ne 18, 3) := by decide +kernel
theorem dX9_set_84 : decode cX9_set 84 = .ok (.iload 11, 2) := by decide +kernel
theorem dX9_set_86 : decode cX9_set 86 = .ok (.ifCond .eq 17, 3) := by decide +kernel
theorem dX9_set_89 : decode cX9_set 89 = .ok (.aload_n 0, 1) := by decide +kernel
theorem dX9_set_90 : decode cX9_set 90 = .ok (.getfield 56, 3) := by decide +kernel
theorem dX9_set_93 : decode cX9_set 93 = .ok (.iload 10, 2) := by decide +kernel
theorem dX9_set_95 : decode cX9_set 95 = .ok (.iaload, 1) := by decide +kernel
theorem dX9_set_96 : decode cX9_set 96 = .ok (.ifCond .ne 7, 3) := by decide +kernel
theorem dX9_set_99 : decode cX9_set 99 = .ok (.iconst 1, 1) := by decide +kernel
theorem dX9_set_100 : decode cX9_set 100 = .ok (.goto 4, 3) := by decide +kernel
theorem dX9_set_103 : decode cX9_set 103 = .ok (.iconst 0, 1) := by decide +kernel
theorem dX9_set_104 : decode cX9_set 104 = .ok (.istore 8, 2) := by decide +kernel
theorem dX9_set_106 : decode cX9_set 106 = .ok (.iload 9, 2) := by decide +kernel
theorem dX9_set_108 : decode cX9_set 108 = .ok (.ifCond .ne 19, 3) := by decide +kernel
theorem dX9_set_111 : decode cX9_set 111 = .ok (.iload 11, 2) := by decide +kernel
theorem dX9_set_113 : decode cX9_set 113 = .ok (.ifCond .eq 18, 3) := by decide +kernel
theorem dX9_set_116 : decode cX9_set 116 = .ok (.aload_n 0, 1) := by decide +kernel
theorem dX9_set_117 : decode cX9_set 117 = .ok (.getfield 56, 3) := by decide +kernel
theorem dX9_set_120 : decode cX9_set 120 = .ok (.iload 10, 2) := by decide +kernel
theorem dX9_set_122 : decode cX9_set 122 = .ok (.iaload, 1) := by decide +kernel
theorem dX9_set_123 : decode cX9_set 123 = .ok (.iconst 1, 1) := by decide +kernel
theorem dX9_set_124 : decode cX9_set 124 = .ok (.if_icmp .ne 7, 3) := by decide +kernel
theorem dX9_set_127 : decode cX9_set 127 = .ok (.iconst 1, 1) := by decide +kernel
theorem dX9_set_128 : decode cX9_set 128 = .ok (.goto 4, 3) := by decide +kernel
theorem dX9_set_131 : decode cX9_set 131 = .ok (.iconst 0, 1) := by decide +kernel
theorem dX9_set_132 : decode cX9_set 132 = .ok (.istore 9, 2) := by decide +kernel
theorem dX9_set_134 : decode cX9_set 134 = .ok (.iinc 10 1, 3) := by decide +kernel
theorem dX9_set_137 : decode cX9_set 137 = .ok (.goto (-81), 3) := by decide +kernel
theorem dX9_set_140 : decode cX9_set 140 = .ok (.iinc 2 1, 3) := by decide +kernel
theorem dX9_set_143 : decode cX9_set 143 = .ok (.iload 8, 2) := by decide +kernel
theorem dX9_set_145 : decode cX9_set 145 = .ok (.ifCond .eq 12, 3) := by decide +kernel
theorem dX9_set_148 : decode cX9_set 148 = .ok (.iload_n 3, 1) := by decide +kernel
theorem dX9_set_149 : decode cX9_set 149 = .ok (.iload_n 2, 1) := by decide +kernel
theorem dX9_set_150 : decode cX9_set 150 = .ok (.if_icmp .le 7, 3) := by decide +kernel
theorem dX9_set_153 : decode cX9_set 153 = .ok (.iload_n 3, 1) := by decide +kernel
theorem dX9_set_154 : decode cX9_set 154 = .ok (.goto 4, 3) := by decide +kernel
theorem dX9_set_157 : decode cX9_set 157 = .ok (.iload_n 2, 1) := by decide +kernel
theorem dX9_set_158 : decode cX9_set 158 = .ok (.istore_n 2, 1) := by decide +kernel
theorem dX9_set_159 : decode cX9_set 159 = .ok (.iload 9, 2) := by decide +kernel
theorem dX9_set_161 : decode cX9_set 161 = .ok (.ifCond .eq 14, 3) := by decide +kernel
theorem dX9_set_164 : decode cX9_set 164 = .ok (.iload 4, 2) := by decide +kernel
theorem dX9_set_166 : decode cX9_set 166 = .ok (.iload_n 2, 1) := by decide +kernel
theorem dX9_set_167 : decode cX9_set 167 = .ok (.if_icmp .le 8, 3) := by decide +kernel
theorem dX9_set_170 : decode cX9_set 170 = .ok (.iload 4, 2) := by decide +kernel
theorem dX9_set_172 : decode cX9_set 172 = .ok (.goto 4, 3) := by decide +kernel
theorem dX9_set_175 : decode cX9_set 175 = .ok (.iload_n 2, 1) := by decide +kernel
theorem dX9_set_176 : decode cX9_set 176 = .ok (.istore_n 2, 1) := by decide +kernel
theorem dX9_set_177 : decode cX9_set 177 = .ok (.aload_n 0, 1) := by decide +kernel
theorem dX9_set_178 : decode cX9_set 178 = .ok (.getfield 80, 3) := by decide +kernel
theorem dX9_set_181 : decode cX9_set 181 = .ok (.iload 5, 2) := by decide +kernel
theorem dX9_set_183 : decode cX9_set 183 = .ok (.iload 6, 2) := by decide +kernel
theorem dX9_set_185 : decode cX9_set 185 = .ok (.ifCond .ne 7, 3) := by decide +kernel
theorem dX9_set_188 : decode cX9_set 188 = .ok (.iload_n 2, 1) := by decide +kernel
theorem dX9_set_189 : decode cX9_set 189 = .ok (.goto 10, 3) := by decide +kernel
theorem dX9_set_192 : decode cX9_set 192 = .ok (.aload_n 0, 1) := by decide +kernel
theorem dX9_set_193 : decode cX9_set 193 = .ok (.getfield 80, 3) := by decide +kernel
theorem dX9_set_196 : decode cX9_set 196 = .ok (.iload 5, 2) := by decide +kernel
theorem dX9_set_198 : decode cX9_set 198 = .ok (.iaload, 1) := by decide +kernel
theorem dX9_set_199 : decode cX9_set 199 = .ok (.iastore, 1) := by decide +kernel
theorem dX9_set_200 : decode cX9_set 200 = .ok (.iload 8, 2) := by decide +kernel
theorem dX9_set_202 : decode cX9_set 202 = .ok (.ifCond .eq 7, 3) := by decide +kernel
theorem dX9_set_205 : decode cX9_set 205 = .ok (.iload_n 2, 1) := by decide +kernel
theorem dX9_set_206 : decode cX9_set 206 = .ok (.goto 4, 3) := by decide +kernel
theorem dX9_set_209 : decode cX9_set 209 = .ok (.iload_n 3, 1) := by decide +kernel
theorem dX9_set_210 : decode cX9_set 210 = .ok (.istore_n 3, 1) := by decide +kernel
theorem dX9_set_211 : decode cX9_set 211 = .ok (.iload 9, 2) := by decide +kernel
theorem dX9_set_213 : decode cX9_set 213 = .ok (.ifCond .eq 7, 3) := by decide +kernel
theorem dX9_set_216 : decode cX9_set 216 = .ok (.iload_n 2, 1) := by decide +kernel
theorem dX9_set_217 : decode cX9_set 217 = .ok (.goto 5, 3) := by decide +kernel
theorem dX9_set_220 : decode cX9_set 220 = .ok (.iload 4, 2) := by decide +kernel
theorem dX9_set_222 : decode cX9_set 222 = .ok (.istore 4, 2) := by decide +kernel
theorem dX9_set_224 : decode cX9_set 224 = .ok (.iconst 0, 1) := by decide +kernel
theorem dX9_set_225 : decode cX9_set 225 = .ok (.istore 10, 2) := by decide +kernel
theorem dX9_set_227 : decode cX9_set 227 = .ok (.iload 10, 2) := by decide +kernel
theorem dX9_set_229 : decode cX9_set 229 = .ok (.aload_n 0, 1) := by decide +kernel
theorem dX9_set_230 : decode cX9_set 230 = .ok (.getfield 103, 3) := by decide +kernel
theorem dX9_set_233 : decode cX9_set 233 = .ok (.if_icmp .ge 98, 3) := by decide +kernel
theorem dX9_set_236 : decode cX9_set 236 = .ok (.aload_n 0, 1) := by decide +kernel
theorem dX9_set_237 : decode cX9_set 237 = .ok (.iload 10, 2) := by decide +kernel
theorem dX9_set_239 : decode cX9_set 239 = .ok (.iload 5, 2) := by decide +kernel
theorem dX9_set_241 : decode cX9_set 241 = .ok (.iload 6, 2) := by decide +kernel
theorem dX9_set_243 : decode cX9_set 243 = .ok (.iload 7, 2) := by decide +kernel
theorem dX9_set_245 : decode cX9_set 245 = .ok (.invokevirtual 157, 3) := by decide +kernel
theorem dX9_set_248 : decode cX9_set 248 = .ok (.ifCond .eq 77, 3) := by decide +kernel
theorem dX9_set_251 : decode cX9_set 251 = .ok (.aload_n 0, 1) := by decide +kernel
theorem dX9_set_252 : decode cX9_set 252 = .ok (.getfield 83, 3) := by decide +kernel
theorem dX9_set_255 : decode cX9_set 255 = .ok (.iload 10, 2) := by decide +kernel
theorem dX9_set_257 : decode cX9_set 257 = .ok (.aload_n 0, 1) := by decide +kernel
theorem dX9_set_258 : decode cX9_set 258 = .ok (.getfield 56, 3) := by decide +kernel
theorem dX9_set_261 : decode cX9_set 261 = .ok (.iload 10, 2) := by decide +kernel
theorem dX9_set_263 : decode cX9_set 263 = .ok (.iaload, 1) := by decide +kernel
theorem dX9_set_264 : decode cX9_set 264 = .ok (.ifCond .ne 7, 3) := by decide +kernel
theorem dX9_set_267 : decode cX9_set 267 = .ok (.iload_n 3, 1) := by decide +kernel
theorem dX9_set_268 : decode cX9_set 268 = .ok (.goto 5, 3) := by decide +kernel
theorem dX9_set_271 : decode cX9_set 271 = .ok (.iload 4, 2) := by decide +kernel
theorem dX9_set_273 : decode cX9_set 273 = .ok (.iastore, 1) := by decide +kernel
theorem dX9_set_274 : decode cX9_set 274 = .ok (.iload_n 3, 1) := by decide +kernel
theorem dX9_set_275 : decode cX9_set 275 = .ok (.aload_n 0, 1) := by decide +kernel
theorem dX9_set_276 : decode cX9_set 276 = .ok (.getfield 56, 3) := by decide +kernel
theorem dX9_set_279 : decode cX9_set 279 = .ok (.iload 10, 2) := by decide +kernel
theorem dX9_set_281 : decode cX9_set 281 = .ok (.iaload, 1) := by decide +kernel
theorem dX9_set_282 : decode cX9_set 282 = .ok (.ifCond .ne 13, 3) := by decide +kernel
theorem dX9_set_285 : decode cX9_set 285 = .ok (.aload_n 0, 1) := by decide +kernel
theorem dX9_set_286 : decode cX9_set 286 = .ok (.getfield 53, 3) := by decide +kernel
theorem dX9_set_289 : decode cX9_set 289 = .ok (.iload 10, 2) := by decide +kernel
theorem dX9_set_291 : decode cX9_set 291 = .ok (.iaload, 1) := by decide +kernel
theorem dX9_set_292 : decode cX9_set 292 = .ok (.goto 4, 3) := by decide +kernel
theorem dX9_set_295 : decode cX9_set 295 = .ok (.iconst 0, 1) := by decide +kernel
theorem dX9_set_296 : decode cX9_set 296 = .ok (.iadd, 1) := by decide +kernel
theorem dX9_set_297 : decode cX9_set 297 = .ok (.istore_n 3, 1) := by decide +kernel
theorem dX9_set_298 : decode cX9_set 298 = .ok (.iload 4, 2) := by decide +kernel
theorem dX9_set_300 : decode cX9_set 300 = .ok (.aload_n 0, 1) := by decide +kernel
theorem dX9_set_301 : decode cX9_set 301 = .ok (.getfield 56, 3) := by decide +kernel
theorem dX9_set_304 : decode cX9_set 304 = .ok (.iload 10, 2) := by decide +kernel
theorem dX9_set_306 : decode cX9_set 306 = .ok (.iaload, 1) := by decide +kernel
theorem dX9_set_307 : decode cX9_set 307 = .ok (.iconst 1, 1) := by decide +kernel
theorem dX9_set_308 : decode cX9_set 308 = .ok (.if_icmp .ne 13, 3) := by decide +kernel
theorem dX9_set_311 : decode cX9_set 311 = .ok (.aload_n 0, 1) := by decide +kernel
theorem dX9_set_312 : decode cX9_set 312 = .ok (.getfield 53, 3) := by decide +kernel
theorem dX9_set_315 : decode cX9_set 315 = .ok (.iload 10, 2) := by decide +kernel
theorem dX9_set_317 : decode cX9_set 317 = .ok (.iaload, 1) := by decide +kernel
theorem dX9_set_318 : decode cX9_set 318 = .ok (.goto 4, 3) := by decide +kernel
theorem dX9_set_321 : decode cX9_set 321 = .ok (.iconst 0, 1) := by decide +kernel
theorem dX9_set_322 : decode cX9_set 322 = .ok (.iadd, 1) := by decide +kernel
theorem dX9_set_323 : decode cX9_set 323 = .ok (.istore 4, 2) := by decide +kernel
theorem dX9_set_325 : decode cX9_set 325 = .ok (.iinc 10 1, 3) := by decide +kernel
theorem dX9_set_328 : decode cX9_set 328 = .ok (.goto (-101), 3) := by decide +kernel
theorem dX9_set_331 : decode cX9_set 331 = .ok (.aload_n 0, 1) := by decide +kernel
theorem dX9_set_332 : decode cX9_set 332 = .ok (.iload_n 2, 1) := by decide +kernel
theorem dX9_set_333 : decode cX9_set 333 = .ok (.aload_n 0, 1) := by decide +kernel
theorem dX9_set_334 : decode cX9_set 334 = .ok (.getfield 154, 3) := by decide +kernel
theorem dX9_set_337 : decode cX9_set 337 = .ok (.if_icmp .le 7, 3) := by decide +kernel
theorem dX9_set_340 : decode cX9_set 340 = .ok (.iload_n 2, 1) := by decide +kernel
theorem dX9_set_341 : decode cX9_set 341 = .ok (.goto 7, 3) := by decide +kernel
theorem dX9_set_344 : decode cX9_set 344 = .ok (.aload_n 0, 1) := by decide +kernel
theorem dX9_set_345 : decode cX9_set 345 = .ok (.getfield 154, 3) := by decide +kernel
theorem dX9_set_348 : decode cX9_set 348 = .ok (.putfield 154, 3) := by decide +kernel
theorem dX9_set_351 : decode cX9_set 351 = .ok (.iload 6, 2) := by decide +kernel
theorem dX9_set_353 : decode cX9_set 353 = .ok (.iload_n 1, 1) := by decide +kernel
theorem dX9_set_354 : decode cX9_set 354 = .ok (.iadd, 1) := by decide +kernel
theorem dX9_set_355 : decode cX9_set 355 = .ok (.istore 6, 2) := by decide +kernel
theorem dX9_set_357 : decode cX9_set 357 = .ok (.goto (-330), 3) := by decide +kernel
theorem dX9_set_360 : decode cX9_set 360 = .ok (.iinc 5 1, 3) := by decide +kernel
theorem dX9_set_363 : decode cX9_set 363 = .ok (.goto (-348), 3) := by decide +kernel
theorem dX9_set_366 : decode cX9_set 366 = .ok (.aload_n 0, 1) := by decide +kernel
theorem dX9_set_367 : decode cX9_set 367 = .ok (.iload_n 3, 1) := by decide +kernel
theorem dX9_set_368 : decode cX9_set 368 = .ok (.iconst 1, 1) := by decide +kernel
theorem dX9_set_369 : decode cX9_set 369 = .ok (.isub, 1) := by decide +kernel
theorem dX9_set_370 : decode cX9_set 370 = .ok (.aload_n 0, 1) := by decide +kernel
theorem dX9_set_371 : decode cX9_set 371 = .ok (.getfield 154, 3) := by decide +kernel
theorem dX9_set_374 : decode cX9_set 374 = .ok (.if_icmp .le 9, 3) := by decide +kernel
theorem dX9_set_377 : decode cX9_set 377 = .ok (.iload_n 3, 1) := by decide +kernel
theorem dX9_set_378 : decode cX9_set 378 = .ok (.iconst 1, 1) := by decide +kernel
theorem dX9_set_379 : decode cX9_set 379 = .ok (.isub, 1) := by decide +kernel
theorem dX9_set_380 : decode cX9_set 380 = .ok (.goto 7, 3) := by decide +kernel
theorem dX9_set_383 : decode cX9_set 383 = .ok (.aload_n 0, 1) := by decide +kernel
theorem dX9_set_384 : decode cX9_set 384 = .ok (.getfield 154, 3) := by decide +kernel
theorem dX9_set_387 : decode cX9_set 387 = .ok (.putfield 154, 3) := by decide +kernel
theorem dX9_set_390 : decode cX9_set 390 = .ok (.aload_n 0, 1) := by decide +kernel
theorem dX9_set_391 : decode cX9_set 391 = .ok (.iload 4, 2) := by decide +kernel
theorem dX9_set_393 : decode cX9_set 393 = .ok (.iconst 1, 1) := by decide +kernel
theorem dX9_set_394 : decode cX9_set 394 = .ok (.isub, 1) := by decide +kernel
theorem dX9_set_395 : decode cX9_set 395 = .ok (.aload_n 0, 1) := by decide +kernel
theorem dX9_set_396 : decode cX9_set 396 = .ok (.getfield 154, 3) := by decide +kernel
theorem dX9_set_399 : decode cX9_set 399 = .ok (.if_icmp .le 10, 3) := by decide +kernel
theorem dX9_set_402 : decode cX9_set 402 = .ok (.iload 4, 2) := by decide +kernel
theorem dX9_set_404 : decode cX9_set 404 = .ok (.iconst 1, 1) := by decide +kernel
theorem dX9_set_405 : decode cX9_set 405 = .ok (.isub, 1) := by decide +kernel
theorem dX9_set_406 : decode cX9_set 406 = .ok (.goto 7, 3) := by decide +kernel
theorem dX9_set_409 : decode cX9_set 409 = .ok (.aload_n 0, 1) := by decide +kernel
theorem dX9_set_410 : decode cX9_set 410 = .ok (.getfield 154, 3) := by decide +kernel
theorem dX9_set_413 : decode cX9_set 413 = .ok (.putfield 154, 3) := by decide +kernel
theorem dX9_set_416 : decode cX9_set 416 = .ok (.return_, 1) := by decide +kernel
theorem dX9_edition_0 : decode cX9_edition 0 = .ok (.aload_n 0, 1) := by decide +kernel
theorem dX9_edition_1 : decode cX9_edition 1 = .ok (.aload_n 0, 1) := by decide +kernel
theorem dX9_edition_2 : decode cX9_edition 2 = .ok (.iload_n 1, 1) := by decide +kernel
theorem dX9_edition_3 : decode cX9_edition 3 = .ok (.iconst 1, 1) := by decide +kernel
theorem dX9_edition_4 : decode cX9_edition 4 = .ok (.bipush 12, 2) := by decide +kernel
theorem dX9_edition_6 : decode cX9_edition 6 = .ok (.invokevirtual 96, 3) := by decide +kernel
theorem dX9_edition_9 : decode cX9_edition 9 = .ok (.ifCond .eq 14, 3) := by decide +kernel
theorem dX9_edition_12 : decode cX9_edition 12 = .ok (.aload_n 0, 1) := by decide +kernel
theorem dX9_edition_13 : decode cX9_edition 13 = .ok (.iload_n 2, 1) := by decide +kernel
theorem dX9_edition_14 : decode cX9_edition 14 = .ok (.iconst 1, 1) := by decide +kernel
theorem dX9_edition_15 : decode cX9_edition 15 = .ok (.bipush 60, 2) := by decide +kernel
theorem dX9_edition_17 : decode cX9_edition 17 = .ok (.invokevirtual 96, 3) := by decide +kernel
theorem dX9_edition_20 : decode cX9_edition 20 = .ok (.ifCond .ne 7, 3) := by decide +kernel
theorem dX9_edition_23 : decode cX9_edition 23 = .ok (.iconst 1, 1) := by decide +kernel
theorem dX9_edition_24 : decode cX9_edition 24 = .ok (.goto 24, 3) := by decide +kernel
theorem dX9_edition_27 : decode cX9_edition 27 = .ok (.aload_n 0, 1) := by decide +kernel
theorem dX9_edition_28 : decode cX9_edition 28 = .ok (.getfield 93, 3) := by decide +kernel
theorem dX9_edition_31 : decode cX9_edition 31 = .ok (.ifCond .eq 12, 3) := by decide +kernel
theorem dX9_edition_34 : decode cX9_edition 34 = .ok (.aload_n 0, 1) := by decide +kernel
theorem dX9_edition_35 : decode cX9_edition 35 = .ok (.getfield 161, 3) := by decide +kernel
theorem dX9_edition_38 : decode cX9_edition 38 = .ok (.bipush 8, 2) := by decide +kernel
theorem dX9_edition_40 : decode cX9_edition 40 = .ok (.if_icmp .ne 7, 3) := by decide +kernel
theorem dX9_edition_43 : decode cX9_edition 43 = .ok (.iconst 2, 1) := by decide +kernel
theorem dX9_edition_44 : decode cX9_edition 44 = .ok (.goto 4, 3) := by decide +kernel
theorem dX9_edition_47 : decode cX9_edition 47 = .ok (.iconst 0, 1) := by decide +kernel
theorem dX9_edition_48 : decode cX9_edition 48 = .ok (.putfield 89, 3) := by decide +kernel
theorem dX9_edition_51 : decode cX9_edition 51 = .ok (.aload_n 0, 1) := by decide +kernel
theorem dX9_edition_52 : decode cX9_edition 52 = .ok (.getfield 89, 3) := by decide +kernel
theorem dX9_edition_55 : decode cX9_edition 55 = .ok (.ifCond .le 5, 3) := by decide +kernel
theorem dX9_edition_58 : decode cX9_edition 58 = .ok (.iconst 0, 1) := by decide +kernel
theorem dX9_edition_59 : decode cX9_edition 59 = .ok (.ireturn, 1) := by decide +kernel
theorem dX9_edition_60 : decode cX9_edition 60 = .ok (.aload_n 0, 1) := by decide +kernel
theorem dX9_edition_61 : decode cX9_edition 61 = .ok (.iload_n 1, 1) := by decide +kernel
theorem dX9_edition_62 : decode cX9_edition 62 = .ok (.invokevirtual 164, 3) := by decide +kernel
theorem dX9_edition_65 : decode cX9_edition 65 = .ok (.aload_n 0, 1) := by decide +kernel
theorem dX9_edition_66 : decode cX9_edition 66 = .ok (.getfield 161, 3) := by decide +kernel
theorem dX9_edition_69 : decode cX9_edition 69 = .ok (.istore_n 3, 1) := by decide +kernel
theorem dX9_edition_70 : decode cX9_edition 70 = .ok (.aload_n 0, 1) := by decide +kernel
theorem dX9_edition_71 : decode cX9_edition 71 = .ok (.getfield 71, 3) := by decide +kernel
theorem dX9_edition_74 : decode cX9_edition 74 = .ok (.iload_n 3, 1) := by decide +kernel
theorem dX9_edition_75 : decode cX9_edition 75 = .ok (.iload_n 1, 1) := by decide +kernel
theorem dX9_edition_76 : decode cX9_edition 76 = .ok (.iastore, 1) := by decide +kernel
theorem dX9_edition_77 : decode cX9_edition 77 = .ok (.aload_n 0, 1) := by decide +kernel
theorem dX9_edition_78 : decode cX9_edition 78 = .ok (.getfield 74, 3) := by decide +kernel
theorem dX9_edition_81 : decode cX9_edition 81 = .ok (.iload_n 3, 1) := by decide +kernel
theorem dX9_edition_82 : decode cX9_edition 82 = .ok (.aload_n 0, 1) := by decide +kernel
theorem dX9_edition_83 : decode cX9_edition 83 = .ok (.getfield 154, 3) := by decide +kernel
theorem dX9_edition_86 : decode cX9_edition 86 = .ok (.iload_n 2, 1) := by decide +kernel
theorem dX9_edition_87 : decode cX9_edition 87 = .ok (.idiv, 1) := by decide +kernel
theorem dX9_edition_88 : decode cX9_edition 88 = .ok (.iconst 1, 1) := by decide +kernel
theorem dX9_edition_89 : decode cX9_edition 89 = .ok (.iadd, 1) := by decide +kernel
theorem dX9_edition_90 : decode cX9_edition 90 = .ok (.iastore, 1) := by decide +kernel
theorem dX9_edition_91 : decode cX9_edition 91 = .ok (.iconst 0, 1) := by decide +kernel
theorem dX9_edition_92 : decode cX9_edition 92 = .ok (.istore 4, 2) := by decide +kernel
theorem dX9_edition_94 : decode cX9_edition 94 = .ok (.iload 4, 2) := by decide +kernel
theorem dX9_edition_96 : decode cX9_edition 96 = .ok (.bipush 20, 2) := by decide +kernel
theorem dX9_edition_98 : decode cX9_edition 98 = .ok (.if_icmp .ge 56, 3) := by decide +kernel
theorem dX9_edition_101 : decode cX9_edition 101 = .ok (.aload_n 0, 1) := by decide +kernel
theorem dX9_edition_102 : decode cX9_edition 102 = .ok (.getfield 77, 3) := by decide +kernel
theorem dX9_edition_105 : decode cX9_edition 105 = .ok (.bipush 20, 2) := by decide +kernel
theorem dX9_edition_107 : decode cX9_edition 107 = .ok (.iload_n 3, 1) := by decide +kernel
theorem dX9_edition_108 : decode cX9_edition 108 = .ok (.imul, 1) := by decide +kernel
theorem dX9_edition_109 : decode cX9_edition 109 = .ok (.iload 4, 2) := by decide +kernel
theorem dX9_edition_111 : decode cX9_edition 111 = .ok (.iadd, 1) := by decide +kernel
theorem dX9_edition_112 : decode cX9_edition 112 = .ok (.iload 4, 2) := by decide +kernel
theorem dX9_edition_114 : decode cX9_edition 114 = .ok (.aload_n 0, 1) := by decide +kernel
theorem dX9_edition_115 : decode cX9_edition 115 = .ok (.getfield 93, 3) := by decide +kernel
theorem dX9_edition_118 : decode cX9_edition 118 = .ok (.if_icmp .ge 28, 3) := by decide +kernel
theorem dX9_edition_121 : decode cX9_edition 121 = .ok (.bipush 100, 2) := by decide +kernel
theorem dX9_edition_123 : decode cX9_edition 123 = .ok (.aload_n 0, 1) := by decide +kernel
theorem dX9_edition_124 : decode cX9_edition 124 = .ok (.getfield 80, 3) := by decide +kernel
theorem dX9_edition_127 : decode cX9_edition 127 = .ok (.iload 4, 2) := by decide +kernel
theorem dX9_edition_129 : decode cX9_edition 129 = .ok (.iaload, 1) := by decide +kernel
theorem dX9_edition_130 : decode cX9_edition 130 = .ok (.iload_n 2, 1) := by decide +kernel
theorem dX9_edition_131 : decode cX9_edition 131 = .ok (.idiv, 1) := by decide +kernel
theorem dX9_edition_132 : decode cX9_edition 132 = .ok (.imul, 1) := by decide +kernel
theorem dX9_edition_133 : decode cX9_edition 133 = .ok (.aload_n 0, 1) := by decide +kernel
theorem dX9_edition_134 : decode cX9_edition 134 = .ok (.getfield 80, 3) := by decide +kernel
theorem dX9_edition_137 : decode cX9_edition 137 = .ok (.iload 4, 2) := by decide +kernel
theorem dX9_edition_139 : decode cX9_edition 139 = .ok (.iaload, 1) := by decide +kernel
theorem dX9_edition_140 : decode cX9_edition 140 = .ok (.iload_n 2, 1) := by decide +kernel
theorem dX9_edition_141 : decode cX9_edition 141 = .ok (.irem, 1) := by decide +kernel
theorem dX9_edition_142 : decode cX9_edition 142 = .ok (.iadd, 1) := by decide +kernel
theorem dX9_edition_143 : decode cX9_edition 143 = .ok (.goto 4, 3) := by decide +kernel
theorem dX9_edition_146 : decode cX9_edition 146 = .ok (.iconst (-1), 1) := by decide +kernel
theorem dX9_edition_147 : decode cX9_edition 147 = .ok (.iastore, 1) := by decide +kernel
theorem dX9_edition_148 : decode cX9_edition 148 = .ok (.iinc 4 1, 3) := by decide +kernel
theorem dX9_edition_151 : decode cX9_edition 151 = .ok (.goto (-57), 3) := by decide +kernel
theorem dX9_edition_154 : decode cX9_edition 154 = .ok (.aload_n 0, 1) := by decide +kernel
theorem dX9_edition_155 : decode cX9_edition 155 = .ok (.dup, 1) := by decide +kernel
theorem dX9_edition_156 : decode cX9_edition 156 = .ok (.getfield 161, 3) := by decide +kernel
theorem dX9_edition_159 : decode cX9_edition 159 = .ok (.iconst 1, 1) := by decide +kernel
theorem dX9_edition_160 : decode cX9_edition 160 = .ok (.iadd, 1) := by decide +kernel
theorem dX9_edition_161 : decode cX9_edition 161 = .ok (.putfield 161, 3) := by decide +kernel
theorem dX9_edition_164 : decode cX9_edition 164 = .ok (.iload_n 3, 1) := by decide +kernel
theorem dX9_edition_165 : decode cX9_edition 165 = .ok (.ireturn, 1) := by decide +kernel
theorem dX9_isEdition_0 : decode cX9_isEdition 0 = .ok (.aload_n 0, 1) := by decide +kernel
theorem dX9_isEdition_1 : decode cX9_isEdition 1 = .ok (.iload_n 1, 1) := by decide +kernel
theorem dX9_isEdition_2 : decode cX9_isEdition 2 = .ok (.iconst 0, 1) := by decide +kernel
theorem dX9_isEdition_3 : decode cX9_isEdition 3 = .ok (.aload_n 0, 1) := by decide +kernel
theorem dX9_isEdition_4 : decode cX9_isEdition 4 = .ok (.getfield 161, 3) := by decide +kernel
theorem dX9_isEdition_7 : decode cX9_isEdition 7 = .ok (.iconst 1, 1) := by decide +kernel
theorem dX9_isEdition_8 : decode cX9_isEdition 8 = .ok (.isub, 1) := by decide +kernel
theorem dX9_isEdition_9 : decode cX9_isEdition 9 = .ok (.invokevirtual 96, 3) := by decide +kernel
theorem dX9_isEdition_12 : decode cX9_isEdition 12 = .ok (.ireturn, 1) := by decide +kernel
theorem dX9_address_0 : decode cX9_address 0 = .ok (.aload_n 0, 1) := by decide +kernel
theorem dX9_address_1 : decode cX9_address 1 = .ok (.aload_n 0, 1) := by decide +kernel
theorem dX9_address_2 : decode cX9_address 2 = .ok (.iload_n 1, 1) := by decide +kernel
theorem dX9_address_3 : decode cX9_address 3 = .ok (.invokevirtual 168, 3) := by decide +kernel
theorem dX9_address_6 : decode cX9_address 6 = .ok (.ifCond .eq 11, 3) := by decide +kernel
theorem dX9_address_9 : decode cX9_address 9 = .ok (.aload_n 0, 1) := by decide +kernel
theorem dX9_address_10 : decode cX9_address 10 = .ok (.iload_n 2, 1) := by decide +kernel
theorem dX9_address_11 : decode cX9_address 11 = .ok (.invokevirtual 109, 3) := by decide +kernel
theorem dX9_address_14 : decode cX9_address 14 = .ok (.ifCond .ne 7, 3) := by decide +kernel
theorem dX9_address_17 : decode cX9_address 17 = .ok (.iconst 1, 1) := by decide +kernel
theorem dX9_address_18 : decode cX9_address 18 = .ok (.goto 4, 3) := by decide +kernel
theorem dX9_address_21 : decode cX9_address 21 = .ok (.iconst 0, 1) := by decide +kernel
theorem dX9_address_22 : decode cX9_address 22 = .ok (.putfield 89, 3) := by decide +kernel
theorem dX9_address_25 : decode cX9_address 25 = .ok (.aload_n 0, 1) := by decide +kernel
theorem dX9_address_26 : decode cX9_address 26 = .ok (.getfield 89, 3) := by decide +kernel
theorem dX9_address_29 : decode cX9_address 29 = .ok (.ifCond .le 7, 3) := by decide +kernel
theorem dX9_address_32 : decode cX9_address 32 = .ok (.iconst 0, 1) := by decide +kernel
theorem dX9_address_33 : decode cX9_address 33 = .ok (.goto 14, 3) := by decide +kernel
theorem dX9_address_36 : decode cX9_address 36 = .ok (.aload_n 0, 1) := by decide +kernel
theorem dX9_address_37 : decode cX9_address 37 = .ok (.getfield 77, 3) := by decide +kernel
theorem dX9_address_40 : decode cX9_address 40 = .ok (.bipush 20, 2) := by decide +kernel
theorem dX9_address_42 : decode cX9_address 42 = .ok (.iload_n 1, 1) := by decide +kernel
theorem dX9_address_43 : decode cX9_address 43 = .ok (.imul, 1) := by decide +kernel
theorem dX9_address_44 : decode cX9_address 44 = .ok (.iload_n 2, 1) := by decide +kernel
theorem dX9_address_45 : decode cX9_address 45 = .ok (.iadd, 1) := by decide +kernel
theorem dX9_address_46 : decode cX9_address 46 = .ok (.iaload, 1) := by decide +kernel
theorem dX9_address_47 : decode cX9_address 47 = .ok (.ireturn, 1) := by decide +kernel
theorem dX9_pages_0 : decode cX9_pages 0 = .ok (.aload_n 0, 1) := by decide +kernel
theorem dX9_pages_1 : decode cX9_pages 1 = .ok (.aload_n 0, 1) := by decide +kernel
theorem dX9_pages_2 : decode cX9_pages 2 = .ok (.iload_n 1, 1) := by decide +kernel
theorem dX9_pages_3 : decode cX9_pages 3 = .ok (.invokevirtual 168, 3) := by decide +kernel
theorem dX9_pages_6 : decode cX9_pages 6 = .ok (.ifCond .ne 7, 3) := by decide +kernel
theorem dX9_pages_9 : decode cX9_pages 9 = .ok (.iconst 1, 1) := by decide +kernel
theorem dX9_pages_10 : decode cX9_pages 10 = .ok (.goto 4, 3) := by decide +kernel
theorem dX9_pages_13 : decode cX9_pages 13 = .ok (.iconst 0, 1) := by decide +kernel
theorem dX9_pages_14 : decode cX9_pages 14 = .ok (.putfield 89, 3) := by decide +kernel
theorem dX9_pages_17 : decode cX9_pages 17 = .ok (.aload_n 0, 1) := by decide +kernel
theorem dX9_pages_18 : decode cX9_pages 18 = .ok (.getfield 89, 3) := by decide +kernel
theorem dX9_pages_21 : decode cX9_pages 21 = .ok (.ifCond .le 7, 3) := by decide +kernel
theorem dX9_pages_24 : decode cX9_pages 24 = .ok (.iconst 0, 1) := by decide +kernel
theorem dX9_pages_25 : decode cX9_pages 25 = .ok (.goto 9, 3) := by decide +kernel
theorem dX9_pages_28 : decode cX9_pages 28 = .ok (.aload_n 0, 1) := by decide +kernel
theorem dX9_pages_29 : decode cX9_pages 29 = .ok (.getfield 74, 3) := by decide +kernel
theorem dX9_pages_32 : decode cX9_pages 32 = .ok (.iload_n 1, 1) := by decide +kernel
theorem dX9_pages_33 : decode cX9_pages 33 = .ok (.iaload, 1) := by decide +kernel
theorem dX9_pages_34 : decode cX9_pages 34 = .ok (.ireturn, 1) := by decide +kernel
theorem dX9_row_0 : decode cX9_row 0 = .ok (.aload_n 0, 1) := by decide +kernel
theorem dX9_row_1 : decode cX9_row 1 = .ok (.aload_n 0, 1) := by decide +kernel
theorem dX9_row_2 : decode cX9_row 2 = .ok (.iload_n 1, 1) := by decide +kernel
theorem dX9_row_3 : decode cX9_row 3 = .ok (.invokevirtual 127, 3) := by decide +kernel
theorem dX9_row_6 : decode cX9_row 6 = .ok (.ifCond .ne 7, 3) := by decide +kernel
theorem dX9_row_9 : decode cX9_row 9 = .ok (.iconst 1, 1) := by decide +kernel
theorem dX9_row_10 : decode cX9_row 10 = .ok (.goto 4, 3) := by decide +kernel
theorem dX9_row_13 : decode cX9_row 13 = .ok (.iconst 0, 1) := by decide +kernel
theorem dX9_row_14 : decode cX9_row 14 = .ok (.putfield 89, 3) := by decide +kernel
theorem dX9_row_17 : decode cX9_row 17 = .ok (.aload_n 0, 1) := by decide +kernel
theorem dX9_row_18 : decode cX9_row 18 = .ok (.getfield 89, 3) := by decide +kernel
theorem dX9_row_21 : decode cX9_row 21 = .ok (.ifCond .le 5, 3) := by decide +kernel
theorem dX9_row_24 : decode cX9_row 24 = .ok (.iconst 0, 1) := by decide +kernel
theorem dX9_row_25 : decode cX9_row 25 = .ok (.ireturn, 1) := by decide +kernel
theorem dX9_row_26 : decode cX9_row 26 = .ok (.aload_n 0, 1) := by decide +kernel
theorem dX9_row_27 : decode cX9_row 27 = .ok (.getfield 49, 3) := by decide +kernel
theorem dX9_row_30 : decode cX9_row 30 = .ok (.aload_n 0, 1) := by decide +kernel
theorem dX9_row_31 : decode cX9_row 31 = .ok (.getfield 37, 3) := by decide +kernel
theorem dX9_row_34 : decode cX9_row 34 = .ok (.iload_n 1, 1) := by decide +kernel
theorem dX9_row_35 : decode cX9_row 35 = .ok (.iaload, 1) := by decide +kernel
theorem dX9_row_36 : decode cX9_row 36 = .ok (.baload, 1) := by decide +kernel
theorem dX9_row_37 : decode cX9_row 37 = .ok (.ifCond .ne 10, 3) := by decide +kernel
theorem dX9_row_40 : decode cX9_row 40 = .ok (.aload_n 0, 1) := by decide +kernel
theorem dX9_row_41 : decode cX9_row 41 = .ok (.getfield 161, 3) := by decide +kernel
theorem dX9_row_44 : decode cX9_row 44 = .ok (.ifCond .ne 5, 3) := by decide +kernel
theorem dX9_row_47 : decode cX9_row 47 = .ok (.iconst (-1), 1) := by decide +kernel
theorem dX9_row_48 : decode cX9_row 48 = .ok (.ireturn, 1) := by decide +kernel
theorem dX9_row_49 : decode cX9_row 49 = .ok (.aload_n 0, 1) := by decide +kernel
theorem dX9_row_50 : decode cX9_row 50 = .ok (.aload_n 0, 1) := by decide +kernel
theorem dX9_row_51 : decode cX9_row 51 = .ok (.getfield 71, 3) := by decide +kernel
theorem dX9_row_54 : decode cX9_row 54 = .ok (.aload_n 0, 1) := by decide +kernel
theorem dX9_row_55 : decode cX9_row 55 = .ok (.getfield 161, 3) := by decide +kernel
theorem dX9_row_58 : decode cX9_row 58 = .ok (.iconst 1, 1) := by decide +kernel
theorem dX9_row_59 : decode cX9_row 59 = .ok (.isub, 1) := by decide +kernel
theorem dX9_row_60 : decode cX9_row 60 = .ok (.iaload, 1) := by decide +kernel
theorem dX9_row_61 : decode cX9_row 61 = .ok (.invokevirtual 164, 3) := by decide +kernel
theorem dX9_row_64 : decode cX9_row 64 = .ok (.aload_n 0, 1) := by decide +kernel
theorem dX9_row_65 : decode cX9_row 65 = .ok (.getfield 83, 3) := by decide +kernel
theorem dX9_row_68 : decode cX9_row 68 = .ok (.iload_n 1, 1) := by decide +kernel
theorem dX9_row_69 : decode cX9_row 69 = .ok (.iaload, 1) := by decide +kernel
theorem dX9_row_70 : decode cX9_row 70 = .ok (.ireturn, 1) := by decide +kernel
theorem dX9_holds_0 : decode cX9_holds 0 = .ok (.aload_n 0, 1) := by decide +kernel
theorem dX9_holds_1 : decode cX9_holds 1 = .ok (.aload_n 0, 1) := by decide +kernel
theorem dX9_holds_2 : decode cX9_holds 2 = .ok (.iload_n 1, 1) := by decide +kernel
theorem dX9_holds_3 : decode cX9_holds 3 = .ok (.invokevirtual 168, 3) := by decide +kernel
theorem dX9_holds_6 : decode cX9_holds 6 = .ok (.ifCond .ne 7, 3) := by decide +kernel
theorem dX9_holds_9 : decode cX9_holds 9 = .ok (.iconst 1, 1) := by decide +kernel
theorem dX9_holds_10 : decode cX9_holds 10 = .ok (.goto 4, 3) := by decide +kernel
theorem dX9_holds_13 : decode cX9_holds 13 = .ok (.iconst 0, 1) := by decide +kernel
theorem dX9_holds_14 : decode cX9_holds 14 = .ok (.putfield 89, 3) := by decide +kernel
theorem dX9_holds_17 : decode cX9_holds 17 = .ok (.iconst 0, 1) := by decide +kernel
theorem dX9_holds_18 : decode cX9_holds 18 = .ok (.istore_n 2, 1) := by decide +kernel
theorem dX9_holds_19 : decode cX9_holds 19 = .ok (.iconst 0, 1) := by decide +kernel
theorem dX9_holds_20 : decode cX9_holds 20 = .ok (.istore_n 3, 1) := by decide +kernel
theorem dX9_holds_21 : decode cX9_holds 21 = .ok (.iload_n 3, 1) := by decide +kernel
theorem dX9_holds_22 : decode cX9_holds 22 = .ok (.bipush 20, 2) := by decide +kernel
theorem dX9_holds_24 : decode cX9_holds 24 = .ok (.if_icmp .ge 70, 3) := by decide +kernel
theorem dX9_holds_27 : decode cX9_holds 27 = .ok (.aload_n 0, 1) := by decide +kernel
theorem dX9_holds_28 : decode cX9_holds 28 = .ok (.getfield 89, 3) := by decide +kernel
theorem dX9_holds_31 : decode cX9_holds 31 = .ok (.ifCond .ne 63, 3) := by decide +kernel
theorem dX9_holds_34 : decode cX9_holds 34 = .ok (.aload_n 0, 1) := by decide +kernel
theorem dX9_holds_35 : decode cX9_holds 35 = .ok (.getfield 77, 3) := by decide +kernel
theorem dX9_holds_38 : decode cX9_holds 38 = .ok (.bipush 20, 2) := by decide +kernel
theorem dX9_holds_40 : decode cX9_holds 40 = .ok (.iload_n 1, 1) := by decide +kernel
theorem dX9_holds_41 : decode cX9_holds 41 = .ok (.imul, 1) := by decide +kernel
theorem dX9_holds_42 : decode cX9_holds 42 = .ok (.iload_n 3, 1) := by decide +kernel
theorem dX9_holds_43 : decode cX9_holds 43 = .ok (.iadd, 1) := by decide +kernel
theorem dX9_holds_44 : decode cX9_holds 44 = .ok (.iaload, 1) := by decide +kernel
theorem dX9_holds_45 : decode cX9_holds 45 = .ok (.istore 4, 2) := by decide +kernel
theorem dX9_holds_47 : decode cX9_holds 47 = .ok (.aload_n 0, 1) := by decide +kernel
theorem dX9_holds_48 : decode cX9_holds 48 = .ok (.getfield 77, 3) := by decide +kernel
theorem dX9_holds_51 : decode cX9_holds 51 = .ok (.iload_n 3, 1) := by decide +kernel
theorem dX9_holds_52 : decode cX9_holds 52 = .ok (.iaload, 1) := by decide +kernel
theorem dX9_holds_53 : decode cX9_holds 53 = .ok (.istore 5, 2) := by decide +kernel
theorem dX9_holds_55 : decode cX9_holds 55 = .ok (.iload_n 2, 1) := by decide +kernel
theorem dX9_holds_56 : decode cX9_holds 56 = .ok (.iload 4, 2) := by decide +kernel
theorem dX9_holds_58 : decode cX9_holds 58 = .ok (.iconst (-1), 1) := by decide +kernel
theorem dX9_holds_59 : decode cX9_holds 59 = .ok (.if_icmp .eq 26, 3) := by decide +kernel
theorem dX9_holds_62 : decode cX9_holds 62 = .ok (.iload 5, 2) := by decide +kernel
theorem dX9_holds_64 : decode cX9_holds 64 = .ok (.iconst (-1), 1) := by decide +kernel
theorem dX9_holds_65 : decode cX9_holds 65 = .ok (.if_icmp .eq 20, 3) := by decide +kernel
theorem dX9_holds_68 : decode cX9_holds 68 = .ok (.iload 4, 2) := by decide +kernel
theorem dX9_holds_70 : decode cX9_holds 70 = .ok (.bipush 100, 2) := by decide +kernel
theorem dX9_holds_72 : decode cX9_holds 72 = .ok (.idiv, 1) := by decide +kernel
theorem dX9_holds_73 : decode cX9_holds 73 = .ok (.iload 5, 2) := by decide +kernel
theorem dX9_holds_75 : decode cX9_holds 75 = .ok (.bipush 100, 2) := by decide +kernel
theorem dX9_holds_77 : decode cX9_holds 77 = .ok (.idiv, 1) := by decide +kernel
theorem dX9_holds_78 : decode cX9_holds 78 = .ok (.if_icmp .ne 7, 3) := by decide +kernel
theorem dX9_holds_81 : decode cX9_holds 81 = .ok (.iconst 1, 1) := by decide +kernel
theorem dX9_holds_82 : decode cX9_holds 82 = .ok (.goto 4, 3) := by decide +kernel
theorem dX9_holds_85 : decode cX9_holds 85 = .ok (.iconst 0, 1) := by decide +kernel
theorem dX9_holds_86 : decode cX9_holds 86 = .ok (.iadd, 1) := by decide +kernel
theorem dX9_holds_87 : decode cX9_holds 87 = .ok (.istore_n 2, 1) := by decide +kernel
theorem dX9_holds_88 : decode cX9_holds 88 = .ok (.iinc 3 1, 3) := by decide +kernel
theorem dX9_holds_91 : decode cX9_holds 91 = .ok (.goto (-70), 3) := by decide +kernel
theorem dX9_holds_94 : decode cX9_holds 94 = .ok (.iload_n 2, 1) := by decide +kernel
theorem dX9_holds_95 : decode cX9_holds 95 = .ok (.ireturn, 1) := by decide +kernel
theorem dX9_daily_0 : decode cX9_daily 0 = .ok (.aload_n 0, 1) := by decide +kernel
theorem dX9_daily_1 : decode cX9_daily 1 = .ok (.aload_n 0, 1) := by decide +kernel
theorem dX9_daily_2 : decode cX9_daily 2 = .ok (.iload_n 1, 1) := by decide +kernel
theorem dX9_daily_3 : decode cX9_daily 3 = .ok (.iconst 0, 1) := by decide +kernel
theorem dX9_daily_4 : decode cX9_daily 4 = .ok (.ldc 171, 2) := by decide +kernel
theorem dX9_daily_6 : decode cX9_daily 6 = .ok (.invokevirtual 96, 3) := by decide +kernel
theorem dX9_daily_9 : decode cX9_daily 9 = .ok (.ifCond .ne 7, 3) := by decide +kernel
theorem dX9_daily_12 : decode cX9_daily 12 = .ok (.iconst 1, 1) := by decide +kernel
theorem dX9_daily_13 : decode cX9_daily 13 = .ok (.goto 4, 3) := by decide +kernel
theorem dX9_daily_16 : decode cX9_daily 16 = .ok (.iconst 0, 1) := by decide +kernel
theorem dX9_daily_17 : decode cX9_daily 17 = .ok (.putfield 89, 3) := by decide +kernel
theorem dX9_daily_20 : decode cX9_daily 20 = .ok (.aload_n 0, 1) := by decide +kernel
theorem dX9_daily_21 : decode cX9_daily 21 = .ok (.getfield 89, 3) := by decide +kernel
theorem dX9_daily_24 : decode cX9_daily 24 = .ok (.ifCond .gt 10, 3) := by decide +kernel
theorem dX9_daily_27 : decode cX9_daily 27 = .ok (.aload_n 0, 1) := by decide +kernel
theorem dX9_daily_28 : decode cX9_daily 28 = .ok (.getfield 161, 3) := by decide +kernel
theorem dX9_daily_31 : decode cX9_daily 31 = .ok (.ifCond .ne 5, 3) := by decide +kernel
theorem dX9_daily_34 : decode cX9_daily 34 = .ok (.iconst 0, 1) := by decide +kernel
theorem dX9_daily_35 : decode cX9_daily 35 = .ok (.ireturn, 1) := by decide +kernel
theorem dX9_daily_36 : decode cX9_daily 36 = .ok (.aload_n 0, 1) := by decide +kernel
theorem dX9_daily_37 : decode cX9_daily 37 = .ok (.getfield 161, 3) := by decide +kernel
theorem dX9_daily_40 : decode cX9_daily 40 = .ok (.iconst 1, 1) := by decide +kernel
theorem dX9_daily_41 : decode cX9_daily 41 = .ok (.isub, 1) := by decide +kernel
theorem dX9_daily_42 : decode cX9_daily 42 = .ok (.istore_n 2, 1) := by decide +kernel
theorem dX9_daily_43 : decode cX9_daily 43 = .ok (.iload_n 1, 1) := by decide +kernel
theorem dX9_daily_44 : decode cX9_daily 44 = .ok (.aload_n 0, 1) := by decide +kernel
theorem dX9_daily_45 : decode cX9_daily 45 = .ok (.getfield 74, 3) := by decide +kernel
theorem dX9_daily_48 : decode cX9_daily 48 = .ok (.iload_n 2, 1) := by decide +kernel
theorem dX9_daily_49 : decode cX9_daily 49 = .ok (.iaload, 1) := by decide +kernel
theorem dX9_daily_50 : decode cX9_daily 50 = .ok (.irem, 1) := by decide +kernel
theorem dX9_daily_51 : decode cX9_daily 51 = .ok (.istore_n 3, 1) := by decide +kernel
theorem dX9_daily_52 : decode cX9_daily 52 = .ok (.iconst 0, 1) := by decide +kernel
theorem dX9_daily_53 : decode cX9_daily 53 = .ok (.istore 4, 2) := by decide +kernel
theorem dX9_daily_55 : decode cX9_daily 55 = .ok (.iconst 0, 1) := by decide +kernel
theorem dX9_daily_56 : decode cX9_daily 56 = .ok (.istore 5, 2) := by decide +kernel
theorem dX9_daily_58 : decode cX9_daily 58 = .ok (.iload 5, 2) := by decide +kernel
theorem dX9_daily_60 : decode cX9_daily 60 = .ok (.bipush 20, 2) := by decide +kernel
theorem dX9_daily_62 : decode cX9_daily 62 = .ok (.if_icmp .ge 52, 3) := by decide +kernel
theorem dX9_daily_65 : decode cX9_daily 65 = .ok (.aload_n 0, 1) := by decide +kernel
theorem dX9_daily_66 : decode cX9_daily 66 = .ok (.getfield 77, 3) := by decide +kernel
theorem dX9_daily_69 : decode cX9_daily 69 = .ok (.bipush 20, 2) := by decide +kernel
theorem dX9_daily_71 : decode cX9_daily 71 = .ok (.iload_n 2, 1) := by decide +kernel
theorem dX9_daily_72 : decode cX9_daily 72 = .ok (.imul, 1) := by decide +kernel
theorem dX9_daily_73 : decode cX9_daily 73 = .ok (.iload 5, 2) := by decide +kernel
theorem dX9_daily_75 : decode cX9_daily 75 = .ok (.iadd, 1) := by decide +kernel
theorem dX9_daily_76 : decode cX9_daily 76 = .ok (.iaload, 1) := by decide +kernel
theorem dX9_daily_77 : decode cX9_daily 77 = .ok (.istore 6, 2) := by decide +kernel
theorem dX9_daily_79 : decode cX9_daily 79 = .ok (.iload 6, 2) := by decide +kernel
theorem dX9_daily_81 : decode cX9_daily 81 = .ok (.iconst (-1), 1) := by decide +kernel
theorem dX9_daily_82 : decode cX9_daily 82 = .ok (.if_icmp .eq 22, 3) := by decide +kernel
theorem dX9_daily_85 : decode cX9_daily 85 = .ok (.iload 6, 2) := by decide +kernel
theorem dX9_daily_87 : decode cX9_daily 87 = .ok (.bipush 100, 2) := by decide +kernel
theorem dX9_daily_89 : decode cX9_daily 89 = .ok (.idiv, 1) := by decide +kernel
theorem dX9_daily_90 : decode cX9_daily 90 = .ok (.iload_n 3, 1) := by decide +kernel
theorem dX9_daily_91 : decode cX9_daily 91 = .ok (.if_icmp .ne 13, 3) := by decide +kernel
theorem dX9_daily_94 : decode cX9_daily 94 = .ok (.iload 4, 2) := by decide +kernel
theorem dX9_daily_96 : decode cX9_daily 96 = .ok (.iconst 1, 1) := by decide +kernel
theorem dX9_daily_97 : decode cX9_daily 97 = .ok (.iload 5, 2) := by decide +kernel
theorem dX9_daily_99 : decode cX9_daily 99 = .ok (.ishl, 1) := by decide +kernel
theorem dX9_daily_100 : decode cX9_daily 100 = .ok (.ior, 1) := by decide +kernel
theorem dX9_daily_101 : decode cX9_daily 101 = .ok (.goto 5, 3) := by decide +kernel
theorem dX9_daily_104 : decode cX9_daily 104 = .ok (.iload 4, 2) := by decide +kernel
theorem dX9_daily_106 : decode cX9_daily 106 = .ok (.istore 4, 2) := by decide +kernel
theorem dX9_daily_108 : decode cX9_daily 108 = .ok (.iinc 5 1, 3) := by decide +kernel
theorem dX9_daily_111 : decode cX9_daily 111 = .ok (.goto (-53), 3) := by decide +kernel
theorem dX9_daily_114 : decode cX9_daily 114 = .ok (.iload 4, 2) := by decide +kernel
theorem dX9_daily_116 : decode cX9_daily 116 = .ok (.ireturn, 1) := by decide +kernel

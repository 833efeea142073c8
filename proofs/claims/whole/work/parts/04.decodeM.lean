theorem dX8_init_0 : decode cX8_init 0 = .ok (.aload_n 0, 1) := by decide +kernel
theorem dX8_init_1 : decode cX8_init 1 = .ok (.invokespecial 1, 3) := by decide +kernel
theorem dX8_init_4 : decode cX8_init 4 = .ok (.aload_n 0, 1) := by decide +kernel
theorem dX8_init_5 : decode cX8_init 5 = .ok (.bipush 10, 2) := by decide +kernel
theorem dX8_init_7 : decode cX8_init 7 = .ok (.putfield 7, 3) := by decide +kernel
theorem dX8_init_10 : decode cX8_init 10 = .ok (.aload_n 0, 1) := by decide +kernel
theorem dX8_init_11 : decode cX8_init 11 = .ok (.bipush 16, 2) := by decide +kernel
theorem dX8_init_13 : decode cX8_init 13 = .ok (.newarray .boolean, 2) := by decide +kernel
theorem dX8_init_15 : decode cX8_init 15 = .ok (.putfield 13, 3) := by decide +kernel
theorem dX8_init_18 : decode cX8_init 18 = .ok (.aload_n 0, 1) := by decide +kernel
theorem dX8_init_19 : decode cX8_init 19 = .ok (.bipush 24, 2) := by decide +kernel
theorem dX8_init_21 : decode cX8_init 21 = .ok (.newarray .int, 2) := by decide +kernel
theorem dX8_init_23 : decode cX8_init 23 = .ok (.putfield 17, 3) := by decide +kernel
theorem dX8_init_26 : decode cX8_init 26 = .ok (.aload_n 0, 1) := by decide +kernel
theorem dX8_init_27 : decode cX8_init 27 = .ok (.bipush 24, 2) := by decide +kernel
theorem dX8_init_29 : decode cX8_init 29 = .ok (.newarray .int, 2) := by decide +kernel
theorem dX8_init_31 : decode cX8_init 31 = .ok (.putfield 21, 3) := by decide +kernel
theorem dX8_init_34 : decode cX8_init 34 = .ok (.aload_n 0, 1) := by decide +kernel
theorem dX8_init_35 : decode cX8_init 35 = .ok (.bipush 24, 2) := by decide +kernel
theorem dX8_init_37 : decode cX8_init 37 = .ok (.newarray .int, 2) := by decide +kernel
theorem dX8_init_39 : decode cX8_init 39 = .ok (.putfield 24, 3) := by decide +kernel
theorem dX8_init_42 : decode cX8_init 42 = .ok (.aload_n 0, 1) := by decide +kernel
theorem dX8_init_43 : decode cX8_init 43 = .ok (.bipush 24, 2) := by decide +kernel
theorem dX8_init_45 : decode cX8_init 45 = .ok (.newarray .int, 2) := by decide +kernel
theorem dX8_init_47 : decode cX8_init 47 = .ok (.putfield 27, 3) := by decide +kernel
theorem dX8_init_50 : decode cX8_init 50 = .ok (.aload_n 0, 1) := by decide +kernel
theorem dX8_init_51 : decode cX8_init 51 = .ok (.bipush 24, 2) := by decide +kernel
theorem dX8_init_53 : decode cX8_init 53 = .ok (.newarray .boolean, 2) := by decide +kernel
theorem dX8_init_55 : decode cX8_init 55 = .ok (.putfield 30, 3) := by decide +kernel
theorem dX8_init_58 : decode cX8_init 58 = .ok (.aload_n 0, 1) := by decide +kernel
theorem dX8_init_59 : decode cX8_init 59 = .ok (.bipush 24, 2) := by decide +kernel
theorem dX8_init_61 : decode cX8_init 61 = .ok (.newarray .boolean, 2) := by decide +kernel
theorem dX8_init_63 : decode cX8_init 63 = .ok (.putfield 33, 3) := by decide +kernel
theorem dX8_init_66 : decode cX8_init 66 = .ok (.aload_n 0, 1) := by decide +kernel
theorem dX8_init_67 : decode cX8_init 67 = .ok (.bipush 30, 2) := by decide +kernel
theorem dX8_init_69 : decode cX8_init 69 = .ok (.newarray .int, 2) := by decide +kernel
theorem dX8_init_71 : decode cX8_init 71 = .ok (.putfield 36, 3) := by decide +kernel
theorem dX8_init_74 : decode cX8_init 74 = .ok (.aload_n 0, 1) := by decide +kernel
theorem dX8_init_75 : decode cX8_init 75 = .ok (.bipush 30, 2) := by decide +kernel
theorem dX8_init_77 : decode cX8_init 77 = .ok (.newarray .int, 2) := by decide +kernel
theorem dX8_init_79 : decode cX8_init 79 = .ok (.putfield 39, 3) := by decide +kernel
theorem dX8_init_82 : decode cX8_init 82 = .ok (.aload_n 0, 1) := by decide +kernel
theorem dX8_init_83 : decode cX8_init 83 = .ok (.bipush 30, 2) := by decide +kernel
theorem dX8_init_85 : decode cX8_init 85 = .ok (.newarray .int, 2) := by decide +kernel
theorem dX8_init_87 : decode cX8_init 87 = .ok (.putfield 42, 3) := by decide +kernel
theorem dX8_init_90 : decode cX8_init 90 = .ok (.aload_n 0, 1) := by decide +kernel
theorem dX8_init_91 : decode cX8_init 91 = .ok (.bipush 30, 2) := by decide +kernel
theorem dX8_init_93 : decode cX8_init 93 = .ok (.newarray .int, 2) := by decide +kernel
theorem dX8_init_95 : decode cX8_init 95 = .ok (.putfield 45, 3) := by decide +kernel
theorem dX8_init_98 : decode cX8_init 98 = .ok (.aload_n 0, 1) := by decide +kernel
theorem dX8_init_99 : decode cX8_init 99 = .ok (.bipush 30, 2) := by decide +kernel
theorem dX8_init_101 : decode cX8_init 101 = .ok (.newarray .boolean, 2) := by decide +kernel
theorem dX8_init_103 : decode cX8_init 103 = .ok (.putfield 48, 3) := by decide +kernel
theorem dX8_init_106 : decode cX8_init 106 = .ok (.aload_n 0, 1) := by decide +kernel
theorem dX8_init_107 : decode cX8_init 107 = .ok (.sipush 240, 3) := by decide +kernel
theorem dX8_init_110 : decode cX8_init 110 = .ok (.newarray .int, 2) := by decide +kernel
theorem dX8_init_112 : decode cX8_init 112 = .ok (.putfield 51, 3) := by decide +kernel
theorem dX8_init_115 : decode cX8_init 115 = .ok (.aload_n 0, 1) := by decide +kernel
theorem dX8_init_116 : decode cX8_init 116 = .ok (.bipush 10, 2) := by decide +kernel
theorem dX8_init_118 : decode cX8_init 118 = .ok (.newarray .int, 2) := by decide +kernel
theorem dX8_init_120 : decode cX8_init 120 = .ok (.dup, 1) := by decide +kernel
theorem dX8_init_121 : decode cX8_init 121 = .ok (.iconst 0, 1) := by decide +kernel
theorem dX8_init_122 : decode cX8_init 122 = .ok (.bipush 50, 2) := by decide +kernel
theorem dX8_init_124 : decode cX8_init 124 = .ok (.iastore, 1) := by decide +kernel
theorem dX8_init_125 : decode cX8_init 125 = .ok (.dup, 1) := by decide +kernel
theorem dX8_init_126 : decode cX8_init 126 = .ok (.iconst 1, 1) := by decide +kernel
theorem dX8_init_127 : decode cX8_init 127 = .ok (.bipush 50, 2) := by decide +kernel
theorem dX8_init_129 : decode cX8_init 129 = .ok (.iastore, 1) := by decide +kernel
theorem dX8_init_130 : decode cX8_init 130 = .ok (.dup, 1) := by decide +kernel
theorem dX8_init_131 : decode cX8_init 131 = .ok (.iconst 2, 1) := by decide +kernel
theorem dX8_init_132 : decode cX8_init 132 = .ok (.bipush 50, 2) := by decide +kernel
theorem dX8_init_134 : decode cX8_init 134 = .ok (.iastore, 1) := by decide +kernel
theorem dX8_init_135 : decode cX8_init 135 = .ok (.dup, 1) := by decide +kernel
theorem dX8_init_136 : decode cX8_init 136 = .ok (.iconst 3, 1) := by decide +kernel
theorem dX8_init_137 : decode cX8_init 137 = .ok (.bipush 50, 2) := by decide +kernel
theorem dX8_init_139 : decode cX8_init 139 = .ok (.iastore, 1) := by decide +kernel
theorem dX8_init_140 : decode cX8_init 140 = .ok (.dup, 1) := by decide +kernel
theorem dX8_init_141 : decode cX8_init 141 = .ok (.iconst 4, 1) := by decide +kernel
theorem dX8_init_142 : decode cX8_init 142 = .ok (.bipush 50, 2) := by decide +kernel
theorem dX8_init_144 : decode cX8_init 144 = .ok (.iastore, 1) := by decide +kernel
theorem dX8_init_145 : decode cX8_init 145 = .ok (.dup, 1) := by decide +kernel
theorem dX8_init_146 : decode cX8_init 146 = .ok (.iconst 5, 1) := by decide +kernel
theorem dX8_init_147 : decode cX8_init 147 = .ok (.bipush 50, 2) := by decide +kernel
theorem dX8_init_149 : decode cX8_init 149 = .ok (.iastore, 1) := by decide +kernel
theorem dX8_init_150 : decode cX8_init 150 = .ok (.dup, 1) := by decide +kernel
theorem dX8_init_151 : decode cX8_init 151 = .ok (.bipush 6, 2) := by decide +kernel
theorem dX8_init_153 : decode cX8_init 153 = .ok (.bipush 50, 2) := by decide +kernel
theorem dX8_init_155 : decode cX8_init 155 = .ok (.iastore, 1) := by decide +kernel
theorem dX8_init_156 : decode cX8_init 156 = .ok (.dup, 1) := by decide +kernel
theorem dX8_init_157 : decode cX8_init 157 = .ok (.bipush 7, 2) := by decide +kernel
theorem dX8_init_159 : decode cX8_init 159 = .ok (.bipush 50, 2) := by decide +kernel
theorem dX8_init_161 : decode cX8_init 161 = .ok (.iastore, 1) := by decide +kernel
theorem dX8_init_162 : decode cX8_init 162 = .ok (.dup, 1) := by decide +kernel
theorem dX8_init_163 : decode cX8_init 163 = .ok (.bipush 8, 2) := by decide +kernel
theorem dX8_init_165 : decode cX8_init 165 = .ok (.bipush 50, 2) := by decide +kernel
theorem dX8_init_167 : decode cX8_init 167 = .ok (.iastore, 1) := by decide +kernel
theorem dX8_init_168 : decode cX8_init 168 = .ok (.dup, 1) := by decide +kernel
theorem dX8_init_169 : decode cX8_init 169 = .ok (.bipush 9, 2) := by decide +kernel
theorem dX8_init_171 : decode cX8_init 171 = .ok (.bipush 50, 2) := by decide +kernel
theorem dX8_init_173 : decode cX8_init 173 = .ok (.iastore, 1) := by decide +kernel
theorem dX8_init_174 : decode cX8_init 174 = .ok (.putfield 54, 3) := by decide +kernel
theorem dX8_init_177 : decode cX8_init 177 = .ok (.aload_n 0, 1) := by decide +kernel
theorem dX8_init_178 : decode cX8_init 178 = .ok (.bipush 40, 2) := by decide +kernel
theorem dX8_init_180 : decode cX8_init 180 = .ok (.newarray .char, 2) := by decide +kernel
theorem dX8_init_182 : decode cX8_init 182 = .ok (.putfield 57, 3) := by decide +kernel
theorem dX8_init_185 : decode cX8_init 185 = .ok (.aload_n 0, 1) := by decide +kernel
theorem dX8_init_186 : decode cX8_init 186 = .ok (.bipush 40, 2) := by decide +kernel
theorem dX8_init_188 : decode cX8_init 188 = .ok (.newarray .int, 2) := by decide +kernel
theorem dX8_init_190 : decode cX8_init 190 = .ok (.putfield 61, 3) := by decide +kernel
theorem dX8_init_193 : decode cX8_init 193 = .ok (.aload_n 0, 1) := by decide +kernel
theorem dX8_init_194 : decode cX8_init 194 = .ok (.bipush 40, 2) := by decide +kernel
theorem dX8_init_196 : decode cX8_init 196 = .ok (.newarray .int, 2) := by decide +kernel
theorem dX8_init_198 : decode cX8_init 198 = .ok (.putfield 64, 3) := by decide +kernel
theorem dX8_init_201 : decode cX8_init 201 = .ok (.aload_n 0, 1) := by decide +kernel
theorem dX8_init_202 : decode cX8_init 202 = .ok (.bipush 40, 2) := by decide +kernel
theorem dX8_init_204 : decode cX8_init 204 = .ok (.newarray .int, 2) := by decide +kernel
theorem dX8_init_206 : decode cX8_init 206 = .ok (.putfield 67, 3) := by decide +kernel
theorem dX8_init_209 : decode cX8_init 209 = .ok (.aload_n 0, 1) := by decide +kernel
theorem dX8_init_210 : decode cX8_init 210 = .ok (.iconst 4, 1) := by decide +kernel
theorem dX8_init_211 : decode cX8_init 211 = .ok (.newarray .int, 2) := by decide +kernel
theorem dX8_init_213 : decode cX8_init 213 = .ok (.putfield 70, 3) := by decide +kernel
theorem dX8_init_216 : decode cX8_init 216 = .ok (.aload_n 0, 1) := by decide +kernel
theorem dX8_init_217 : decode cX8_init 217 = .ok (.iconst 4, 1) := by decide +kernel
theorem dX8_init_218 : decode cX8_init 218 = .ok (.newarray .int, 2) := by decide +kernel
theorem dX8_init_220 : decode cX8_init 220 = .ok (.putfield 73, 3) := by decide +kernel
theorem dX8_init_223 : decode cX8_init 223 = .ok (.aload_n 0, 1) := by decide +kernel
theorem dX8_init_224 : decode cX8_init 224 = .ok (.iconst 4, 1) := by decide +kernel
theorem dX8_init_225 : decode cX8_init 225 = .ok (.newarray .int, 2) := by decide +kernel
theorem dX8_init_227 : decode cX8_init 227 = .ok (.putfield 76, 3) := by decide +kernel
theorem dX8_init_230 : decode cX8_init 230 = .ok (.aload_n 0, 1) := by decide +kernel
theorem dX8_init_231 : decode cX8_init 231 = .ok (.sipush 240, 3) := by decide +kernel
theorem dX8_init_234 : decode cX8_init 234 = .ok (.newarray .boolean, 2) := by decide +kernel
theorem dX8_init_236 : decode cX8_init 236 = .ok (.putfield 79, 3) := by decide +kernel
theorem dX8_init_239 : decode cX8_init 239 = .ok (.aload_n 0, 1) := by decide +kernel
theorem dX8_init_240 : decode cX8_init 240 = .ok (.bipush 10, 2) := by decide +kernel
theorem dX8_init_242 : decode cX8_init 242 = .ok (.newarray .int, 2) := by decide +kernel
theorem dX8_init_244 : decode cX8_init 244 = .ok (.putfield 82, 3) := by decide +kernel
theorem dX8_init_247 : decode cX8_init 247 = .ok (.aload_n 0, 1) := by decide +kernel
theorem dX8_init_248 : decode cX8_init 248 = .ok (.bipush 16, 2) := by decide +kernel
theorem dX8_init_250 : decode cX8_init 250 = .ok (.newarray .int, 2) := by decide +kernel
theorem dX8_init_252 : decode cX8_init 252 = .ok (.putfield 85, 3) := by decide +kernel
theorem dX8_init_255 : decode cX8_init 255 = .ok (.return_, 1) := by decide +kernel
theorem dX8_thrown_0 : decode cX8_thrown 0 = .ok (.aload_n 0, 1) := by decide +kernel
theorem dX8_thrown_1 : decode cX8_thrown 1 = .ok (.getfield 88, 3) := by decide +kernel
theorem dX8_thrown_4 : decode cX8_thrown 4 = .ok (.ireturn, 1) := by decide +kernel
theorem dX8_in_0 : decode cX8_in 0 = .ok (.iload_n 1, 1) := by decide +kernel
theorem dX8_in_1 : decode cX8_in 1 = .ok (.iload_n 2, 1) := by decide +kernel
theorem dX8_in_2 : decode cX8_in 2 = .ok (.if_icmp .lt 12, 3) := by decide +kernel
theorem dX8_in_5 : decode cX8_in 5 = .ok (.iload_n 1, 1) := by decide +kernel
theorem dX8_in_6 : decode cX8_in 6 = .ok (.iload_n 3, 1) := by decide +kernel
theorem dX8_in_7 : decode cX8_in 7 = .ok (.if_icmp .gt 7, 3) := by decide +kernel
theorem dX8_in_10 : decode cX8_in 10 = .ok (.iconst 1, 1) := by decide +kernel
theorem dX8_in_11 : decode cX8_in 11 = .ok (.goto 4, 3) := by decide +kernel
theorem dX8_in_14 : decode cX8_in 14 = .ok (.iconst 0, 1) := by decide +kernel
theorem dX8_in_15 : decode cX8_in 15 = .ok (.ireturn, 1) := by decide +kernel
theorem dX8_least_0 : decode cX8_least 0 = .ok (.iload_n 1, 1) := by decide +kernel
theorem dX8_least_1 : decode cX8_least 1 = .ok (.iload_n 2, 1) := by decide +kernel
theorem dX8_least_2 : decode cX8_least 2 = .ok (.if_icmp .ge 7, 3) := by decide +kernel
theorem dX8_least_5 : decode cX8_least 5 = .ok (.iload_n 1, 1) := by decide +kernel
theorem dX8_least_6 : decode cX8_least 6 = .ok (.goto 4, 3) := by decide +kernel
theorem dX8_least_9 : decode cX8_least 9 = .ok (.iload_n 2, 1) := by decide +kernel
theorem dX8_least_10 : decode cX8_least 10 = .ok (.ireturn, 1) := by decide +kernel
theorem dX8_fails_0 : decode cX8_fails 0 = .ok (.aload_n 0, 1) := by decide +kernel
theorem dX8_fails_1 : decode cX8_fails 1 = .ok (.iload_n 1, 1) := by decide +kernel
theorem dX8_fails_2 : decode cX8_fails 2 = .ok (.putfield 88, 3) := by decide +kernel
theorem dX8_fails_5 : decode cX8_fails 5 = .ok (.iconst 0, 1) := by decide +kernel
theorem dX8_fails_6 : decode cX8_fails 6 = .ok (.ireturn, 1) := by decide +kernel
theorem dX8_tells_0 : decode cX8_tells 0 = .ok (.aload_n 0, 1) := by decide +kernel
theorem dX8_tells_1 : decode cX8_tells 1 = .ok (.iconst 0, 1) := by decide +kernel
theorem dX8_tells_2 : decode cX8_tells 2 = .ok (.putfield 88, 3) := by decide +kernel
theorem dX8_tells_5 : decode cX8_tells 5 = .ok (.iload_n 1, 1) := by decide +kernel
theorem dX8_tells_6 : decode cX8_tells 6 = .ok (.ireturn, 1) := by decide +kernel
theorem dX8_isFork_0 : decode cX8_isFork 0 = .ok (.aload_n 0, 1) := by decide +kernel
theorem dX8_isFork_1 : decode cX8_isFork 1 = .ok (.iload_n 1, 1) := by decide +kernel
theorem dX8_isFork_2 : decode cX8_isFork 2 = .ok (.iconst 0, 1) := by decide +kernel
theorem dX8_isFork_3 : decode cX8_isFork 3 = .ok (.aload_n 0, 1) := by decide +kernel
theorem dX8_isFork_4 : decode cX8_isFork 4 = .ok (.getfield 91, 3) := by decide +kernel
theorem dX8_isFork_7 : decode cX8_isFork 7 = .ok (.iconst 1, 1) := by decide +kernel
theorem dX8_isFork_8 : decode cX8_isFork 8 = .ok (.isub, 1) := by decide +kernel
theorem dX8_isFork_9 : decode cX8_isFork 9 = .ok (.invokevirtual 94, 3) := by decide +kernel
theorem dX8_isFork_12 : decode cX8_isFork 12 = .ok (.ireturn, 1) := by decide +kernel
theorem dX8_isTrail_0 : decode cX8_isTrail 0 = .ok (.aload_n 0, 1) := by decide +kernel
theorem dX8_isTrail_1 : decode cX8_isTrail 1 = .ok (.iload_n 1, 1) := by decide +kernel
theorem dX8_isTrail_2 : decode cX8_isTrail 2 = .ok (.iconst 0, 1) := by decide +kernel
theorem dX8_isTrail_3 : decode cX8_isTrail 3 = .ok (.aload_n 0, 1) := by decide +kernel
theorem dX8_isTrail_4 : decode cX8_isTrail 4 = .ok (.getfield 98, 3) := by decide +kernel
theorem dX8_isTrail_7 : decode cX8_isTrail 7 = .ok (.iconst 1, 1) := by decide +kernel
theorem dX8_isTrail_8 : decode cX8_isTrail 8 = .ok (.isub, 1) := by decide +kernel
theorem dX8_isTrail_9 : decode cX8_isTrail 9 = .ok (.invokevirtual 94, 3) := by decide +kernel
theorem dX8_isTrail_12 : decode cX8_isTrail 12 = .ok (.ireturn, 1) := by decide +kernel
theorem dX8_isBoard_0 : decode cX8_isBoard 0 = .ok (.aload_n 0, 1) := by decide +kernel
theorem dX8_isBoard_1 : decode cX8_isBoard 1 = .ok (.iload_n 1, 1) := by decide +kernel
theorem dX8_isBoard_2 : decode cX8_isBoard 2 = .ok (.iconst 0, 1) := by decide +kernel
theorem dX8_isBoard_3 : decode cX8_isBoard 3 = .ok (.aload_n 0, 1) := by decide +kernel
theorem dX8_isBoard_4 : decode cX8_isBoard 4 = .ok (.getfield 101, 3) := by decide +kernel
theorem dX8_isBoard_7 : decode cX8_isBoard 7 = .ok (.iconst 1, 1) := by decide +kernel
theorem dX8_isBoard_8 : decode cX8_isBoard 8 = .ok (.isub, 1) := by decide +kernel
theorem dX8_isBoard_9 : decode cX8_isBoard 9 = .ok (.invokevirtual 94, 3) := by decide +kernel
theorem dX8_isBoard_12 : decode cX8_isBoard 12 = .ok (.ireturn, 1) := by decide +kernel
theorem dX8_isTask_0 : decode cX8_isTask 0 = .ok (.aload_n 0, 1) := by decide +kernel
theorem dX8_isTask_1 : decode cX8_isTask 1 = .ok (.iload_n 1, 1) := by decide +kernel
theorem dX8_isTask_2 : decode cX8_isTask 2 = .ok (.iconst 0, 1) := by decide +kernel
theorem dX8_isTask_3 : decode cX8_isTask 3 = .ok (.aload_n 0, 1) := by decide +kernel
theorem dX8_isTask_4 : decode cX8_isTask 4 = .ok (.getfield 104, 3) := by decide +kernel
theorem dX8_isTask_7 : decode cX8_isTask 7 = .ok (.iconst 1, 1) := by decide +kernel
theorem dX8_isTask_8 : decode cX8_isTask 8 = .ok (.isub, 1) := by decide +kernel
theorem dX8_isTask_9 : decode cX8_isTask 9 = .ok (.invokevirtual 94, 3) := by decide +kernel
theorem dX8_isTask_12 : decode cX8_isTask 12 = .ok (.ireturn, 1) := by decide +kernel
theorem dX8_isRanger_0 : decode cX8_isRanger 0 = .ok (.aload_n 0, 1) := by decide +kernel
theorem dX8_isRanger_1 : decode cX8_isRanger 1 = .ok (.iload_n 1, 1) := by decide +kernel
theorem dX8_isRanger_2 : decode cX8_isRanger 2 = .ok (.iconst 0, 1) := by decide +kernel
theorem dX8_isRanger_3 : decode cX8_isRanger 3 = .ok (.aload_n 0, 1) := by decide +kernel
theorem dX8_isRanger_4 : decode cX8_isRanger 4 = .ok (.getfield 107, 3) := by decide +kernel
theorem dX8_isRanger_7 : decode cX8_isRanger 7 = .ok (.iconst 1, 1) := by decide +kernel
theorem dX8_isRanger_8 : decode cX8_isRanger 8 = .ok (.isub, 1) := by decide +kernel
theorem dX8_isRanger_9 : decode cX8_isRanger 9 = .ok (.invokevirtual 94, 3) := by decide +kernel
theorem dX8_isRanger_12 : decode cX8_isRanger 12 = .ok (.ireturn, 1) := by decide +kernel
theorem dX8_addFork_0 : decode cX8_addFork 0 = .ok (.aload_n 0, 1) := by decide +kernel
theorem dX8_addFork_1 : decode cX8_addFork 1 = .ok (.getfield 91, 3) := by decide +kernel
theorem dX8_addFork_4 : decode cX8_addFork 4 = .ok (.bipush 16, 2) := by decide +kernel
theorem dX8_addFork_6 : decode cX8_addFork 6 = .ok (.if_icmp .ne 9, 3) := by decide +kernel
theorem dX8_addFork_9 : decode cX8_addFork 9 = .ok (.aload_n 0, 1) := by decide +kernel
theorem dX8_addFork_10 : decode cX8_addFork 10 = .ok (.iconst 1, 1) := by decide +kernel
theorem dX8_addFork_11 : decode cX8_addFork 11 = .ok (.invokevirtual 110, 3) := by decide +kernel
theorem dX8_addFork_14 : decode cX8_addFork 14 = .ok (.ireturn, 1) := by decide +kernel
theorem dX8_addFork_15 : decode cX8_addFork 15 = .ok (.aload_n 0, 1) := by decide +kernel
theorem dX8_addFork_16 : decode cX8_addFork 16 = .ok (.getfield 13, 3) := by decide +kernel
theorem dX8_addFork_19 : decode cX8_addFork 19 = .ok (.aload_n 0, 1) := by decide +kernel
theorem dX8_addFork_20 : decode cX8_addFork 20 = .ok (.getfield 91, 3) := by decide +kernel
theorem dX8_addFork_23 : decode cX8_addFork 23 = .ok (.iload_n 1, 1) := by decide +kernel
theorem dX8_addFork_24 : decode cX8_addFork 24 = .ok (.bastore, 1) := by decide +kernel
theorem dX8_addFork_25 : decode cX8_addFork 25 = .ok (.aload_n 0, 1) := by decide +kernel
theorem dX8_addFork_26 : decode cX8_addFork 26 = .ok (.dup, 1) := by decide +kernel
theorem dX8_addFork_27 : decode cX8_addFork 27 = .ok (.getfield 91, 3) := by decide +kernel
theorem dX8_addFork_30 : decode cX8_addFork 30 = .ok (.iconst 1, 1) := by decide +kernel
theorem dX8_addFork_31 : decode cX8_addFork 31 = .ok (.iadd, 1) := by decide +kernel
theorem dX8_addFork_32 : decode cX8_addFork 32 = .ok (.putfield 91, 3) := by decide +kernel
theorem dX8_addFork_35 : decode cX8_addFork 35 = .ok (.aload_n 0, 1) := by decide +kernel
theorem dX8_addFork_36 : decode cX8_addFork 36 = .ok (.aload_n 0, 1) := by decide +kernel
theorem dX8_addFork_37 : decode cX8_addFork 37 = .ok (.getfield 91, 3) := by decide +kernel
theorem dX8_addFork_40 : decode cX8_addFork 40 = .ok (.iconst 1, 1) := by decide +kernel
theorem dX8_addFork_41 : decode cX8_addFork 41 = .ok (.isub, 1) := by decide +kernel
theorem dX8_addFork_42 : decode cX8_addFork 42 = .ok (.invokevirtual 114, 3) := by decide +kernel
theorem dX8_addFork_45 : decode cX8_addFork 45 = .ok (.ireturn, 1) := by decide +kernel
theorem dX8_addTrail_0 : decode cX8_addTrail 0 = .ok (.aload_n 0, 1) := by decide +kernel
theorem dX8_addTrail_1 : decode cX8_addTrail 1 = .ok (.iload_n 1, 1) := by decide +kernel
theorem dX8_addTrail_2 : decode cX8_addTrail 2 = .ok (.invokevirtual 117, 3) := by decide +kernel
theorem dX8_addTrail_5 : decode cX8_addTrail 5 = .ok (.ifCond .eq 11, 3) := by decide +kernel
theorem dX8_addTrail_8 : decode cX8_addTrail 8 = .ok (.aload_n 0, 1) := by decide +kernel
theorem dX8_addTrail_9 : decode cX8_addTrail 9 = .ok (.iload_n 2, 1) := by decide +kernel
theorem dX8_addTrail_10 : decode cX8_addTrail 10 = .ok (.invokevirtual 117, 3) := by decide +kernel
theorem dX8_addTrail_13 : decode cX8_addTrail 13 = .ok (.ifCond .ne 9, 3) := by decide +kernel
theorem dX8_addTrail_16 : decode cX8_addTrail 16 = .ok (.aload_n 0, 1) := by decide +kernel
theorem dX8_addTrail_17 : decode cX8_addTrail 17 = .ok (.iconst 1, 1) := by decide +kernel
theorem dX8_addTrail_18 : decode cX8_addTrail 18 = .ok (.invokevirtual 110, 3) := by decide +kernel
theorem dX8_addTrail_21 : decode cX8_addTrail 21 = .ok (.ireturn, 1) := by decide +kernel
theorem dX8_addTrail_22 : decode cX8_addTrail 22 = .ok (.iload_n 1, 1) := by decide +kernel
theorem dX8_addTrail_23 : decode cX8_addTrail 23 = .ok (.iload_n 2, 1) := by decide +kernel
theorem dX8_addTrail_24 : decode cX8_addTrail 24 = .ok (.if_icmp .eq 28, 3) := by decide +kernel
theorem dX8_addTrail_27 : decode cX8_addTrail 27 = .ok (.aload_n 0, 1) := by decide +kernel
theorem dX8_addTrail_28 : decode cX8_addTrail 28 = .ok (.iload_n 3, 1) := by decide +kernel
theorem dX8_addTrail_29 : decode cX8_addTrail 29 = .ok (.iconst 1, 1) := by decide +kernel
theorem dX8_addTrail_30 : decode cX8_addTrail 30 = .ok (.sipush 300, 3) := by decide +kernel
theorem dX8_addTrail_33 : decode cX8_addTrail 33 = .ok (.invokevirtual 94, 3) := by decide +kernel
theorem dX8_addTrail_36 : decode cX8_addTrail 36 = .ok (.ifCond .eq 16, 3) := by decide +kernel
theorem dX8_addTrail_39 : decode cX8_addTrail 39 = .ok (.aload_n 0, 1) := by decide +kernel
theorem dX8_addTrail_40 : decode cX8_addTrail 40 = .ok (.iload 4, 2) := by decide +kernel
theorem dX8_addTrail_42 : decode cX8_addTrail 42 = .ok (.iconst 1, 1) := by decide +kernel
theorem dX8_addTrail_43 : decode cX8_addTrail 43 = .ok (.sipush 300, 3) := by decide +kernel
theorem dX8_addTrail_46 : decode cX8_addTrail 46 = .ok (.invokevirtual 94, 3) := by decide +kernel
theorem dX8_addTrail_49 : decode cX8_addTrail 49 = .ok (.ifCond .ne 9, 3) := by decide +kernel
theorem dX8_addTrail_52 : decode cX8_addTrail 52 = .ok (.aload_n 0, 1) := by decide +kernel
theorem dX8_addTrail_53 : decode cX8_addTrail 53 = .ok (.iconst 2, 1) := by decide +kernel
theorem dX8_addTrail_54 : decode cX8_addTrail 54 = .ok (.invokevirtual 110, 3) := by decide +kernel
theorem dX8_addTrail_57 : decode cX8_addTrail 57 = .ok (.ireturn, 1) := by decide +kernel
theorem dX8_addTrail_58 : decode cX8_addTrail 58 = .ok (.aload_n 0, 1) := by decide +kernel
theorem dX8_addTrail_59 : decode cX8_addTrail 59 = .ok (.getfield 98, 3) := by decide +kernel
theorem dX8_addTrail_62 : decode cX8_addTrail 62 = .ok (.bipush 24, 2) := by decide +kernel
theorem dX8_addTrail_64 : decode cX8_addTrail 64 = .ok (.if_icmp .ne 9, 3) := by decide +kernel
theorem dX8_addTrail_67 : decode cX8_addTrail 67 = .ok (.aload_n 0, 1) := by decide +kernel
theorem dX8_addTrail_68 : decode cX8_addTrail 68 = .ok (.iconst 3, 1) := by decide +kernel
theorem dX8_addTrail_69 : decode cX8_addTrail 69 = .ok (.invokevirtual 110, 3) := by decide +kernel
theorem dX8_addTrail_72 : decode cX8_addTrail 72 = .ok (.ireturn, 1) := by decide +kernel
theorem dX8_addTrail_73 : decode cX8_addTrail 73 = .ok (.aload_n 0, 1) := by decide +kernel
theorem dX8_addTrail_74 : decode cX8_addTrail 74 = .ok (.getfield 17, 3) := by decide +kernel
theorem dX8_addTrail_77 : decode cX8_addTrail 77 = .ok (.aload_n 0, 1) := by decide +kernel
theorem dX8_addTrail_78 : decode cX8_addTrail 78 = .ok (.getfield 98, 3) := by decide +kernel
theorem dX8_addTrail_81 : decode cX8_addTrail 81 = .ok (.iload_n 1, 1) := by decide +kernel
theorem dX8_addTrail_82 : decode cX8_addTrail 82 = .ok (.iastore, 1) := by decide +kernel
theorem dX8_addTrail_83 : decode cX8_addTrail 83 = .ok (.aload_n 0, 1) := by decide +kernel
theorem dX8_addTrail_84 : decode cX8_addTrail 84 = .ok (.getfield 21, 3) := by decide +kernel
theorem dX8_addTrail_87 : decode cX8_addTrail 87 = .ok (.aload_n 0, 1) := by decide +kernel
theorem dX8_addTrail_88 : decode cX8_addTrail 88 = .ok (.getfield 98, 3) := by decide +kernel
theorem dX8_addTrail_91 : decode cX8_addTrail 91 = .ok (.iload_n 2, 1) := by decide +kernel
theorem dX8_addTrail_92 : decode cX8_addTrail 92 = .ok (.iastore, 1) := by decide +kernel
theorem dX8_addTrail_93 : decode cX8_addTrail 93 = .ok (.aload_n 0, 1) := by decide +kernel
theorem dX8_addTrail_94 : decode cX8_addTrail 94 = .ok (.getfield 24, 3) := by decide +kernel
theorem dX8_addTrail_97 : decode cX8_addTrail 97 = .ok (.aload_n 0, 1) := by decide +kernel
theorem dX8_addTrail_98 : decode cX8_addTrail 98 = .ok (.getfield 98, 3) := by decide +kernel
theorem dX8_addTrail_101 : decode cX8_addTrail 101 = .ok (.iload_n 3, 1) := by decide +kernel
theorem dX8_addTrail_102 : decode cX8_addTrail 102 = .ok (.iastore, 1) := by decide +kernel
theorem dX8_addTrail_103 : decode cX8_addTrail 103 = .ok (.aload_n 0, 1) := by decide +kernel
theorem dX8_addTrail_104 : decode cX8_addTrail 104 = .ok (.getfield 27, 3) := by decide +kernel
theorem dX8_addTrail_107 : decode cX8_addTrail 107 = .ok (.aload_n 0, 1) := by decide +kernel
theorem dX8_addTrail_108 : decode cX8_addTrail 108 = .ok (.getfield 98, 3) := by decide +kernel
theorem dX8_addTrail_111 : decode cX8_addTrail 111 = .ok (.iload 4, 2) := by decide +kernel
theorem dX8_addTrail_113 : decode cX8_addTrail 113 = .ok (.iastore, 1) := by decide +kernel
theorem dX8_addTrail_114 : decode cX8_addTrail 114 = .ok (.aload_n 0, 1) := by decide +kernel
theorem dX8_addTrail_115 : decode cX8_addTrail 115 = .ok (.dup, 1) := by decide +kernel
theorem dX8_addTrail_116 : decode cX8_addTrail 116 = .ok (.getfield 98, 3) := by decide +kernel
theorem dX8_addTrail_119 : decode cX8_addTrail 119 = .ok (.iconst 1, 1) := by decide +kernel
theorem dX8_addTrail_120 : decode cX8_addTrail 120 = .ok (.iadd, 1) := by decide +kernel
theorem dX8_addTrail_121 : decode cX8_addTrail 121 = .ok (.putfield 98, 3) := by decide +kernel
theorem dX8_addTrail_124 : decode cX8_addTrail 124 = .ok (.aload_n 0, 1) := by decide +kernel
theorem dX8_addTrail_125 : decode cX8_addTrail 125 = .ok (.aload_n 0, 1) := by decide +kernel
theorem dX8_addTrail_126 : decode cX8_addTrail 126 = .ok (.getfield 98, 3) := by decide +kernel
theorem dX8_addTrail_129 : decode cX8_addTrail 129 = .ok (.iconst 1, 1) := by decide +kernel
theorem dX8_addTrail_130 : decode cX8_addTrail 130 = .ok (.isub, 1) := by decide +kernel
theorem dX8_addTrail_131 : decode cX8_addTrail 131 = .ok (.invokevirtual 114, 3) := by decide +kernel
theorem dX8_addTrail_134 : decode cX8_addTrail 134 = .ok (.ireturn, 1) := by decide +kernel
theorem dX8_washOut_0 : decode cX8_washOut 0 = .ok (.aload_n 0, 1) := by decide +kernel
theorem dX8_washOut_1 : decode cX8_washOut 1 = .ok (.aload_n 0, 1) := by decide +kernel
theorem dX8_washOut_2 : decode cX8_washOut 2 = .ok (.iload_n 1, 1) := by decide +kernel
theorem dX8_washOut_3 : decode cX8_washOut 3 = .ok (.invokevirtual 121, 3) := by decide +kernel
theorem dX8_washOut_6 : decode cX8_washOut 6 = .ok (.ifCond .eq 7, 3) := by decide +kernel
theorem dX8_washOut_9 : decode cX8_washOut 9 = .ok (.iconst 0, 1) := by decide +kernel
theorem dX8_washOut_10 : decode cX8_washOut 10 = .ok (.goto 4, 3) := by decide +kernel
theorem dX8_washOut_13 : decode cX8_washOut 13 = .ok (.iconst 1, 1) := by decide +kernel
theorem dX8_washOut_14 : decode cX8_washOut 14 = .ok (.putfield 88, 3) := by decide +kernel
theorem dX8_washOut_17 : decode cX8_washOut 17 = .ok (.aload_n 0, 1) := by decide +kernel
theorem dX8_washOut_18 : decode cX8_washOut 18 = .ok (.getfield 88, 3) := by decide +kernel
theorem dX8_washOut_21 : decode cX8_washOut 21 = .ok (.ifCond .le 5, 3) := by decide +kernel
theorem dX8_washOut_24 : decode cX8_washOut 24 = .ok (.iconst 0, 1) := by decide +kernel
theorem dX8_washOut_25 : decode cX8_washOut 25 = .ok (.ireturn, 1) := by decide +kernel
theorem dX8_washOut_26 : decode cX8_washOut 26 = .ok (.aload_n 0, 1) := by decide +kernel
theorem dX8_washOut_27 : decode cX8_washOut 27 = .ok (.getfield 30, 3) := by decide +kernel
theorem dX8_washOut_30 : decode cX8_washOut 30 = .ok (.iload_n 1, 1) := by decide +kernel
theorem dX8_washOut_31 : decode cX8_washOut 31 = .ok (.baload, 1) := by decide +kernel
theorem dX8_washOut_32 : decode cX8_washOut 32 = .ok (.ifCond .ne 7, 3) := by decide +kernel
theorem dX8_washOut_35 : decode cX8_washOut 35 = .ok (.iconst 1, 1) := by decide +kernel
theorem dX8_washOut_36 : decode cX8_washOut 36 = .ok (.goto 4, 3) := by decide +kernel
theorem dX8_washOut_39 : decode cX8_washOut 39 = .ok (.iconst 0, 1) := by decide +kernel
theorem dX8_washOut_40 : decode cX8_washOut 40 = .ok (.istore_n 2, 1) := by decide +kernel
theorem dX8_washOut_41 : decode cX8_washOut 41 = .ok (.aload_n 0, 1) := by decide +kernel
theorem dX8_washOut_42 : decode cX8_washOut 42 = .ok (.getfield 30, 3) := by decide +kernel
theorem dX8_washOut_45 : decode cX8_washOut 45 = .ok (.iload_n 1, 1) := by decide +kernel
theorem dX8_washOut_46 : decode cX8_washOut 46 = .ok (.iconst 1, 1) := by decide +kernel
theorem dX8_washOut_47 : decode cX8_washOut 47 = .ok (.bastore, 1) := by decide +kernel
theorem dX8_washOut_48 : decode cX8_washOut 48 = .ok (.iload_n 2, 1) := by decide +kernel
theorem dX8_washOut_49 : decode cX8_washOut 49 = .ok (.ireturn, 1) := by decide +kernel
theorem dX8_isShut_0 : decode cX8_isShut 0 = .ok (.iload_n 2, 1) := by decide +kernel
theorem dX8_isShut_1 : decode cX8_isShut 1 = .ok (.ifCond .eq 12, 3) := by decide +kernel
theorem dX8_isShut_4 : decode cX8_isShut 4 = .ok (.aload_n 0, 1) := by decide +kernel
theorem dX8_isShut_5 : decode cX8_isShut 5 = .ok (.getfield 30, 3) := by decide +kernel
theorem dX8_isShut_8 : decode cX8_isShut 8 = .ok (.iload_n 1, 1) := by decide +kernel
theorem dX8_isShut_9 : decode cX8_isShut 9 = .ok (.baload, 1) := by decide +kernel
theorem dX8_isShut_10 : decode cX8_isShut 10 = .ok (.goto 9, 3) := by decide +kernel
theorem dX8_isShut_13 : decode cX8_isShut 13 = .ok (.aload_n 0, 1) := by decide +kernel
theorem dX8_isShut_14 : decode cX8_isShut 14 = .ok (.getfield 33, 3) := by decide +kernel
theorem dX8_isShut_17 : decode cX8_isShut 17 = .ok (.iload_n 1, 1) := by decide +kernel
theorem dX8_isShut_18 : decode cX8_isShut 18 = .ok (.baload, 1) := by decide +kernel
theorem dX8_isShut_19 : decode cX8_isShut 19 = .ok (.ireturn, 1) := by decide +kernel
theorem dX8_isGone_0 : decode cX8_isGone 0 = .ok (.aload_n 0, 1) := by decide +kernel
theorem dX8_isGone_1 : decode cX8_isGone 1 = .ok (.aload_n 0, 1) := by decide +kernel
theorem dX8_isGone_2 : decode cX8_isGone 2 = .ok (.iload_n 1, 1) := by decide +kernel
theorem dX8_isGone_3 : decode cX8_isGone 3 = .ok (.invokevirtual 121, 3) := by decide +kernel
theorem dX8_isGone_6 : decode cX8_isGone 6 = .ok (.ifCond .eq 7, 3) := by decide +kernel
theorem dX8_isGone_9 : decode cX8_isGone 9 = .ok (.iconst 0, 1) := by decide +kernel
theorem dX8_isGone_10 : decode cX8_isGone 10 = .ok (.goto 4, 3) := by decide +kernel
theorem dX8_isGone_13 : decode cX8_isGone 13 = .ok (.iconst 1, 1) := by decide +kernel
theorem dX8_isGone_14 : decode cX8_isGone 14 = .ok (.putfield 88, 3) := by decide +kernel
theorem dX8_isGone_17 : decode cX8_isGone 17 = .ok (.aload_n 0, 1) := by decide +kernel
theorem dX8_isGone_18 : decode cX8_isGone 18 = .ok (.getfield 88, 3) := by decide +kernel
theorem dX8_isGone_21 : decode cX8_isGone 21 = .ok (.ifCond .ne 16, 3) := by decide +kernel
theorem dX8_isGone_24 : decode cX8_isGone 24 = .ok (.aload_n 0, 1) := by decide +kernel
theorem dX8_isGone_25 : decode cX8_isGone 25 = .ok (.iload_n 1, 1) := by decide +kernel
theorem dX8_isGone_26 : decode cX8_isGone 26 = .ok (.iload_n 2, 1) := by decide +kernel
theorem dX8_isGone_27 : decode cX8_isGone 27 = .ok (.invokevirtual 124, 3) := by decide +kernel
theorem dX8_isGone_30 : decode cX8_isGone 30 = .ok (.ifCond .eq 7, 3) := by decide +kernel
theorem dX8_isGone_33 : decode cX8_isGone 33 = .ok (.iconst 1, 1) := by decide +kernel
theorem dX8_isGone_34 : decode cX8_isGone 34 = .ok (.goto 4, 3) := by decide +kernel
theorem dX8_isGone_37 : decode cX8_isGone 37 = .ok (.iconst 0, 1) := by decide +kernel
theorem dX8_isGone_38 : decode cX8_isGone 38 = .ok (.ireturn, 1) := by decide +kernel
theorem dX8_of_0 : decode cX8_of 0 = .ok (.aload_n 0, 1) := by decide +kernel
theorem dX8_of_1 : decode cX8_of 1 = .ok (.getfield 17, 3) := by decide +kernel
theorem dX8_of_4 : decode cX8_of 4 = .ok (.iload_n 1, 1) := by decide +kernel
theorem dX8_of_5 : decode cX8_of 5 = .ok (.iaload, 1) := by decide +kernel
theorem dX8_of_6 : decode cX8_of 6 = .ok (.iload_n 2, 1) := by decide +kernel
theorem dX8_of_7 : decode cX8_of 7 = .ok (.if_icmp .ne 12, 3) := by decide +kernel
theorem dX8_of_10 : decode cX8_of 10 = .ok (.aload_n 0, 1) := by decide +kernel
theorem dX8_of_11 : decode cX8_of 11 = .ok (.getfield 24, 3) := by decide +kernel
theorem dX8_of_14 : decode cX8_of 14 = .ok (.iload_n 1, 1) := by decide +kernel
theorem dX8_of_15 : decode cX8_of 15 = .ok (.iaload, 1) := by decide +kernel
theorem dX8_of_16 : decode cX8_of 16 = .ok (.goto 9, 3) := by decide +kernel
theorem dX8_of_19 : decode cX8_of 19 = .ok (.aload_n 0, 1) := by decide +kernel
theorem dX8_of_20 : decode cX8_of 20 = .ok (.getfield 27, 3) := by decide +kernel
theorem dX8_of_23 : decode cX8_of 23 = .ok (.iload_n 1, 1) := by decide +kernel
theorem dX8_of_24 : decode cX8_of 24 = .ok (.iaload, 1) := by decide +kernel
theorem dX8_of_25 : decode cX8_of 25 = .ok (.ireturn, 1) := by decide +kernel
theorem dX8_other_0 : decode cX8_other 0 = .ok (.aload_n 0, 1) := by decide +kernel
theorem dX8_other_1 : decode cX8_other 1 = .ok (.getfield 17, 3) := by decide +kernel
theorem dX8_other_4 : decode cX8_other 4 = .ok (.iload_n 1, 1) := by decide +kernel
theorem dX8_other_5 : decode cX8_other 5 = .ok (.iaload, 1) := by decide +kernel
theorem dX8_other_6 : decode cX8_other 6 = .ok (.iload_n 2, 1) := by decide +kernel
theorem dX8_other_7 : decode cX8_other 7 = .ok (.if_icmp .ne 12, 3) := by decide +kernel
theorem dX8_other_10 : decode cX8_other 10 = .ok (.aload_n 0, 1) := by decide +kernel
theorem dX8_other_11 : decode cX8_other 11 = .ok (.getfield 21, 3) := by decide +kernel
theorem dX8_other_14 : decode cX8_other 14 = .ok (.iload_n 1, 1) := by decide +kernel
theorem dX8_other_15 : decode cX8_other 15 = .ok (.iaload, 1) := by decide +kernel
theorem dX8_other_16 : decode cX8_other 16 = .ok (.goto 9, 3) := by decide +kernel
theorem dX8_other_19 : decode cX8_other 19 = .ok (.aload_n 0, 1) := by decide +kernel
theorem dX8_other_20 : decode cX8_other 20 = .ok (.getfield 17, 3) := by decide +kernel
theorem dX8_other_23 : decode cX8_other 23 = .ok (.iload_n 1, 1) := by decide +kernel
theorem dX8_other_24 : decode cX8_other 24 = .ok (.iaload, 1) := by decide +kernel
theorem dX8_other_25 : decode cX8_other 25 = .ok (.ireturn, 1) := by decide +kernel
theorem dX8_reckons_0 : decode cX8_reckons 0 = .ok (.iconst 0, 1) := by decide +kernel
theorem dX8_reckons_1 : decode cX8_reckons 1 = .ok (.istore_n 3, 1) := by decide +kernel
theorem dX8_reckons_2 : decode cX8_reckons 2 = .ok (.iload_n 3, 1) := by decide +kernel
theorem dX8_reckons_3 : decode cX8_reckons 3 = .ok (.aload_n 0, 1) := by decide +kernel
theorem dX8_reckons_4 : decode cX8_reckons 4 = .ok (.getfield 91, 3) := by decide +kernel
theorem dX8_reckons_7 : decode cX8_reckons 7 = .ok (.if_icmp .ge 26, 3) := by decide +kernel
theorem dX8_reckons_10 : decode cX8_reckons 10 = .ok (.aload_n 0, 1) := by decide +kernel
theorem dX8_reckons_11 : decode cX8_reckons 11 = .ok (.getfield 85, 3) := by decide +kernel
theorem dX8_reckons_14 : decode cX8_reckons 14 = .ok (.iload_n 3, 1) := by decide +kernel
theorem dX8_reckons_15 : decode cX8_reckons 15 = .ok (.iload_n 3, 1) := by decide +kernel
theorem dX8_reckons_16 : decode cX8_reckons 16 = .ok (.iload_n 1, 1) := by decide +kernel
theorem dX8_reckons_17 : decode cX8_reckons 17 = .ok (.if_icmp .ne 7, 3) := by decide +kernel
theorem dX8_reckons_20 : decode cX8_reckons 20 = .ok (.iconst 0, 1) := by decide +kernel
theorem dX8_reckons_21 : decode cX8_reckons 21 = .ok (.goto 5, 3) := by decide +kernel
theorem dX8_reckons_24 : decode cX8_reckons 24 = .ok (.ldc 128, 2) := by decide +kernel
theorem dX8_reckons_26 : decode cX8_reckons 26 = .ok (.iastore, 1) := by decide +kernel
theorem dX8_reckons_27 : decode cX8_reckons 27 = .ok (.iinc 3 1, 3) := by decide +kernel
theorem dX8_reckons_30 : decode cX8_reckons 30 = .ok (.goto (-28), 3) := by decide +kernel
theorem dX8_reckons_33 : decode cX8_reckons 33 = .ok (.iconst 0, 1) := by decide +kernel
theorem dX8_reckons_34 : decode cX8_reckons 34 = .ok (.istore_n 3, 1) := by decide +kernel
theorem dX8_reckons_35 : decode cX8_reckons 35 = .ok (.iload_n 3, 1) := by decide +kernel
theorem dX8_reckons_36 : decode cX8_reckons 36 = .ok (.aload_n 0, 1) := by decide +kernel
theorem dX8_reckons_37 : decode cX8_reckons 37 = .ok (.getfield 91, 3) := by decide +kernel
theorem dX8_reckons_40 : decode cX8_reckons 40 = .ok (.if_icmp .ge 136, 3) := by decide +kernel
theorem dX8_reckons_43 : decode cX8_reckons 43 = .ok (.iconst 0, 1) := by decide +kernel
theorem dX8_reckons_44 : decode cX8_reckons 44 = .ok (.istore 4, 2) := by decide +kernel
theorem dX8_reckons_46 : decode cX8_reckons 46 = .ok (.iload 4, 2) := by decide +kernel
theorem dX8_reckons_48 : decode cX8_reckons 48 = .ok (.aload_n 0, 1) := by decide +kernel
theorem dX8_reckons_49 : decode cX8_reckons 49 = .ok (.getfield 98, 3) := by decide +kernel
theorem dX8_reckons_52 : decode cX8_reckons 52 = .ok (.if_icmp .ge 118, 3) := by decide +kernel
theorem dX8_reckons_55 : decode cX8_reckons 55 = .ok (.aload_n 0, 1) := by decide +kernel
theorem dX8_reckons_56 : decode cX8_reckons 56 = .ok (.iload 4, 2) := by decide +kernel
theorem dX8_reckons_58 : decode cX8_reckons 58 = .ok (.iload_n 2, 1) := by decide +kernel
theorem dX8_reckons_59 : decode cX8_reckons 59 = .ok (.invokevirtual 124, 3) := by decide +kernel
theorem dX8_reckons_62 : decode cX8_reckons 62 = .ok (.ifCond .eq 6, 3) := by decide +kernel
theorem dX8_reckons_65 : decode cX8_reckons 65 = .ok (.goto 99, 3) := by decide +kernel
theorem dX8_reckons_68 : decode cX8_reckons 68 = .ok (.aload_n 0, 1) := by decide +kernel
theorem dX8_reckons_69 : decode cX8_reckons 69 = .ok (.getfield 85, 3) := by decide +kernel
theorem dX8_reckons_72 : decode cX8_reckons 72 = .ok (.aload_n 0, 1) := by decide +kernel
theorem dX8_reckons_73 : decode cX8_reckons 73 = .ok (.getfield 17, 3) := by decide +kernel
theorem dX8_reckons_76 : decode cX8_reckons 76 = .ok (.iload 4, 2) := by decide +kernel
theorem dX8_reckons_78 : decode cX8_reckons 78 = .ok (.iaload, 1) := by decide +kernel
theorem dX8_reckons_79 : decode cX8_reckons 79 = .ok (.aload_n 0, 1) := by decide +kernel
theorem dX8_reckons_80 : decode cX8_reckons 80 = .ok (.aload_n 0, 1) := by decide +kernel
theorem dX8_reckons_81 : decode cX8_reckons 81 = .ok (.getfield 85, 3) := by decide +kernel
theorem dX8_reckons_84 : decode cX8_reckons 84 = .ok (.aload_n 0, 1) := by decide +kernel
theorem dX8_reckons_85 : decode cX8_reckons 85 = .ok (.getfield 17, 3) := by decide +kernel
theorem dX8_reckons_88 : decode cX8_reckons 88 = .ok (.iload 4, 2) := by decide +kernel
theorem dX8_reckons_90 : decode cX8_reckons 90 = .ok (.iaload, 1) := by decide +kernel
theorem dX8_reckons_91 : decode cX8_reckons 91 = .ok (.iaload, 1) := by decide +kernel
theorem dX8_reckons_92 : decode cX8_reckons 92 = .ok (.aload_n 0, 1) := by decide +kernel
theorem dX8_reckons_93 : decode cX8_reckons 93 = .ok (.getfield 24, 3) := by decide +kernel
theorem dX8_reckons_96 : decode cX8_reckons 96 = .ok (.iload 4, 2) := by decide +kernel
theorem dX8_reckons_98 : decode cX8_reckons 98 = .ok (.iaload, 1) := by decide +kernel
theorem dX8_reckons_99 : decode cX8_reckons 99 = .ok (.aload_n 0, 1) := by decide +kernel
theorem dX8_reckons_100 : decode cX8_reckons 100 = .ok (.getfield 85, 3) := by decide +kernel
theorem dX8_reckons_103 : decode cX8_reckons 103 = .ok (.aload_n 0, 1) := by decide +kernel
theorem dX8_reckons_104 : decode cX8_reckons 104 = .ok (.getfield 21, 3) := by decide +kernel
theorem dX8_reckons_107 : decode cX8_reckons 107 = .ok (.iload 4, 2) := by decide +kernel
theorem dX8_reckons_109 : decode cX8_reckons 109 = .ok (.iaload, 1) := by decide +kernel
theorem dX8_reckons_110 : decode cX8_reckons 110 = .ok (.iaload, 1) := by decide +kernel
theorem dX8_reckons_111 : decode cX8_reckons 111 = .ok (.iadd, 1) := by decide +kernel
theorem dX8_reckons_112 : decode cX8_reckons 112 = .ok (.invokevirtual 129, 3) := by decide +kernel
theorem dX8_reckons_115 : decode cX8_reckons 115 = .ok (.iastore, 1) := by decide +kernel
theorem dX8_reckons_116 : decode cX8_reckons 116 = .ok (.aload_n 0, 1) := by decide +kernel
theorem dX8_reckons_117 : decode cX8_reckons 117 = .ok (.getfield 85, 3) := by decide +kernel
theorem dX8_reckons_120 : decode cX8_reckons 120 = .ok (.aload_n 0, 1) := by decide +kernel
theorem dX8_reckons_121 : decode cX8_reckons 121 = .ok (.getfield 21, 3) := by decide +kernel
theorem dX8_reckons_124 : decode cX8_reckons 124 = .ok (.iload 4, 2) := by decide +kernel
theorem dX8_reckons_126 : decode cX8_reckons 126 = .ok (.iaload, 1) := by decide +kernel
theorem dX8_reckons_127 : decode cX8_reckons 127 = .ok (.aload_n 0, 1) := by decide +kernel
theorem dX8_reckons_128 : decode cX8_reckons 128 = .ok (.aload_n 0, 1) := by decide +kernel
theorem dX8_reckons_129 : decode cX8_reckons 129 = .ok (.getfield 85, 3) := by decide +kernel
theorem dX8_reckons_132 : decode cX8_reckons 132 = .ok (.aload_n 0, 1) := by decide +kernel
theorem dX8_reckons_133 : decode cX8_reckons 133 = .ok (.getfield 21, 3) := by decide +kernel
theorem dX8_reckons_136 : decode cX8_reckons 136 = .ok (.iload 4, 2) := by decide +kernel
theorem dX8_reckons_138 : decode cX8_reckons 138 = .ok (.iaload, 1) := by decide +kernel
theorem dX8_reckons_139 : decode cX8_reckons 139 = .ok (.iaload, 1) := by decide +kernel
theorem dX8_reckons_140 : decode cX8_reckons 140 = .ok (.aload_n 0, 1) := by decide +kernel
theorem dX8_reckons_141 : decode cX8_reckons 141 = .ok (.getfield 27, 3) := by decide +kernel
theorem dX8_reckons_144 : decode cX8_reckons 144 = .ok (.iload 4, 2) := by decide +kernel
theorem dX8_reckons_146 : decode cX8_reckons 146 = .ok (.iaload, 1) := by decide +kernel
theorem dX8_reckons_147 : decode cX8_reckons 147 = .ok (.aload_n 0, 1) := by decide +kernel
theorem dX8_reckons_148 : decode cX8_reckons 148 = .ok (.getfield 85, 3) := by decide +kernel
theorem dX8_reckons_151 : decode cX8_reckons 151 = .ok (.aload_n 0, 1) := by decide +kernel
theorem dX8_reckons_152 : decode cX8_reckons 152 = .ok (.getfield 17, 3) := by decide +kernel
theorem dX8_reckons_155 : decode cX8_reckons 155 = .ok (.iload 4, 2) := by decide +kernel
theorem dX8_reckons_157 : decode cX8_reckons 157 = .ok (.iaload, 1) := by decide +kernel
theorem dX8_reckons_158 : decode cX8_reckons 158 = .ok (.iaload, 1) := by decide +kernel
theorem dX8_reckons_159 : decode cX8_reckons 159 = .ok (.iadd, 1) := by decide +kernel
theorem dX8_reckons_160 : decode cX8_reckons 160 = .ok (.invokevirtual 129, 3) := by decide +kernel
theorem dX8_reckons_163 : decode cX8_reckons 163 = .ok (.iastore, 1) := by decide +kernel
theorem dX8_reckons_164 : decode cX8_reckons 164 = .ok (.iinc 4 1, 3) := by decide +kernel
theorem dX8_reckons_167 : decode cX8_reckons 167 = .ok (.goto (-121), 3) := by decide +kernel
theorem dX8_reckons_170 : decode cX8_reckons 170 = .ok (.iinc 3 1, 3) := by decide +kernel
theorem dX8_reckons_173 : decode cX8_reckons 173 = .ok (.goto (-138), 3) := by decide +kernel
theorem dX8_reckons_176 : decode cX8_reckons 176 = .ok (.return_, 1) := by decide +kernel
theorem dX8_way_0 : decode cX8_way 0 = .ok (.aload_n 0, 1) := by decide +kernel
theorem dX8_way_1 : decode cX8_way 1 = .ok (.iload_n 2, 1) := by decide +kernel
theorem dX8_way_2 : decode cX8_way 2 = .ok (.iload_n 3, 1) := by decide +kernel
theorem dX8_way_3 : decode cX8_way 3 = .ok (.invokevirtual 133, 3) := by decide +kernel
theorem dX8_way_6 : decode cX8_way 6 = .ok (.aload_n 0, 1) := by decide +kernel
theorem dX8_way_7 : decode cX8_way 7 = .ok (.getfield 85, 3) := by decide +kernel
theorem dX8_way_10 : decode cX8_way 10 = .ok (.iload_n 1, 1) := by decide +kernel
theorem dX8_way_11 : decode cX8_way 11 = .ok (.iaload, 1) := by decide +kernel
theorem dX8_way_12 : decode cX8_way 12 = .ok (.ireturn, 1) := by decide +kernel
theorem dX8_next_0 : decode cX8_next 0 = .ok (.aload_n 0, 1) := by decide +kernel
theorem dX8_next_1 : decode cX8_next 1 = .ok (.iload_n 2, 1) := by decide +kernel
theorem dX8_next_2 : decode cX8_next 2 = .ok (.iconst 0, 1) := by decide +kernel
theorem dX8_next_3 : decode cX8_next 3 = .ok (.invokevirtual 133, 3) := by decide +kernel
theorem dX8_next_6 : decode cX8_next 6 = .ok (.iload_n 1, 1) := by decide +kernel
theorem dX8_next_7 : decode cX8_next 7 = .ok (.iload_n 2, 1) := by decide +kernel
theorem dX8_next_8 : decode cX8_next 8 = .ok (.if_icmp .eq 14, 3) := by decide +kernel
theorem dX8_next_11 : decode cX8_next 11 = .ok (.aload_n 0, 1) := by decide +kernel
theorem dX8_next_12 : decode cX8_next 12 = .ok (.getfield 85, 3) := by decide +kernel
theorem dX8_next_15 : decode cX8_next 15 = .ok (.iload_n 1, 1) := by decide +kernel
theorem dX8_next_16 : decode cX8_next 16 = .ok (.iaload, 1) := by decide +kernel
theorem dX8_next_17 : decode cX8_next 17 = .ok (.ldc 128, 2) := by decide +kernel
theorem dX8_next_19 : decode cX8_next 19 = .ok (.if_icmp .lt 5, 3) := by decide +kernel
theorem dX8_next_22 : decode cX8_next 22 = .ok (.iconst (-1), 1) := by decide +kernel
theorem dX8_next_23 : decode cX8_next 23 = .ok (.ireturn, 1) := by decide +kernel
theorem dX8_next_24 : decode cX8_next 24 = .ok (.iconst 0, 1) := by decide +kernel
theorem dX8_next_25 : decode cX8_next 25 = .ok (.istore_n 3, 1) := by decide +kernel
theorem dX8_next_26 : decode cX8_next 26 = .ok (.iload_n 3, 1) := by decide +kernel
theorem dX8_next_27 : decode cX8_next 27 = .ok (.aload_n 0, 1) := by decide +kernel
theorem dX8_next_28 : decode cX8_next 28 = .ok (.getfield 98, 3) := by decide +kernel
theorem dX8_next_31 : decode cX8_next 31 = .ok (.if_icmp .ge 70, 3) := by decide +kernel
theorem dX8_next_34 : decode cX8_next 34 = .ok (.aload_n 0, 1) := by decide +kernel
theorem dX8_next_35 : decode cX8_next 35 = .ok (.getfield 33, 3) := by decide +kernel
theorem dX8_next_38 : decode cX8_next 38 = .ok (.iload_n 3, 1) := by decide +kernel
theorem dX8_next_39 : decode cX8_next 39 = .ok (.baload, 1) := by decide +kernel
theorem dX8_next_40 : decode cX8_next 40 = .ok (.ifCond .ne 55, 3) := by decide +kernel
theorem dX8_next_43 : decode cX8_next 43 = .ok (.aload_n 0, 1) := by decide +kernel
theorem dX8_next_44 : decode cX8_next 44 = .ok (.getfield 17, 3) := by decide +kernel
theorem dX8_next_47 : decode cX8_next 47 = .ok (.iload_n 3, 1) := by decide +kernel
theorem dX8_next_48 : decode cX8_next 48 = .ok (.iaload, 1) := by decide +kernel
theorem dX8_next_49 : decode cX8_next 49 = .ok (.iload_n 1, 1) := by decide +kernel
theorem dX8_next_50 : decode cX8_next 50 = .ok (.if_icmp .eq 16, 3) := by decide +kernel
theorem dX8_next_53 : decode cX8_next 53 = .ok (.aload_n 0, 1) := by decide +kernel
theorem dX8_next_54 : decode cX8_next 54 = .ok (.getfield 21, 3) := by decide +kernel
theorem dX8_next_57 : decode cX8_next 57 = .ok (.iload_n 3, 1) := by decide +kernel
theorem dX8_next_58 : decode cX8_next 58 = .ok (.iaload, 1) := by decide +kernel
theorem dX8_next_59 : decode cX8_next 59 = .ok (.iload_n 1, 1) := by decide +kernel
theorem dX8_next_60 : decode cX8_next 60 = .ok (.if_icmp .eq 6, 3) := by decide +kernel
theorem dX8_next_63 : decode cX8_next 63 = .ok (.goto 32, 3) := by decide +kernel
theorem dX8_next_66 : decode cX8_next 66 = .ok (.aload_n 0, 1) := by decide +kernel
theorem dX8_next_67 : decode cX8_next 67 = .ok (.iload_n 3, 1) := by decide +kernel
theorem dX8_next_68 : decode cX8_next 68 = .ok (.iload_n 1, 1) := by decide +kernel
theorem dX8_next_69 : decode cX8_next 69 = .ok (.invokevirtual 137, 3) := by decide +kernel
theorem dX8_next_72 : decode cX8_next 72 = .ok (.aload_n 0, 1) := by decide +kernel
theorem dX8_next_73 : decode cX8_next 73 = .ok (.getfield 85, 3) := by decide +kernel
theorem dX8_next_76 : decode cX8_next 76 = .ok (.aload_n 0, 1) := by decide +kernel
theorem dX8_next_77 : decode cX8_next 77 = .ok (.iload_n 3, 1) := by decide +kernel
theorem dX8_next_78 : decode cX8_next 78 = .ok (.iload_n 1, 1) := by decide +kernel
theorem dX8_next_79 : decode cX8_next 79 = .ok (.invokevirtual 140, 3) := by decide +kernel
theorem dX8_next_82 : decode cX8_next 82 = .ok (.iaload, 1) := by decide +kernel
theorem dX8_next_83 : decode cX8_next 83 = .ok (.iadd, 1) := by decide +kernel
theorem dX8_next_84 : decode cX8_next 84 = .ok (.aload_n 0, 1) := by decide +kernel
theorem dX8_next_85 : decode cX8_next 85 = .ok (.getfield 85, 3) := by decide +kernel
theorem dX8_next_88 : decode cX8_next 88 = .ok (.iload_n 1, 1) := by decide +kernel
theorem dX8_next_89 : decode cX8_next 89 = .ok (.iaload, 1) := by decide +kernel
theorem dX8_next_90 : decode cX8_next 90 = .ok (.if_icmp .ne 5, 3) := by decide +kernel
theorem dX8_next_93 : decode cX8_next 93 = .ok (.iload_n 3, 1) := by decide +kernel
theorem dX8_next_94 : decode cX8_next 94 = .ok (.ireturn, 1) := by decide +kernel
theorem dX8_next_95 : decode cX8_next 95 = .ok (.iinc 3 1, 3) := by decide +kernel
theorem dX8_next_98 : decode cX8_next 98 = .ok (.goto (-72), 3) := by decide +kernel
theorem dX8_next_101 : decode cX8_next 101 = .ok (.iconst (-1), 1) := by decide +kernel
theorem dX8_next_102 : decode cX8_next 102 = .ok (.ireturn, 1) := by decide +kernel
theorem dX8_minutes_0 : decode cX8_minutes 0 = .ok (.aload_n 0, 1) := by decide +kernel
theorem dX8_minutes_1 : decode cX8_minutes 1 = .ok (.iload_n 1, 1) := by decide +kernel
theorem dX8_minutes_2 : decode cX8_minutes 2 = .ok (.invokevirtual 117, 3) := by decide +kernel
theorem dX8_minutes_5 : decode cX8_minutes 5 = .ok (.ifCond .eq 11, 3) := by decide +kernel
theorem dX8_minutes_8 : decode cX8_minutes 8 = .ok (.aload_n 0, 1) := by decide +kernel
theorem dX8_minutes_9 : decode cX8_minutes 9 = .ok (.iload_n 2, 1) := by decide +kernel
theorem dX8_minutes_10 : decode cX8_minutes 10 = .ok (.invokevirtual 117, 3) := by decide +kernel
theorem dX8_minutes_13 : decode cX8_minutes 13 = .ok (.ifCond .ne 9, 3) := by decide +kernel
theorem dX8_minutes_16 : decode cX8_minutes 16 = .ok (.aload_n 0, 1) := by decide +kernel
theorem dX8_minutes_17 : decode cX8_minutes 17 = .ok (.iconst 1, 1) := by decide +kernel
theorem dX8_minutes_18 : decode cX8_minutes 18 = .ok (.invokevirtual 110, 3) := by decide +kernel
theorem dX8_minutes_21 : decode cX8_minutes 21 = .ok (.ireturn, 1) := by decide +kernel
theorem dX8_minutes_22 : decode cX8_minutes 22 = .ok (.aload_n 0, 1) := by decide +kernel
theorem dX8_minutes_23 : decode cX8_minutes 23 = .ok (.iload_n 1, 1) := by decide +kernel
theorem dX8_minutes_24 : decode cX8_minutes 24 = .ok (.iload_n 2, 1) := by decide +kernel
theorem dX8_minutes_25 : decode cX8_minutes 25 = .ok (.iload_n 3, 1) := by decide +kernel
theorem dX8_minutes_26 : decode cX8_minutes 26 = .ok (.invokevirtual 143, 3) := by decide +kernel
theorem dX8_minutes_29 : decode cX8_minutes 29 = .ok (.istore 4, 2) := by decide +kernel
theorem dX8_minutes_31 : decode cX8_minutes 31 = .ok (.iload 4, 2) := by decide +kernel
theorem dX8_minutes_33 : decode cX8_minutes 33 = .ok (.ldc 128, 2) := by decide +kernel
theorem dX8_minutes_35 : decode cX8_minutes 35 = .ok (.if_icmp .lt 11, 3) := by decide +kernel
theorem dX8_minutes_38 : decode cX8_minutes 38 = .ok (.aload_n 0, 1) := by decide +kernel
theorem dX8_minutes_39 : decode cX8_minutes 39 = .ok (.iconst 2, 1) := by decide +kernel
theorem dX8_minutes_40 : decode cX8_minutes 40 = .ok (.invokevirtual 110, 3) := by decide +kernel
theorem dX8_minutes_43 : decode cX8_minutes 43 = .ok (.goto 9, 3) := by decide +kernel
theorem dX8_minutes_46 : decode cX8_minutes 46 = .ok (.aload_n 0, 1) := by decide +kernel
theorem dX8_minutes_47 : decode cX8_minutes 47 = .ok (.iload 4, 2) := by decide +kernel
theorem dX8_minutes_49 : decode cX8_minutes 49 = .ok (.invokevirtual 114, 3) := by decide +kernel
theorem dX8_minutes_52 : decode cX8_minutes 52 = .ok (.ireturn, 1) := by decide +kernel
theorem dX8_firstTrail_0 : decode cX8_firstTrail 0 = .ok (.aload_n 0, 1) := by decide +kernel
theorem dX8_firstTrail_1 : decode cX8_firstTrail 1 = .ok (.iload_n 1, 1) := by decide +kernel
theorem dX8_firstTrail_2 : decode cX8_firstTrail 2 = .ok (.invokevirtual 117, 3) := by decide +kernel
theorem dX8_firstTrail_5 : decode cX8_firstTrail 5 = .ok (.ifCond .eq 11, 3) := by decide +kernel
theorem dX8_firstTrail_8 : decode cX8_firstTrail 8 = .ok (.aload_n 0, 1) := by decide +kernel
theorem dX8_firstTrail_9 : decode cX8_firstTrail 9 = .ok (.iload_n 2, 1) := by decide +kernel
theorem dX8_firstTrail_10 : decode cX8_firstTrail 10 = .ok (.invokevirtual 117, 3) := by decide +kernel
theorem dX8_firstTrail_13 : decode cX8_firstTrail 13 = .ok (.ifCond .ne 9, 3) := by decide +kernel
theorem dX8_firstTrail_16 : decode cX8_firstTrail 16 = .ok (.aload_n 0, 1) := by decide +kernel
theorem dX8_firstTrail_17 : decode cX8_firstTrail 17 = .ok (.iconst 1, 1) := by decide +kernel
theorem dX8_firstTrail_18 : decode cX8_firstTrail 18 = .ok (.invokevirtual 110, 3) := by decide +kernel
theorem dX8_firstTrail_21 : decode cX8_firstTrail 21 = .ok (.ireturn, 1) := by decide +kernel
theorem dX8_firstTrail_22 : decode cX8_firstTrail 22 = .ok (.aload_n 0, 1) := by decide +kernel
theorem dX8_firstTrail_23 : decode cX8_firstTrail 23 = .ok (.iload_n 1, 1) := by decide +kernel
theorem dX8_firstTrail_24 : decode cX8_firstTrail 24 = .ok (.iload_n 2, 1) := by decide +kernel
theorem dX8_firstTrail_25 : decode cX8_firstTrail 25 = .ok (.invokevirtual 147, 3) := by decide +kernel
theorem dX8_firstTrail_28 : decode cX8_firstTrail 28 = .ok (.istore_n 3, 1) := by decide +kernel
theorem dX8_firstTrail_29 : decode cX8_firstTrail 29 = .ok (.iload_n 3, 1) := by decide +kernel
theorem dX8_firstTrail_30 : decode cX8_firstTrail 30 = .ok (.iconst (-1), 1) := by decide +kernel
theorem dX8_firstTrail_31 : decode cX8_firstTrail 31 = .ok (.if_icmp .ne 11, 3) := by decide +kernel
theorem dX8_firstTrail_34 : decode cX8_firstTrail 34 = .ok (.aload_n 0, 1) := by decide +kernel
theorem dX8_firstTrail_35 : decode cX8_firstTrail 35 = .ok (.iconst 2, 1) := by decide +kernel
theorem dX8_firstTrail_36 : decode cX8_firstTrail 36 = .ok (.invokevirtual 110, 3) := by decide +kernel
theorem dX8_firstTrail_39 : decode cX8_firstTrail 39 = .ok (.goto 8, 3) := by decide +kernel
theorem dX8_firstTrail_42 : decode cX8_firstTrail 42 = .ok (.aload_n 0, 1) := by decide +kernel
theorem dX8_firstTrail_43 : decode cX8_firstTrail 43 = .ok (.iload_n 3, 1) := by decide +kernel
theorem dX8_firstTrail_44 : decode cX8_firstTrail 44 = .ok (.invokevirtual 114, 3) := by decide +kernel
theorem dX8_firstTrail_47 : decode cX8_firstTrail 47 = .ok (.ireturn, 1) := by decide +kernel
theorem dX8_addWood_0 : decode cX8_addWood 0 = .ok (.aload_n 0, 1) := by decide +kernel
theorem dX8_addWood_1 : decode cX8_addWood 1 = .ok (.iload_n 1, 1) := by decide +kernel
theorem dX8_addWood_2 : decode cX8_addWood 2 = .ok (.iconst 1, 1) := by decide +kernel
theorem dX8_addWood_3 : decode cX8_addWood 3 = .ok (.bipush 99, 2) := by decide +kernel
theorem dX8_addWood_5 : decode cX8_addWood 5 = .ok (.invokevirtual 94, 3) := by decide +kernel
theorem dX8_addWood_8 : decode cX8_addWood 8 = .ok (.ifCond .ne 9, 3) := by decide +kernel
theorem dX8_addWood_11 : decode cX8_addWood 11 = .ok (.aload_n 0, 1) := by decide +kernel
theorem dX8_addWood_12 : decode cX8_addWood 12 = .ok (.iconst 1, 1) := by decide +kernel
theorem dX8_addWood_13 : decode cX8_addWood 13 = .ok (.invokevirtual 110, 3) := by decide +kernel
theorem dX8_addWood_16 : decode cX8_addWood 16 = .ok (.ireturn, 1) := by decide +kernel
theorem dX8_addWood_17 : decode cX8_addWood 17 = .ok (.aload_n 0, 1) := by decide +kernel
theorem dX8_addWood_18 : decode cX8_addWood 18 = .ok (.dup, 1) := by decide +kernel
theorem dX8_addWood_19 : decode cX8_addWood 19 = .ok (.getfield 7, 3) := by decide +kernel
theorem dX8_addWood_22 : decode cX8_addWood 22 = .ok (.iload_n 1, 1) := by decide +kernel
theorem dX8_addWood_23 : decode cX8_addWood 23 = .ok (.iadd, 1) := by decide +kernel
theorem dX8_addWood_24 : decode cX8_addWood 24 = .ok (.putfield 7, 3) := by decide +kernel
theorem dX8_addWood_27 : decode cX8_addWood 27 = .ok (.aload_n 0, 1) := by decide +kernel
theorem dX8_addWood_28 : decode cX8_addWood 28 = .ok (.aload_n 0, 1) := by decide +kernel
theorem dX8_addWood_29 : decode cX8_addWood 29 = .ok (.getfield 7, 3) := by decide +kernel
theorem dX8_addWood_32 : decode cX8_addWood 32 = .ok (.invokevirtual 114, 3) := by decide +kernel
theorem dX8_addWood_35 : decode cX8_addWood 35 = .ok (.ireturn, 1) := by decide +kernel
theorem dX8_canBeCut_0 : decode cX8_canBeCut 0 = .ok (.aload_n 0, 1) := by decide +kernel
theorem dX8_canBeCut_1 : decode cX8_canBeCut 1 = .ok (.iload_n 1, 1) := by decide +kernel
theorem dX8_canBeCut_2 : decode cX8_canBeCut 2 = .ok (.iload_n 2, 1) := by decide +kernel
theorem dX8_canBeCut_3 : decode cX8_canBeCut 3 = .ok (.iconst 0, 1) := by decide +kernel
theorem dX8_canBeCut_4 : decode cX8_canBeCut 4 = .ok (.invokevirtual 143, 3) := by decide +kernel
theorem dX8_canBeCut_7 : decode cX8_canBeCut 7 = .ok (.sipush 300, 3) := by decide +kernel
theorem dX8_canBeCut_10 : decode cX8_canBeCut 10 = .ok (.if_icmp .gt 7, 3) := by decide +kernel
theorem dX8_canBeCut_13 : decode cX8_canBeCut 13 = .ok (.iconst 1, 1) := by decide +kernel
theorem dX8_canBeCut_14 : decode cX8_canBeCut 14 = .ok (.goto 4, 3) := by decide +kernel
theorem dX8_canBeCut_17 : decode cX8_canBeCut 17 = .ok (.iconst 0, 1) := by decide +kernel
theorem dX8_canBeCut_18 : decode cX8_canBeCut 18 = .ok (.ireturn, 1) := by decide +kernel
theorem dX8_cuts_0 : decode cX8_cuts 0 = .ok (.aload_n 0, 1) := by decide +kernel
theorem dX8_cuts_1 : decode cX8_cuts 1 = .ok (.getfield 36, 3) := by decide +kernel
theorem dX8_cuts_4 : decode cX8_cuts 4 = .ok (.iload_n 1, 1) := by decide +kernel
theorem dX8_cuts_5 : decode cX8_cuts 5 = .ok (.iload_n 2, 1) := by decide +kernel
theorem dX8_cuts_6 : decode cX8_cuts 6 = .ok (.iastore, 1) := by decide +kernel
theorem dX8_cuts_7 : decode cX8_cuts 7 = .ok (.aload_n 0, 1) := by decide +kernel
theorem dX8_cuts_8 : decode cX8_cuts 8 = .ok (.getfield 39, 3) := by decide +kernel
theorem dX8_cuts_11 : decode cX8_cuts 11 = .ok (.iload_n 1, 1) := by decide +kernel
theorem dX8_cuts_12 : decode cX8_cuts 12 = .ok (.iload_n 3, 1) := by decide +kernel
theorem dX8_cuts_13 : decode cX8_cuts 13 = .ok (.iastore, 1) := by decide +kernel
theorem dX8_cuts_14 : decode cX8_cuts 14 = .ok (.aload_n 0, 1) := by decide +kernel
theorem dX8_cuts_15 : decode cX8_cuts 15 = .ok (.getfield 45, 3) := by decide +kernel
theorem dX8_cuts_18 : decode cX8_cuts 18 = .ok (.iload_n 1, 1) := by decide +kernel
theorem dX8_cuts_19 : decode cX8_cuts 19 = .ok (.aload_n 0, 1) := by decide +kernel
theorem dX8_cuts_20 : decode cX8_cuts 20 = .ok (.iload_n 2, 1) := by decide +kernel
theorem dX8_cuts_21 : decode cX8_cuts 21 = .ok (.iload_n 3, 1) := by decide +kernel
theorem dX8_cuts_22 : decode cX8_cuts 22 = .ok (.iconst 0, 1) := by decide +kernel
theorem dX8_cuts_23 : decode cX8_cuts 23 = .ok (.invokevirtual 143, 3) := by decide +kernel
theorem dX8_cuts_26 : decode cX8_cuts 26 = .ok (.iconst 4, 1) := by decide +kernel
theorem dX8_cuts_27 : decode cX8_cuts 27 = .ok (.iadd, 1) := by decide +kernel
theorem dX8_cuts_28 : decode cX8_cuts 28 = .ok (.iconst 5, 1) := by decide +kernel
theorem dX8_cuts_29 : decode cX8_cuts 29 = .ok (.idiv, 1) := by decide +kernel
theorem dX8_cuts_30 : decode cX8_cuts 30 = .ok (.iconst 5, 1) := by decide +kernel
theorem dX8_cuts_31 : decode cX8_cuts 31 = .ok (.imul, 1) := by decide +kernel
theorem dX8_cuts_32 : decode cX8_cuts 32 = .ok (.iastore, 1) := by decide +kernel
theorem dX8_cuts_33 : decode cX8_cuts 33 = .ok (.aload_n 0, 1) := by decide +kernel
theorem dX8_cuts_34 : decode cX8_cuts 34 = .ok (.getfield 42, 3) := by decide +kernel
theorem dX8_cuts_37 : decode cX8_cuts 37 = .ok (.iload_n 1, 1) := by decide +kernel
theorem dX8_cuts_38 : decode cX8_cuts 38 = .ok (.aload_n 0, 1) := by decide +kernel
theorem dX8_cuts_39 : decode cX8_cuts 39 = .ok (.iload_n 2, 1) := by decide +kernel
theorem dX8_cuts_40 : decode cX8_cuts 40 = .ok (.iload_n 3, 1) := by decide +kernel
theorem dX8_cuts_41 : decode cX8_cuts 41 = .ok (.invokevirtual 147, 3) := by decide +kernel
theorem dX8_cuts_44 : decode cX8_cuts 44 = .ok (.iastore, 1) := by decide +kernel
theorem dX8_cuts_45 : decode cX8_cuts 45 = .ok (.aload_n 0, 1) := by decide +kernel
theorem dX8_cuts_46 : decode cX8_cuts 46 = .ok (.getfield 48, 3) := by decide +kernel
theorem dX8_cuts_49 : decode cX8_cuts 49 = .ok (.iload_n 1, 1) := by decide +kernel
theorem dX8_cuts_50 : decode cX8_cuts 50 = .ok (.iconst 0, 1) := by decide +kernel
theorem dX8_cuts_51 : decode cX8_cuts 51 = .ok (.bastore, 1) := by decide +kernel
theorem dX8_cuts_52 : decode cX8_cuts 52 = .ok (.aload_n 0, 1) := by decide +kernel
theorem dX8_cuts_53 : decode cX8_cuts 53 = .ok (.dup, 1) := by decide +kernel
theorem dX8_cuts_54 : decode cX8_cuts 54 = .ok (.getfield 7, 3) := by decide +kernel
theorem dX8_cuts_57 : decode cX8_cuts 57 = .ok (.iconst 1, 1) := by decide +kernel
theorem dX8_cuts_58 : decode cX8_cuts 58 = .ok (.isub, 1) := by decide +kernel
theorem dX8_cuts_59 : decode cX8_cuts 59 = .ok (.putfield 7, 3) := by decide +kernel
theorem dX8_cuts_62 : decode cX8_cuts 62 = .ok (.return_, 1) := by decide +kernel
theorem dX8_cut_0 : decode cX8_cut 0 = .ok (.aload_n 0, 1) := by decide +kernel
theorem dX8_cut_1 : decode cX8_cut 1 = .ok (.iload_n 1, 1) := by decide +kernel
theorem dX8_cut_2 : decode cX8_cut 2 = .ok (.invokevirtual 117, 3) := by decide +kernel
theorem dX8_cut_5 : decode cX8_cut 5 = .ok (.ifCond .eq 11, 3) := by decide +kernel
theorem dX8_cut_8 : decode cX8_cut 8 = .ok (.aload_n 0, 1) := by decide +kernel
theorem dX8_cut_9 : decode cX8_cut 9 = .ok (.iload_n 2, 1) := by decide +kernel
theorem dX8_cut_10 : decode cX8_cut 10 = .ok (.invokevirtual 117, 3) := by decide +kernel
theorem dX8_cut_13 : decode cX8_cut 13 = .ok (.ifCond .ne 9, 3) := by decide +kernel
theorem dX8_cut_16 : decode cX8_cut 16 = .ok (.aload_n 0, 1) := by decide +kernel
theorem dX8_cut_17 : decode cX8_cut 17 = .ok (.iconst 1, 1) := by decide +kernel
theorem dX8_cut_18 : decode cX8_cut 18 = .ok (.invokevirtual 110, 3) := by decide +kernel
theorem dX8_cut_21 : decode cX8_cut 21 = .ok (.ireturn, 1) := by decide +kernel
theorem dX8_cut_22 : decode cX8_cut 22 = .ok (.aload_n 0, 1) := by decide +kernel
theorem dX8_cut_23 : decode cX8_cut 23 = .ok (.getfield 13, 3) := by decide +kernel
theorem dX8_cut_26 : decode cX8_cut 26 = .ok (.iload_n 2, 1) := by decide +kernel
theorem dX8_cut_27 : decode cX8_cut 27 = .ok (.baload, 1) := by decide +kernel
theorem dX8_cut_28 : decode cX8_cut 28 = .ok (.ifCond .eq 8, 3) := by decide +kernel
theorem dX8_cut_31 : decode cX8_cut 31 = .ok (.iload_n 1, 1) := by decide +kernel
theorem dX8_cut_32 : decode cX8_cut 32 = .ok (.iload_n 2, 1) := by decide +kernel
theorem dX8_cut_33 : decode cX8_cut 33 = .ok (.if_icmp .ne 9, 3) := by decide +kernel
theorem dX8_cut_36 : decode cX8_cut 36 = .ok (.aload_n 0, 1) := by decide +kernel
theorem dX8_cut_37 : decode cX8_cut 37 = .ok (.iconst 2, 1) := by decide +kernel
theorem dX8_cut_38 : decode cX8_cut 38 = .ok (.invokevirtual 110, 3) := by decide +kernel
theorem dX8_cut_41 : decode cX8_cut 41 = .ok (.ireturn, 1) := by decide +kernel
theorem dX8_cut_42 : decode cX8_cut 42 = .ok (.aload_n 0, 1) := by decide +kernel
theorem dX8_cut_43 : decode cX8_cut 43 = .ok (.iload_n 1, 1) := by decide +kernel
theorem dX8_cut_44 : decode cX8_cut 44 = .ok (.iload_n 2, 1) := by decide +kernel
theorem dX8_cut_45 : decode cX8_cut 45 = .ok (.invokevirtual 150, 3) := by decide +kernel
theorem dX8_cut_48 : decode cX8_cut 48 = .ok (.ifCond .ne 9, 3) := by decide +kernel
theorem dX8_cut_51 : decode cX8_cut 51 = .ok (.aload_n 0, 1) := by decide +kernel
theorem dX8_cut_52 : decode cX8_cut 52 = .ok (.iconst 3, 1) := by decide +kernel
theorem dX8_cut_53 : decode cX8_cut 53 = .ok (.invokevirtual 110, 3) := by decide +kernel
theorem dX8_cut_56 : decode cX8_cut 56 = .ok (.ireturn, 1) := by decide +kernel
theorem dX8_cut_57 : decode cX8_cut 57 = .ok (.aload_n 0, 1) := by decide +kernel
theorem dX8_cut_58 : decode cX8_cut 58 = .ok (.getfield 7, 3) := by decide +kernel
theorem dX8_cut_61 : decode cX8_cut 61 = .ok (.ifCond .ne 9, 3) := by decide +kernel
theorem dX8_cut_64 : decode cX8_cut 64 = .ok (.aload_n 0, 1) := by decide +kernel
theorem dX8_cut_65 : decode cX8_cut 65 = .ok (.iconst 4, 1) := by decide +kernel
theorem dX8_cut_66 : decode cX8_cut 66 = .ok (.invokevirtual 110, 3) := by decide +kernel
theorem dX8_cut_69 : decode cX8_cut 69 = .ok (.ireturn, 1) := by decide +kernel
theorem dX8_cut_70 : decode cX8_cut 70 = .ok (.aload_n 0, 1) := by decide +kernel
theorem dX8_cut_71 : decode cX8_cut 71 = .ok (.getfield 101, 3) := by decide +kernel
theorem dX8_cut_74 : decode cX8_cut 74 = .ok (.bipush 30, 2) := by decide +kernel
theorem dX8_cut_76 : decode cX8_cut 76 = .ok (.if_icmp .ne 9, 3) := by decide +kernel
theorem dX8_cut_79 : decode cX8_cut 79 = .ok (.aload_n 0, 1) := by decide +kernel
theorem dX8_cut_80 : decode cX8_cut 80 = .ok (.iconst 5, 1) := by decide +kernel
theorem dX8_cut_81 : decode cX8_cut 81 = .ok (.invokevirtual 110, 3) := by decide +kernel
theorem dX8_cut_84 : decode cX8_cut 84 = .ok (.ireturn, 1) := by decide +kernel
theorem dX8_cut_85 : decode cX8_cut 85 = .ok (.aload_n 0, 1) := by decide +kernel
theorem dX8_cut_86 : decode cX8_cut 86 = .ok (.aload_n 0, 1) := by decide +kernel
theorem dX8_cut_87 : decode cX8_cut 87 = .ok (.getfield 101, 3) := by decide +kernel
theorem dX8_cut_90 : decode cX8_cut 90 = .ok (.iload_n 1, 1) := by decide +kernel
theorem dX8_cut_91 : decode cX8_cut 91 = .ok (.iload_n 2, 1) := by decide +kernel
theorem dX8_cut_92 : decode cX8_cut 92 = .ok (.invokevirtual 154, 3) := by decide +kernel
theorem dX8_cut_95 : decode cX8_cut 95 = .ok (.aload_n 0, 1) := by decide +kernel
theorem dX8_cut_96 : decode cX8_cut 96 = .ok (.dup, 1) := by decide +kernel
theorem dX8_cut_97 : decode cX8_cut 97 = .ok (.getfield 101, 3) := by decide +kernel
theorem dX8_cut_100 : decode cX8_cut 100 = .ok (.iconst 1, 1) := by decide +kernel
theorem dX8_cut_101 : decode cX8_cut 101 = .ok (.iadd, 1) := by decide +kernel
theorem dX8_cut_102 : decode cX8_cut 102 = .ok (.putfield 101, 3) := by decide +kernel
theorem dX8_cut_105 : decode cX8_cut 105 = .ok (.aload_n 0, 1) := by decide +kernel
theorem dX8_cut_106 : decode cX8_cut 106 = .ok (.aload_n 0, 1) := by decide +kernel
theorem dX8_cut_107 : decode cX8_cut 107 = .ok (.getfield 101, 3) := by decide +kernel
theorem dX8_cut_110 : decode cX8_cut 110 = .ok (.iconst 1, 1) := by decide +kernel
theorem dX8_cut_111 : decode cX8_cut 111 = .ok (.isub, 1) := by decide +kernel
theorem dX8_cut_112 : decode cX8_cut 112 = .ok (.invokevirtual 114, 3) := by decide +kernel
theorem dX8_cut_115 : decode cX8_cut 115 = .ok (.ireturn, 1) := by decide +kernel
theorem dX8_trailOf_0 : decode cX8_trailOf 0 = .ok (.aload_n 0, 1) := by decide +kernel
theorem dX8_trailOf_1 : decode cX8_trailOf 1 = .ok (.iload_n 1, 1) := by decide +kernel
theorem dX8_trailOf_2 : decode cX8_trailOf 2 = .ok (.invokevirtual 158, 3) := by decide +kernel
theorem dX8_trailOf_5 : decode cX8_trailOf 5 = .ok (.ifCond .eq 16, 3) := by decide +kernel
theorem dX8_trailOf_8 : decode cX8_trailOf 8 = .ok (.aload_n 0, 1) := by decide +kernel
theorem dX8_trailOf_9 : decode cX8_trailOf 9 = .ok (.aload_n 0, 1) := by decide +kernel
theorem dX8_trailOf_10 : decode cX8_trailOf 10 = .ok (.getfield 42, 3) := by decide +kernel
theorem dX8_trailOf_13 : decode cX8_trailOf 13 = .ok (.iload_n 1, 1) := by decide +kernel
theorem dX8_trailOf_14 : decode cX8_trailOf 14 = .ok (.iaload, 1) := by decide +kernel
theorem dX8_trailOf_15 : decode cX8_trailOf 15 = .ok (.invokevirtual 114, 3) := by decide +kernel
theorem dX8_trailOf_18 : decode cX8_trailOf 18 = .ok (.goto 8, 3) := by decide +kernel
theorem dX8_trailOf_21 : decode cX8_trailOf 21 = .ok (.aload_n 0, 1) := by decide +kernel
theorem dX8_trailOf_22 : decode cX8_trailOf 22 = .ok (.iconst 1, 1) := by decide +kernel
theorem dX8_trailOf_23 : decode cX8_trailOf 23 = .ok (.invokevirtual 110, 3) := by decide +kernel
theorem dX8_trailOf_26 : decode cX8_trailOf 26 = .ok (.ireturn, 1) := by decide +kernel
theorem dX8_told_0 : decode cX8_told 0 = .ok (.aload_n 0, 1) := by decide +kernel
theorem dX8_told_1 : decode cX8_told 1 = .ok (.iload_n 1, 1) := by decide +kernel
theorem dX8_told_2 : decode cX8_told 2 = .ok (.invokevirtual 158, 3) := by decide +kernel
theorem dX8_told_5 : decode cX8_told 5 = .ok (.ifCond .eq 16, 3) := by decide +kernel
theorem dX8_told_8 : decode cX8_told 8 = .ok (.aload_n 0, 1) := by decide +kernel
theorem dX8_told_9 : decode cX8_told 9 = .ok (.aload_n 0, 1) := by decide +kernel
theorem dX8_told_10 : decode cX8_told 10 = .ok (.getfield 45, 3) := by decide +kernel
theorem dX8_told_13 : decode cX8_told 13 = .ok (.iload_n 1, 1) := by decide +kernel
theorem dX8_told_14 : decode cX8_told 14 = .ok (.iaload, 1) := by decide +kernel
theorem dX8_told_15 : decode cX8_told 15 = .ok (.invokevirtual 114, 3) := by decide +kernel
theorem dX8_told_18 : decode cX8_told 18 = .ok (.goto 8, 3) := by decide +kernel
theorem dX8_told_21 : decode cX8_told 21 = .ok (.aload_n 0, 1) := by decide +kernel
theorem dX8_told_22 : decode cX8_told 22 = .ok (.iconst 1, 1) := by decide +kernel
theorem dX8_told_23 : decode cX8_told 23 = .ok (.invokevirtual 110, 3) := by decide +kernel
theorem dX8_told_26 : decode cX8_told 26 = .ok (.ireturn, 1) := by decide +kernel
theorem dX8_isCovered_0 : decode cX8_isCovered 0 = .ok (.aload_n 0, 1) := by decide +kernel
theorem dX8_isCovered_1 : decode cX8_isCovered 1 = .ok (.aload_n 0, 1) := by decide +kernel
theorem dX8_isCovered_2 : decode cX8_isCovered 2 = .ok (.iload_n 1, 1) := by decide +kernel
theorem dX8_isCovered_3 : decode cX8_isCovered 3 = .ok (.invokevirtual 158, 3) := by decide +kernel
theorem dX8_isCovered_6 : decode cX8_isCovered 6 = .ok (.ifCond .eq 7, 3) := by decide +kernel
theorem dX8_isCovered_9 : decode cX8_isCovered 9 = .ok (.iconst 0, 1) := by decide +kernel
theorem dX8_isCovered_10 : decode cX8_isCovered 10 = .ok (.goto 4, 3) := by decide +kernel
theorem dX8_isCovered_13 : decode cX8_isCovered 13 = .ok (.iconst 1, 1) := by decide +kernel
theorem dX8_isCovered_14 : decode cX8_isCovered 14 = .ok (.putfield 88, 3) := by decide +kernel
theorem dX8_isCovered_17 : decode cX8_isCovered 17 = .ok (.aload_n 0, 1) := by decide +kernel
theorem dX8_isCovered_18 : decode cX8_isCovered 18 = .ok (.getfield 88, 3) := by decide +kernel
theorem dX8_isCovered_21 : decode cX8_isCovered 21 = .ok (.ifCond .ne 16, 3) := by decide +kernel
theorem dX8_isCovered_24 : decode cX8_isCovered 24 = .ok (.aload_n 0, 1) := by decide +kernel
theorem dX8_isCovered_25 : decode cX8_isCovered 25 = .ok (.getfield 48, 3) := by decide +kernel
theorem dX8_isCovered_28 : decode cX8_isCovered 28 = .ok (.iload_n 1, 1) := by decide +kernel
theorem dX8_isCovered_29 : decode cX8_isCovered 29 = .ok (.baload, 1) := by decide +kernel
theorem dX8_isCovered_30 : decode cX8_isCovered 30 = .ok (.ifCond .eq 7, 3) := by decide +kernel
theorem dX8_isCovered_33 : decode cX8_isCovered 33 = .ok (.iconst 1, 1) := by decide +kernel
theorem dX8_isCovered_34 : decode cX8_isCovered 34 = .ok (.goto 4, 3) := by decide +kernel
theorem dX8_isCovered_37 : decode cX8_isCovered 37 = .ok (.iconst 0, 1) := by decide +kernel
theorem dX8_isCovered_38 : decode cX8_isCovered 38 = .ok (.ireturn, 1) := by decide +kernel
theorem dX8_dangerOf_0 : decode cX8_dangerOf 0 = .ok (.aload_n 0, 1) := by decide +kernel
theorem dX8_dangerOf_1 : decode cX8_dangerOf 1 = .ok (.getfield 42, 3) := by decide +kernel
theorem dX8_dangerOf_4 : decode cX8_dangerOf 4 = .ok (.iload_n 1, 1) := by decide +kernel
theorem dX8_dangerOf_5 : decode cX8_dangerOf 5 = .ok (.iaload, 1) := by decide +kernel
theorem dX8_dangerOf_6 : decode cX8_dangerOf 6 = .ok (.istore_n 3, 1) := by decide +kernel
theorem dX8_dangerOf_7 : decode cX8_dangerOf 7 = .ok (.aload_n 0, 1) := by decide +kernel
theorem dX8_dangerOf_8 : decode cX8_dangerOf 8 = .ok (.iload_n 3, 1) := by decide +kernel
theorem dX8_dangerOf_9 : decode cX8_dangerOf 9 = .ok (.iload_n 2, 1) := by decide +kernel
theorem dX8_dangerOf_10 : decode cX8_dangerOf 10 = .ok (.invokevirtual 124, 3) := by decide +kernel
theorem dX8_dangerOf_13 : decode cX8_dangerOf 13 = .ok (.ifCond .eq 7, 3) := by decide +kernel
theorem dX8_dangerOf_16 : decode cX8_dangerOf 16 = .ok (.sipush 1000, 3) := by decide +kernel
theorem dX8_dangerOf_19 : decode cX8_dangerOf 19 = .ok (.ireturn, 1) := by decide +kernel
theorem dX8_dangerOf_20 : decode cX8_dangerOf 20 = .ok (.aload_n 0, 1) := by decide +kernel
theorem dX8_dangerOf_21 : decode cX8_dangerOf 21 = .ok (.aload_n 0, 1) := by decide +kernel
theorem dX8_dangerOf_22 : decode cX8_dangerOf 22 = .ok (.iload_n 3, 1) := by decide +kernel
theorem dX8_dangerOf_23 : decode cX8_dangerOf 23 = .ok (.aload_n 0, 1) := by decide +kernel
theorem dX8_dangerOf_24 : decode cX8_dangerOf 24 = .ok (.getfield 36, 3) := by decide +kernel
theorem dX8_dangerOf_27 : decode cX8_dangerOf 27 = .ok (.iload_n 1, 1) := by decide +kernel
theorem dX8_dangerOf_28 : decode cX8_dangerOf 28 = .ok (.iaload, 1) := by decide +kernel
theorem dX8_dangerOf_29 : decode cX8_dangerOf 29 = .ok (.invokevirtual 140, 3) := by decide +kernel
theorem dX8_dangerOf_32 : decode cX8_dangerOf 32 = .ok (.aload_n 0, 1) := by decide +kernel
theorem dX8_dangerOf_33 : decode cX8_dangerOf 33 = .ok (.getfield 39, 3) := by decide +kernel
theorem dX8_dangerOf_36 : decode cX8_dangerOf 36 = .ok (.iload_n 1, 1) := by decide +kernel
theorem dX8_dangerOf_37 : decode cX8_dangerOf 37 = .ok (.iaload, 1) := by decide +kernel
theorem dX8_dangerOf_38 : decode cX8_dangerOf 38 = .ok (.iload_n 2, 1) := by decide +kernel
theorem dX8_dangerOf_39 : decode cX8_dangerOf 39 = .ok (.invokevirtual 143, 3) := by decide +kernel
theorem dX8_dangerOf_42 : decode cX8_dangerOf 42 = .ok (.istore 4, 2) := by decide +kernel
theorem dX8_dangerOf_44 : decode cX8_dangerOf 44 = .ok (.iload 4, 2) := by decide +kernel
theorem dX8_dangerOf_46 : decode cX8_dangerOf 46 = .ok (.ldc 128, 2) := by decide +kernel
theorem dX8_dangerOf_48 : decode cX8_dangerOf 48 = .ok (.if_icmp .lt 7, 3) := by decide +kernel
theorem dX8_dangerOf_51 : decode cX8_dangerOf 51 = .ok (.sipush 1000, 3) := by decide +kernel
theorem dX8_dangerOf_54 : decode cX8_dangerOf 54 = .ok (.ireturn, 1) := by decide +kernel
theorem dX8_dangerOf_55 : decode cX8_dangerOf 55 = .ok (.aload_n 0, 1) := by decide +kernel
theorem dX8_dangerOf_56 : decode cX8_dangerOf 56 = .ok (.iload_n 3, 1) := by decide +kernel
theorem dX8_dangerOf_57 : decode cX8_dangerOf 57 = .ok (.aload_n 0, 1) := by decide +kernel
theorem dX8_dangerOf_58 : decode cX8_dangerOf 58 = .ok (.getfield 36, 3) := by decide +kernel
theorem dX8_dangerOf_61 : decode cX8_dangerOf 61 = .ok (.iload_n 1, 1) := by decide +kernel
theorem dX8_dangerOf_62 : decode cX8_dangerOf 62 = .ok (.iaload, 1) := by decide +kernel
theorem dX8_dangerOf_63 : decode cX8_dangerOf 63 = .ok (.invokevirtual 137, 3) := by decide +kernel
theorem dX8_dangerOf_66 : decode cX8_dangerOf 66 = .ok (.iload 4, 2) := by decide +kernel
theorem dX8_dangerOf_68 : decode cX8_dangerOf 68 = .ok (.iadd, 1) := by decide +kernel
theorem dX8_dangerOf_69 : decode cX8_dangerOf 69 = .ok (.aload_n 0, 1) := by decide +kernel
theorem dX8_dangerOf_70 : decode cX8_dangerOf 70 = .ok (.getfield 45, 3) := by decide +kernel
theorem dX8_dangerOf_73 : decode cX8_dangerOf 73 = .ok (.iload_n 1, 1) := by decide +kernel
theorem dX8_dangerOf_74 : decode cX8_dangerOf 74 = .ok (.iaload, 1) := by decide +kernel
theorem dX8_dangerOf_75 : decode cX8_dangerOf 75 = .ok (.isub, 1) := by decide +kernel
theorem dX8_dangerOf_76 : decode cX8_dangerOf 76 = .ok (.istore 5, 2) := by decide +kernel
theorem dX8_dangerOf_78 : decode cX8_dangerOf 78 = .ok (.iload 5, 2) := by decide +kernel
theorem dX8_dangerOf_80 : decode cX8_dangerOf 80 = .ok (.bipush 30, 2) := by decide +kernel
theorem dX8_dangerOf_82 : decode cX8_dangerOf 82 = .ok (.if_icmp .ge 7, 3) := by decide +kernel
theorem dX8_dangerOf_85 : decode cX8_dangerOf 85 = .ok (.iconst 0, 1) := by decide +kernel
theorem dX8_dangerOf_86 : decode cX8_dangerOf 86 = .ok (.goto 12, 3) := by decide +kernel
theorem dX8_dangerOf_89 : decode cX8_dangerOf 89 = .ok (.aload_n 0, 1) := by decide +kernel
theorem dX8_dangerOf_90 : decode cX8_dangerOf 90 = .ok (.sipush 999, 3) := by decide +kernel
theorem dX8_dangerOf_93 : decode cX8_dangerOf 93 = .ok (.iload 5, 2) := by decide +kernel
theorem dX8_dangerOf_95 : decode cX8_dangerOf 95 = .ok (.invokevirtual 129, 3) := by decide +kernel
theorem dX8_dangerOf_98 : decode cX8_dangerOf 98 = .ok (.ireturn, 1) := by decide +kernel
theorem dX8_danger_0 : decode cX8_danger 0 = .ok (.aload_n 0, 1) := by decide +kernel
theorem dX8_danger_1 : decode cX8_danger 1 = .ok (.iload_n 1, 1) := by decide +kernel
theorem dX8_danger_2 : decode cX8_danger 2 = .ok (.invokevirtual 158, 3) := by decide +kernel
theorem dX8_danger_5 : decode cX8_danger 5 = .ok (.ifCond .eq 16, 3) := by decide +kernel
theorem dX8_danger_8 : decode cX8_danger 8 = .ok (.aload_n 0, 1) := by decide +kernel
theorem dX8_danger_9 : decode cX8_danger 9 = .ok (.aload_n 0, 1) := by decide +kernel
theorem dX8_danger_10 : decode cX8_danger 10 = .ok (.iload_n 1, 1) := by decide +kernel
theorem dX8_danger_11 : decode cX8_danger 11 = .ok (.iload_n 2, 1) := by decide +kernel
theorem dX8_danger_12 : decode cX8_danger 12 = .ok (.invokevirtual 161, 3) := by decide +kernel
theorem dX8_danger_15 : decode cX8_danger 15 = .ok (.invokevirtual 114, 3) := by decide +kernel
theorem dX8_danger_18 : decode cX8_danger 18 = .ok (.goto 8, 3) := by decide +kernel
theorem dX8_danger_21 : decode cX8_danger 21 = .ok (.aload_n 0, 1) := by decide +kernel
theorem dX8_danger_22 : decode cX8_danger 22 = .ok (.iconst 1, 1) := by decide +kernel
theorem dX8_danger_23 : decode cX8_danger 23 = .ok (.invokevirtual 110, 3) := by decide +kernel
theorem dX8_danger_26 : decode cX8_danger 26 = .ok (.ireturn, 1) := by decide +kernel
theorem dX8_unsafe_0 : decode cX8_unsafe 0 = .ok (.iconst 0, 1) := by decide +kernel
theorem dX8_unsafe_1 : decode cX8_unsafe 1 = .ok (.istore_n 2, 1) := by decide +kernel
theorem dX8_unsafe_2 : decode cX8_unsafe 2 = .ok (.iconst 0, 1) := by decide +kernel
theorem dX8_unsafe_3 : decode cX8_unsafe 3 = .ok (.istore_n 3, 1) := by decide +kernel
theorem dX8_unsafe_4 : decode cX8_unsafe 4 = .ok (.iload_n 3, 1) := by decide +kernel
theorem dX8_unsafe_5 : decode cX8_unsafe 5 = .ok (.aload_n 0, 1) := by decide +kernel
theorem dX8_unsafe_6 : decode cX8_unsafe 6 = .ok (.getfield 101, 3) := by decide +kernel
theorem dX8_unsafe_9 : decode cX8_unsafe 9 = .ok (.if_icmp .ge 38, 3) := by decide +kernel
theorem dX8_unsafe_12 : decode cX8_unsafe 12 = .ok (.iload_n 2, 1) := by decide +kernel
theorem dX8_unsafe_13 : decode cX8_unsafe 13 = .ok (.aload_n 0, 1) := by decide +kernel
theorem dX8_unsafe_14 : decode cX8_unsafe 14 = .ok (.getfield 48, 3) := by decide +kernel
theorem dX8_unsafe_17 : decode cX8_unsafe 17 = .ok (.iload_n 3, 1) := by decide +kernel
theorem dX8_unsafe_18 : decode cX8_unsafe 18 = .ok (.baload, 1) := by decide +kernel
theorem dX8_unsafe_19 : decode cX8_unsafe 19 = .ok (.ifCond .ne 19, 3) := by decide +kernel
theorem dX8_unsafe_22 : decode cX8_unsafe 22 = .ok (.aload_n 0, 1) := by decide +kernel
theorem dX8_unsafe_23 : decode cX8_unsafe 23 = .ok (.iload_n 3, 1) := by decide +kernel
theorem dX8_unsafe_24 : decode cX8_unsafe 24 = .ok (.iload_n 1, 1) := by decide +kernel
theorem dX8_unsafe_25 : decode cX8_unsafe 25 = .ok (.invokevirtual 161, 3) := by decide +kernel
theorem dX8_unsafe_28 : decode cX8_unsafe 28 = .ok (.sipush 1000, 3) := by decide +kernel
theorem dX8_unsafe_31 : decode cX8_unsafe 31 = .ok (.if_icmp .ne 7, 3) := by decide +kernel
theorem dX8_unsafe_34 : decode cX8_unsafe 34 = .ok (.iconst 1, 1) := by decide +kernel
theorem dX8_unsafe_35 : decode cX8_unsafe 35 = .ok (.goto 4, 3) := by decide +kernel
theorem dX8_unsafe_38 : decode cX8_unsafe 38 = .ok (.iconst 0, 1) := by decide +kernel
theorem dX8_unsafe_39 : decode cX8_unsafe 39 = .ok (.iadd, 1) := by decide +kernel
theorem dX8_unsafe_40 : decode cX8_unsafe 40 = .ok (.istore_n 2, 1) := by decide +kernel
theorem dX8_unsafe_41 : decode cX8_unsafe 41 = .ok (.iinc 3 1, 3) := by decide +kernel
theorem dX8_unsafe_44 : decode cX8_unsafe 44 = .ok (.goto (-40), 3) := by decide +kernel
theorem dX8_unsafe_47 : decode cX8_unsafe 47 = .ok (.aload_n 0, 1) := by decide +kernel
theorem dX8_unsafe_48 : decode cX8_unsafe 48 = .ok (.iload_n 2, 1) := by decide +kernel
theorem dX8_unsafe_49 : decode cX8_unsafe 49 = .ok (.invokevirtual 114, 3) := by decide +kernel
theorem dX8_unsafe_52 : decode cX8_unsafe 52 = .ok (.ireturn, 1) := by decide +kernel
theorem dX8_report_0 : decode cX8_report 0 = .ok (.aload_n 0, 1) := by decide +kernel
theorem dX8_report_1 : decode cX8_report 1 = .ok (.aload_n 0, 1) := by decide +kernel
theorem dX8_report_2 : decode cX8_report 2 = .ok (.iload_n 1, 1) := by decide +kernel
theorem dX8_report_3 : decode cX8_report 3 = .ok (.iconst 0, 1) := by decide +kernel
theorem dX8_report_4 : decode cX8_report 4 = .ok (.bipush 9, 2) := by decide +kernel
theorem dX8_report_6 : decode cX8_report 6 = .ok (.invokevirtual 94, 3) := by decide +kernel
theorem dX8_report_9 : decode cX8_report 9 = .ok (.ifCond .ne 7, 3) := by decide +kernel
theorem dX8_report_12 : decode cX8_report 12 = .ok (.iconst 1, 1) := by decide +kernel
theorem dX8_report_13 : decode cX8_report 13 = .ok (.goto 16, 3) := by decide +kernel
theorem dX8_report_16 : decode cX8_report 16 = .ok (.aload_n 0, 1) := by decide +kernel
theorem dX8_report_17 : decode cX8_report 17 = .ok (.iload_n 2, 1) := by decide +kernel
theorem dX8_report_18 : decode cX8_report 18 = .ok (.invokevirtual 121, 3) := by decide +kernel
theorem dX8_report_21 : decode cX8_report 21 = .ok (.ifCond .ne 7, 3) := by decide +kernel
theorem dX8_report_24 : decode cX8_report 24 = .ok (.iconst 2, 1) := by decide +kernel
theorem dX8_report_25 : decode cX8_report 25 = .ok (.goto 4, 3) := by decide +kernel
theorem dX8_report_28 : decode cX8_report 28 = .ok (.iconst 0, 1) := by decide +kernel
theorem dX8_report_29 : decode cX8_report 29 = .ok (.putfield 88, 3) := by decide +kernel
theorem dX8_report_32 : decode cX8_report 32 = .ok (.aload_n 0, 1) := by decide +kernel
theorem dX8_report_33 : decode cX8_report 33 = .ok (.getfield 88, 3) := by decide +kernel
theorem dX8_report_36 : decode cX8_report 36 = .ok (.ifCond .le 5, 3) := by decide +kernel
theorem dX8_report_39 : decode cX8_report 39 = .ok (.iconst 0, 1) := by decide +kernel
theorem dX8_report_40 : decode cX8_report 40 = .ok (.ireturn, 1) := by decide +kernel
theorem dX8_report_41 : decode cX8_report 41 = .ok (.aload_n 0, 1) := by decide +kernel
theorem dX8_report_42 : decode cX8_report 42 = .ok (.getfield 51, 3) := by decide +kernel
theorem dX8_report_45 : decode cX8_report 45 = .ok (.iload_n 2, 1) := by decide +kernel
theorem dX8_report_46 : decode cX8_report 46 = .ok (.bipush 10, 2) := by decide +kernel
theorem dX8_report_48 : decode cX8_report 48 = .ok (.imul, 1) := by decide +kernel
theorem dX8_report_49 : decode cX8_report 49 = .ok (.iload_n 1, 1) := by decide +kernel
theorem dX8_report_50 : decode cX8_report 50 = .ok (.iadd, 1) := by decide +kernel
theorem dX8_report_51 : decode cX8_report 51 = .ok (.iload_n 3, 1) := by decide +kernel
theorem dX8_report_52 : decode cX8_report 52 = .ok (.ifCond .eq 7, 3) := by decide +kernel
theorem dX8_report_55 : decode cX8_report 55 = .ok (.iconst 1, 1) := by decide +kernel
theorem dX8_report_56 : decode cX8_report 56 = .ok (.goto 4, 3) := by decide +kernel
theorem dX8_report_59 : decode cX8_report 59 = .ok (.iconst 2, 1) := by decide +kernel
theorem dX8_report_60 : decode cX8_report 60 = .ok (.iastore, 1) := by decide +kernel
theorem dX8_report_61 : decode cX8_report 61 = .ok (.iconst 0, 1) := by decide +kernel
theorem dX8_report_62 : decode cX8_report 62 = .ok (.istore 4, 2) := by decide +kernel
theorem dX8_report_64 : decode cX8_report 64 = .ok (.iconst 0, 1) := by decide +kernel
theorem dX8_report_65 : decode cX8_report 65 = .ok (.istore 5, 2) := by decide +kernel
theorem dX8_report_67 : decode cX8_report 67 = .ok (.iconst 0, 1) := by decide +kernel
theorem dX8_report_68 : decode cX8_report 68 = .ok (.istore 6, 2) := by decide +kernel
theorem dX8_report_70 : decode cX8_report 70 = .ok (.iload 6, 2) := by decide +kernel
theorem dX8_report_72 : decode cX8_report 72 = .ok (.bipush 10, 2) := by decide +kernel
theorem dX8_report_74 : decode cX8_report 74 = .ok (.if_icmp .ge 67, 3) := by decide +kernel
theorem dX8_report_77 : decode cX8_report 77 = .ok (.aload_n 0, 1) := by decide +kernel
theorem dX8_report_78 : decode cX8_report 78 = .ok (.getfield 51, 3) := by decide +kernel
theorem dX8_report_81 : decode cX8_report 81 = .ok (.iload_n 2, 1) := by decide +kernel
theorem dX8_report_82 : decode cX8_report 82 = .ok (.bipush 10, 2) := by decide +kernel
theorem dX8_report_84 : decode cX8_report 84 = .ok (.imul, 1) := by decide +kernel
theorem dX8_report_85 : decode cX8_report 85 = .ok (.iload 6, 2) := by decide +kernel
theorem dX8_report_87 : decode cX8_report 87 = .ok (.iadd, 1) := by decide +kernel
theorem dX8_report_88 : decode cX8_report 88 = .ok (.iaload, 1) := by decide +kernel
theorem dX8_report_89 : decode cX8_report 89 = .ok (.istore 7, 2) := by decide +kernel
theorem dX8_report_91 : decode cX8_report 91 = .ok (.iload 4, 2) := by decide +kernel
theorem dX8_report_93 : decode cX8_report 93 = .ok (.iload 7, 2) := by decide +kernel
theorem dX8_report_95 : decode cX8_report 95 = .ok (.iconst 1, 1) := by decide +kernel
theorem dX8_report_96 : decode cX8_report 96 = .ok (.if_icmp .ne 13, 3) := by decide +kernel
theorem dX8_report_99 : decode cX8_report 99 = .ok (.aload_n 0, 1) := by decide +kernel
theorem dX8_report_100 : decode cX8_report 100 = .ok (.getfield 54, 3) := by decide +kernel
theorem dX8_report_103 : decode cX8_report 103 = .ok (.iload 6, 2) := by decide +kernel
theorem dX8_report_105 : decode cX8_report 105 = .ok (.iaload, 1) := by decide +kernel
theorem dX8_report_106 : decode cX8_report 106 = .ok (.goto 4, 3) := by decide +kernel
theorem dX8_report_109 : decode cX8_report 109 = .ok (.iconst 0, 1) := by decide +kernel
theorem dX8_report_110 : decode cX8_report 110 = .ok (.iadd, 1) := by decide +kernel
theorem dX8_report_111 : decode cX8_report 111 = .ok (.istore 4, 2) := by decide +kernel
theorem dX8_report_113 : decode cX8_report 113 = .ok (.iload 5, 2) := by decide +kernel
theorem dX8_report_115 : decode cX8_report 115 = .ok (.iload 7, 2) := by decide +kernel
theorem dX8_report_117 : decode cX8_report 117 = .ok (.iconst 2, 1) := by decide +kernel
theorem dX8_report_118 : decode cX8_report 118 = .ok (.if_icmp .ne 13, 3) := by decide +kernel
theorem dX8_report_121 : decode cX8_report 121 = .ok (.aload_n 0, 1) := by decide +kernel
theorem dX8_report_122 : decode cX8_report 122 = .ok (.getfield 54, 3) := by decide +kernel
theorem dX8_report_125 : decode cX8_report 125 = .ok (.iload 6, 2) := by decide +kernel
theorem dX8_report_127 : decode cX8_report 127 = .ok (.iaload, 1) := by decide +kernel
theorem dX8_report_128 : decode cX8_report 128 = .ok (.goto 4, 3) := by decide +kernel
theorem dX8_report_131 : decode cX8_report 131 = .ok (.iconst 0, 1) := by decide +kernel
theorem dX8_report_132 : decode cX8_report 132 = .ok (.iadd, 1) := by decide +kernel
theorem dX8_report_133 : decode cX8_report 133 = .ok (.istore 5, 2) := by decide +kernel
theorem dX8_report_135 : decode cX8_report 135 = .ok (.iinc 6 1, 3) := by decide +kernel
theorem dX8_report_138 : decode cX8_report 138 = .ok (.goto (-68), 3) := by decide +kernel
theorem dX8_report_141 : decode cX8_report 141 = .ok (.iload 4, 2) := by decide +kernel
theorem dX8_report_143 : decode cX8_report 143 = .ok (.bipush 100, 2) := by decide +kernel
theorem dX8_report_145 : decode cX8_report 145 = .ok (.if_icmp .lt 20, 3) := by decide +kernel
theorem dX8_report_148 : decode cX8_report 148 = .ok (.iload 4, 2) := by decide +kernel
theorem dX8_report_150 : decode cX8_report 150 = .ok (.iload 5, 2) := by decide +kernel
theorem dX8_report_152 : decode cX8_report 152 = .ok (.if_icmp .le 13, 3) := by decide +kernel
theorem dX8_report_155 : decode cX8_report 155 = .ok (.aload_n 0, 1) := by decide +kernel
theorem dX8_report_156 : decode cX8_report 156 = .ok (.getfield 33, 3) := by decide +kernel
theorem dX8_report_159 : decode cX8_report 159 = .ok (.iload_n 2, 1) := by decide +kernel
theorem dX8_report_160 : decode cX8_report 160 = .ok (.iconst 1, 1) := by decide +kernel
theorem dX8_report_161 : decode cX8_report 161 = .ok (.bastore, 1) := by decide +kernel
theorem dX8_report_162 : decode cX8_report 162 = .ok (.goto 24, 3) := by decide +kernel
theorem dX8_report_165 : decode cX8_report 165 = .ok (.iload 5, 2) := by decide +kernel
theorem dX8_report_167 : decode cX8_report 167 = .ok (.bipush 100, 2) := by decide +kernel
theorem dX8_report_169 : decode cX8_report 169 = .ok (.if_icmp .lt 17, 3) := by decide +kernel
theorem dX8_report_172 : decode cX8_report 172 = .ok (.iload 5, 2) := by decide +kernel
theorem dX8_report_174 : decode cX8_report 174 = .ok (.iload 4, 2) := by decide +kernel
theorem dX8_report_176 : decode cX8_report 176 = .ok (.if_icmp .lt 10, 3) := by decide +kernel
theorem dX8_report_179 : decode cX8_report 179 = .ok (.aload_n 0, 1) := by decide +kernel
theorem dX8_report_180 : decode cX8_report 180 = .ok (.getfield 33, 3) := by decide +kernel
theorem dX8_report_183 : decode cX8_report 183 = .ok (.iload_n 2, 1) := by decide +kernel
theorem dX8_report_184 : decode cX8_report 184 = .ok (.iconst 0, 1) := by decide +kernel
theorem dX8_report_185 : decode cX8_report 185 = .ok (.bastore, 1) := by decide +kernel
theorem dX8_report_186 : decode cX8_report 186 = .ok (.aload_n 0, 1) := by decide +kernel
theorem dX8_report_187 : decode cX8_report 187 = .ok (.getfield 33, 3) := by decide +kernel
theorem dX8_report_190 : decode cX8_report 190 = .ok (.iload_n 2, 1) := by decide +kernel
theorem dX8_report_191 : decode cX8_report 191 = .ok (.baload, 1) := by decide +kernel
theorem dX8_report_192 : decode cX8_report 192 = .ok (.ireturn, 1) := by decide +kernel
theorem dX8_sees_0 : decode cX8_sees 0 = .ok (.aload_n 0, 1) := by decide +kernel
theorem dX8_sees_1 : decode cX8_sees 1 = .ok (.getfield 33, 3) := by decide +kernel
theorem dX8_sees_4 : decode cX8_sees 4 = .ok (.iload_n 1, 1) := by decide +kernel
theorem dX8_sees_5 : decode cX8_sees 5 = .ok (.aload_n 0, 1) := by decide +kernel
theorem dX8_sees_6 : decode cX8_sees 6 = .ok (.getfield 30, 3) := by decide +kernel
theorem dX8_sees_9 : decode cX8_sees 9 = .ok (.iload_n 1, 1) := by decide +kernel
theorem dX8_sees_10 : decode cX8_sees 10 = .ok (.baload, 1) := by decide +kernel
theorem dX8_sees_11 : decode cX8_sees 11 = .ok (.bastore, 1) := by decide +kernel
theorem dX8_sees_12 : decode cX8_sees 12 = .ok (.iconst 0, 1) := by decide +kernel
theorem dX8_sees_13 : decode cX8_sees 13 = .ok (.istore_n 2, 1) := by decide +kernel
theorem dX8_sees_14 : decode cX8_sees 14 = .ok (.iload_n 2, 1) := by decide +kernel
theorem dX8_sees_15 : decode cX8_sees 15 = .ok (.bipush 10, 2) := by decide +kernel
theorem dX8_sees_17 : decode cX8_sees 17 = .ok (.if_icmp .ge 107, 3) := by decide +kernel
theorem dX8_sees_20 : decode cX8_sees 20 = .ok (.aload_n 0, 1) := by decide +kernel
theorem dX8_sees_21 : decode cX8_sees 21 = .ok (.getfield 51, 3) := by decide +kernel
theorem dX8_sees_24 : decode cX8_sees 24 = .ok (.iload_n 1, 1) := by decide +kernel
theorem dX8_sees_25 : decode cX8_sees 25 = .ok (.bipush 10, 2) := by decide +kernel
theorem dX8_sees_27 : decode cX8_sees 27 = .ok (.imul, 1) := by decide +kernel
theorem dX8_sees_28 : decode cX8_sees 28 = .ok (.iload_n 2, 1) := by decide +kernel
theorem dX8_sees_29 : decode cX8_sees 29 = .ok (.iadd, 1) := by decide +kernel
theorem dX8_sees_30 : decode cX8_sees 30 = .ok (.iaload, 1) := by decide +kernel
theorem dX8_sees_31 : decode cX8_sees 31 = .ok (.istore_n 3, 1) := by decide +kernel
theorem dX8_sees_32 : decode cX8_sees 32 = .ok (.aload_n 0, 1) := by decide +kernel
theorem dX8_sees_33 : decode cX8_sees 33 = .ok (.getfield 51, 3) := by decide +kernel
theorem dX8_sees_36 : decode cX8_sees 36 = .ok (.iload_n 1, 1) := by decide +kernel
theorem dX8_sees_37 : decode cX8_sees 37 = .ok (.bipush 10, 2) := by decide +kernel
theorem dX8_sees_39 : decode cX8_sees 39 = .ok (.imul, 1) := by decide +kernel
theorem dX8_sees_40 : decode cX8_sees 40 = .ok (.iload_n 2, 1) := by decide +kernel
theorem dX8_sees_41 : decode cX8_sees 41 = .ok (.iadd, 1) := by decide +kernel
theorem dX8_sees_42 : decode cX8_sees 42 = .ok (.iconst 0, 1) := by decide +kernel
theorem dX8_sees_43 : decode cX8_sees 43 = .ok (.iastore, 1) := by decide +kernel
theorem dX8_sees_44 : decode cX8_sees 44 = .ok (.iload_n 3, 1) := by decide +kernel
theorem dX8_sees_45 : decode cX8_sees 45 = .ok (.ifCond .ne 6, 3) := by decide +kernel
theorem dX8_sees_48 : decode cX8_sees 48 = .ok (.goto 70, 3) := by decide +kernel
theorem dX8_sees_51 : decode cX8_sees 51 = .ok (.aload_n 0, 1) := by decide +kernel
theorem dX8_sees_52 : decode cX8_sees 52 = .ok (.getfield 54, 3) := by decide +kernel
theorem dX8_sees_55 : decode cX8_sees 55 = .ok (.iload_n 2, 1) := by decide +kernel
theorem dX8_sees_56 : decode cX8_sees 56 = .ok (.iload_n 3, 1) := by decide +kernel
theorem dX8_sees_57 : decode cX8_sees 57 = .ok (.iconst 1, 1) := by decide +kernel
theorem dX8_sees_58 : decode cX8_sees 58 = .ok (.if_icmp .ne 7, 3) := by decide +kernel
theorem dX8_sees_61 : decode cX8_sees 61 = .ok (.iconst 1, 1) := by decide +kernel
theorem dX8_sees_62 : decode cX8_sees 62 = .ok (.goto 4, 3) := by decide +kernel
theorem dX8_sees_65 : decode cX8_sees 65 = .ok (.iconst 0, 1) := by decide +kernel
theorem dX8_sees_66 : decode cX8_sees 66 = .ok (.aload_n 0, 1) := by decide +kernel
theorem dX8_sees_67 : decode cX8_sees 67 = .ok (.getfield 30, 3) := by decide +kernel
theorem dX8_sees_70 : decode cX8_sees 70 = .ok (.iload_n 1, 1) := by decide +kernel
theorem dX8_sees_71 : decode cX8_sees 71 = .ok (.baload, 1) := by decide +kernel
theorem dX8_sees_72 : decode cX8_sees 72 = .ok (.if_icmp .ne 21, 3) := by decide +kernel
theorem dX8_sees_75 : decode cX8_sees 75 = .ok (.aload_n 0, 1) := by decide +kernel
theorem dX8_sees_76 : decode cX8_sees 76 = .ok (.bipush 100, 2) := by decide +kernel
theorem dX8_sees_78 : decode cX8_sees 78 = .ok (.aload_n 0, 1) := by decide +kernel
theorem dX8_sees_79 : decode cX8_sees 79 = .ok (.getfield 54, 3) := by decide +kernel
theorem dX8_sees_82 : decode cX8_sees 82 = .ok (.iload_n 2, 1) := by decide +kernel
theorem dX8_sees_83 : decode cX8_sees 83 = .ok (.iaload, 1) := by decide +kernel
theorem dX8_sees_84 : decode cX8_sees 84 = .ok (.bipush 10, 2) := by decide +kernel
theorem dX8_sees_86 : decode cX8_sees 86 = .ok (.iadd, 1) := by decide +kernel
theorem dX8_sees_87 : decode cX8_sees 87 = .ok (.invokevirtual 129, 3) := by decide +kernel
theorem dX8_sees_90 : decode cX8_sees 90 = .ok (.goto 27, 3) := by decide +kernel
theorem dX8_sees_93 : decode cX8_sees 93 = .ok (.aload_n 0, 1) := by decide +kernel
theorem dX8_sees_94 : decode cX8_sees 94 = .ok (.getfield 54, 3) := by decide +kernel
theorem dX8_sees_97 : decode cX8_sees 97 = .ok (.iload_n 2, 1) := by decide +kernel
theorem dX8_sees_98 : decode cX8_sees 98 = .ok (.iaload, 1) := by decide +kernel
theorem dX8_sees_99 : decode cX8_sees 99 = .ok (.bipush 20, 2) := by decide +kernel
theorem dX8_sees_101 : decode cX8_sees 101 = .ok (.if_icmp .ge 7, 3) := by decide +kernel
theorem dX8_sees_104 : decode cX8_sees 104 = .ok (.iconst 0, 1) := by decide +kernel
theorem dX8_sees_105 : decode cX8_sees 105 = .ok (.goto 12, 3) := by decide +kernel
theorem dX8_sees_108 : decode cX8_sees 108 = .ok (.aload_n 0, 1) := by decide +kernel
theorem dX8_sees_109 : decode cX8_sees 109 = .ok (.getfield 54, 3) := by decide +kernel
theorem dX8_sees_112 : decode cX8_sees 112 = .ok (.iload_n 2, 1) := by decide +kernel
theorem dX8_sees_113 : decode cX8_sees 113 = .ok (.iaload, 1) := by decide +kernel
theorem dX8_sees_114 : decode cX8_sees 114 = .ok (.bipush 20, 2) := by decide +kernel
theorem dX8_sees_116 : decode cX8_sees 116 = .ok (.isub, 1) := by decide +kernel
theorem dX8_sees_117 : decode cX8_sees 117 = .ok (.iastore, 1) := by decide +kernel
theorem dX8_sees_118 : decode cX8_sees 118 = .ok (.iinc 2 1, 3) := by decide +kernel
theorem dX8_sees_121 : decode cX8_sees 121 = .ok (.goto (-107), 3) := by decide +kernel
theorem dX8_sees_124 : decode cX8_sees 124 = .ok (.return_, 1) := by decide +kernel
theorem dX8_trust_0 : decode cX8_trust 0 = .ok (.aload_n 0, 1) := by decide +kernel
theorem dX8_trust_1 : decode cX8_trust 1 = .ok (.iload_n 1, 1) := by decide +kernel
theorem dX8_trust_2 : decode cX8_trust 2 = .ok (.iconst 0, 1) := by decide +kernel
theorem dX8_trust_3 : decode cX8_trust 3 = .ok (.bipush 9, 2) := by decide +kernel
theorem dX8_trust_5 : decode cX8_trust 5 = .ok (.invokevirtual 94, 3) := by decide +kernel
theorem dX8_trust_8 : decode cX8_trust 8 = .ok (.ifCond .eq 16, 3) := by decide +kernel
theorem dX8_trust_11 : decode cX8_trust 11 = .ok (.aload_n 0, 1) := by decide +kernel
theorem dX8_trust_12 : decode cX8_trust 12 = .ok (.aload_n 0, 1) := by decide +kernel
theorem dX8_trust_13 : decode cX8_trust 13 = .ok (.getfield 54, 3) := by decide +kernel
theorem dX8_trust_16 : decode cX8_trust 16 = .ok (.iload_n 1, 1) := by decide +kernel
theorem dX8_trust_17 : decode cX8_trust 17 = .ok (.iaload, 1) := by decide +kernel
theorem dX8_trust_18 : decode cX8_trust 18 = .ok (.invokevirtual 114, 3) := by decide +kernel
theorem dX8_trust_21 : decode cX8_trust 21 = .ok (.goto 8, 3) := by decide +kernel
theorem dX8_trust_24 : decode cX8_trust 24 = .ok (.aload_n 0, 1) := by decide +kernel
theorem dX8_trust_25 : decode cX8_trust 25 = .ok (.iconst 1, 1) := by decide +kernel
theorem dX8_trust_26 : decode cX8_trust 26 = .ok (.invokevirtual 110, 3) := by decide +kernel
theorem dX8_trust_29 : decode cX8_trust 29 = .ok (.ireturn, 1) := by decide +kernel
theorem dX8_reports_0 : decode cX8_reports 0 = .ok (.aload_n 0, 1) := by decide +kernel
theorem dX8_reports_1 : decode cX8_reports 1 = .ok (.iload_n 1, 1) := by decide +kernel
theorem dX8_reports_2 : decode cX8_reports 2 = .ok (.invokevirtual 121, 3) := by decide +kernel
theorem dX8_reports_5 : decode cX8_reports 5 = .ok (.ifCond .ne 9, 3) := by decide +kernel
theorem dX8_reports_8 : decode cX8_reports 8 = .ok (.aload_n 0, 1) := by decide +kernel
theorem dX8_reports_9 : decode cX8_reports 9 = .ok (.iconst 1, 1) := by decide +kernel
theorem dX8_reports_10 : decode cX8_reports 10 = .ok (.invokevirtual 110, 3) := by decide +kernel
theorem dX8_reports_13 : decode cX8_reports 13 = .ok (.ireturn, 1) := by decide +kernel
theorem dX8_reports_14 : decode cX8_reports 14 = .ok (.iconst 0, 1) := by decide +kernel
theorem dX8_reports_15 : decode cX8_reports 15 = .ok (.istore_n 2, 1) := by decide +kernel
theorem dX8_reports_16 : decode cX8_reports 16 = .ok (.iconst 0, 1) := by decide +kernel
theorem dX8_reports_17 : decode cX8_reports 17 = .ok (.istore_n 3, 1) := by decide +kernel
theorem dX8_reports_18 : decode cX8_reports 18 = .ok (.iload_n 3, 1) := by decide +kernel
theorem dX8_reports_19 : decode cX8_reports 19 = .ok (.bipush 10, 2) := by decide +kernel
theorem dX8_reports_21 : decode cX8_reports 21 = .ok (.if_icmp .ge 31, 3) := by decide +kernel
theorem dX8_reports_24 : decode cX8_reports 24 = .ok (.iload_n 2, 1) := by decide +kernel
theorem dX8_reports_25 : decode cX8_reports 25 = .ok (.aload_n 0, 1) := by decide +kernel
theorem dX8_reports_26 : decode cX8_reports 26 = .ok (.getfield 51, 3) := by decide +kernel
theorem dX8_reports_29 : decode cX8_reports 29 = .ok (.iload_n 1, 1) := by decide +kernel
theorem dX8_reports_30 : decode cX8_reports 30 = .ok (.bipush 10, 2) := by decide +kernel
theorem dX8_reports_32 : decode cX8_reports 32 = .ok (.imul, 1) := by decide +kernel
theorem dX8_reports_33 : decode cX8_reports 33 = .ok (.iload_n 3, 1) := by decide +kernel
theorem dX8_reports_34 : decode cX8_reports 34 = .ok (.iadd, 1) := by decide +kernel
theorem dX8_reports_35 : decode cX8_reports 35 = .ok (.iaload, 1) := by decide +kernel
theorem dX8_reports_36 : decode cX8_reports 36 = .ok (.ifCond .le 7, 3) := by decide +kernel
theorem dX8_reports_39 : decode cX8_reports 39 = .ok (.iconst 1, 1) := by decide +kernel
theorem dX8_reports_40 : decode cX8_reports 40 = .ok (.goto 4, 3) := by decide +kernel
theorem dX8_reports_43 : decode cX8_reports 43 = .ok (.iconst 0, 1) := by decide +kernel
theorem dX8_reports_44 : decode cX8_reports 44 = .ok (.iadd, 1) := by decide +kernel
theorem dX8_reports_45 : decode cX8_reports 45 = .ok (.istore_n 2, 1) := by decide +kernel
theorem dX8_reports_46 : decode cX8_reports 46 = .ok (.iinc 3 1, 3) := by decide +kernel
theorem dX8_reports_49 : decode cX8_reports 49 = .ok (.goto (-31), 3) := by decide +kernel
theorem dX8_reports_52 : decode cX8_reports 52 = .ok (.aload_n 0, 1) := by decide +kernel
theorem dX8_reports_53 : decode cX8_reports 53 = .ok (.iload_n 2, 1) := by decide +kernel
theorem dX8_reports_54 : decode cX8_reports 54 = .ok (.invokevirtual 114, 3) := by decide +kernel
theorem dX8_reports_57 : decode cX8_reports 57 = .ok (.ireturn, 1) := by decide +kernel
theorem dX8_adds_0 : decode cX8_adds 0 = .ok (.aload_n 0, 1) := by decide +kernel
theorem dX8_adds_1 : decode cX8_adds 1 = .ok (.getfield 57, 3) := by decide +kernel
theorem dX8_adds_4 : decode cX8_adds 4 = .ok (.aload_n 0, 1) := by decide +kernel
theorem dX8_adds_5 : decode cX8_adds 5 = .ok (.getfield 104, 3) := by decide +kernel
theorem dX8_adds_8 : decode cX8_adds 8 = .ok (.iload_n 1, 1) := by decide +kernel
theorem dX8_adds_9 : decode cX8_adds 9 = .ok (.castore, 1) := by decide +kernel
theorem dX8_adds_10 : decode cX8_adds 10 = .ok (.aload_n 0, 1) := by decide +kernel
theorem dX8_adds_11 : decode cX8_adds 11 = .ok (.getfield 61, 3) := by decide +kernel
theorem dX8_adds_14 : decode cX8_adds 14 = .ok (.aload_n 0, 1) := by decide +kernel
theorem dX8_adds_15 : decode cX8_adds 15 = .ok (.getfield 104, 3) := by decide +kernel
theorem dX8_adds_18 : decode cX8_adds 18 = .ok (.iload_n 2, 1) := by decide +kernel
theorem dX8_adds_19 : decode cX8_adds 19 = .ok (.iastore, 1) := by decide +kernel
theorem dX8_adds_20 : decode cX8_adds 20 = .ok (.aload_n 0, 1) := by decide +kernel
theorem dX8_adds_21 : decode cX8_adds 21 = .ok (.getfield 64, 3) := by decide +kernel
theorem dX8_adds_24 : decode cX8_adds 24 = .ok (.aload_n 0, 1) := by decide +kernel
theorem dX8_adds_25 : decode cX8_adds 25 = .ok (.getfield 104, 3) := by decide +kernel
theorem dX8_adds_28 : decode cX8_adds 28 = .ok (.iload_n 3, 1) := by decide +kernel
theorem dX8_adds_29 : decode cX8_adds 29 = .ok (.iastore, 1) := by decide +kernel
theorem dX8_adds_30 : decode cX8_adds 30 = .ok (.aload_n 0, 1) := by decide +kernel
theorem dX8_adds_31 : decode cX8_adds 31 = .ok (.getfield 67, 3) := by decide +kernel
theorem dX8_adds_34 : decode cX8_adds 34 = .ok (.aload_n 0, 1) := by decide +kernel
theorem dX8_adds_35 : decode cX8_adds 35 = .ok (.getfield 104, 3) := by decide +kernel
theorem dX8_adds_38 : decode cX8_adds 38 = .ok (.iconst (-1), 1) := by decide +kernel
theorem dX8_adds_39 : decode cX8_adds 39 = .ok (.iastore, 1) := by decide +kernel
theorem dX8_adds_40 : decode cX8_adds 40 = .ok (.aload_n 0, 1) := by decide +kernel
theorem dX8_adds_41 : decode cX8_adds 41 = .ok (.dup, 1) := by decide +kernel
theorem dX8_adds_42 : decode cX8_adds 42 = .ok (.getfield 104, 3) := by decide +kernel
theorem dX8_adds_45 : decode cX8_adds 45 = .ok (.iconst 1, 1) := by decide +kernel
theorem dX8_adds_46 : decode cX8_adds 46 = .ok (.iadd, 1) := by decide +kernel
theorem dX8_adds_47 : decode cX8_adds 47 = .ok (.putfield 104, 3) := by decide +kernel
theorem dX8_adds_50 : decode cX8_adds 50 = .ok (.aload_n 0, 1) := by decide +kernel
theorem dX8_adds_51 : decode cX8_adds 51 = .ok (.aload_n 0, 1) := by decide +kernel
theorem dX8_adds_52 : decode cX8_adds 52 = .ok (.getfield 104, 3) := by decide +kernel
theorem dX8_adds_55 : decode cX8_adds 55 = .ok (.iconst 1, 1) := by decide +kernel
theorem dX8_adds_56 : decode cX8_adds 56 = .ok (.isub, 1) := by decide +kernel
theorem dX8_adds_57 : decode cX8_adds 57 = .ok (.invokevirtual 114, 3) := by decide +kernel
theorem dX8_adds_60 : decode cX8_adds 60 = .ok (.ireturn, 1) := by decide +kernel
theorem dX8_addTask_0 : decode cX8_addTask 0 = .ok (.iload_n 1, 1) := by decide +kernel
theorem dX8_addTask_1 : decode cX8_addTask 1 = .ok (.bipush 109, 2) := by decide +kernel
theorem dX8_addTask_3 : decode cX8_addTask 3 = .ok (.if_icmp .eq 9, 3) := by decide +kernel
theorem dX8_addTask_6 : decode cX8_addTask 6 = .ok (.iload_n 1, 1) := by decide +kernel
theorem dX8_addTask_7 : decode cX8_addTask 7 = .ok (.bipush 114, 2) := by decide +kernel
theorem dX8_addTask_9 : decode cX8_addTask 9 = .ok (.if_icmp .ne 15, 3) := by decide +kernel
theorem dX8_addTask_12 : decode cX8_addTask 12 = .ok (.aload_n 0, 1) := by decide +kernel
theorem dX8_addTask_13 : decode cX8_addTask 13 = .ok (.iload_n 3, 1) := by decide +kernel
theorem dX8_addTask_14 : decode cX8_addTask 14 = .ok (.iconst 0, 1) := by decide +kernel
theorem dX8_addTask_15 : decode cX8_addTask 15 = .ok (.sipush 999, 3) := by decide +kernel
theorem dX8_addTask_18 : decode cX8_addTask 18 = .ok (.invokevirtual 94, 3) := by decide +kernel
theorem dX8_addTask_21 : decode cX8_addTask 21 = .ok (.ifCond .ne 9, 3) := by decide +kernel
theorem dX8_addTask_24 : decode cX8_addTask 24 = .ok (.aload_n 0, 1) := by decide +kernel
theorem dX8_addTask_25 : decode cX8_addTask 25 = .ok (.iconst 1, 1) := by decide +kernel
theorem dX8_addTask_26 : decode cX8_addTask 26 = .ok (.invokevirtual 110, 3) := by decide +kernel
theorem dX8_addTask_29 : decode cX8_addTask 29 = .ok (.ireturn, 1) := by decide +kernel
theorem dX8_addTask_30 : decode cX8_addTask 30 = .ok (.iload_n 1, 1) := by decide +kernel
theorem dX8_addTask_31 : decode cX8_addTask 31 = .ok (.bipush 109, 2) := by decide +kernel
theorem dX8_addTask_33 : decode cX8_addTask 33 = .ok (.if_icmp .ne 14, 3) := by decide +kernel
theorem dX8_addTask_36 : decode cX8_addTask 36 = .ok (.aload_n 0, 1) := by decide +kernel
theorem dX8_addTask_37 : decode cX8_addTask 37 = .ok (.iload_n 2, 1) := by decide +kernel
theorem dX8_addTask_38 : decode cX8_addTask 38 = .ok (.invokevirtual 121, 3) := by decide +kernel
theorem dX8_addTask_41 : decode cX8_addTask 41 = .ok (.ifCond .ne 20, 3) := by decide +kernel
theorem dX8_addTask_44 : decode cX8_addTask 44 = .ok (.goto 11, 3) := by decide +kernel
theorem dX8_addTask_47 : decode cX8_addTask 47 = .ok (.aload_n 0, 1) := by decide +kernel
theorem dX8_addTask_48 : decode cX8_addTask 48 = .ok (.iload_n 2, 1) := by decide +kernel
theorem dX8_addTask_49 : decode cX8_addTask 49 = .ok (.invokevirtual 158, 3) := by decide +kernel
theorem dX8_addTask_52 : decode cX8_addTask 52 = .ok (.ifCond .ne 9, 3) := by decide +kernel
theorem dX8_addTask_55 : decode cX8_addTask 55 = .ok (.aload_n 0, 1) := by decide +kernel
theorem dX8_addTask_56 : decode cX8_addTask 56 = .ok (.iconst 2, 1) := by decide +kernel
theorem dX8_addTask_57 : decode cX8_addTask 57 = .ok (.invokevirtual 110, 3) := by decide +kernel
theorem dX8_addTask_60 : decode cX8_addTask 60 = .ok (.ireturn, 1) := by decide +kernel
theorem dX8_addTask_61 : decode cX8_addTask 61 = .ok (.aload_n 0, 1) := by decide +kernel
theorem dX8_addTask_62 : decode cX8_addTask 62 = .ok (.getfield 104, 3) := by decide +kernel
theorem dX8_addTask_65 : decode cX8_addTask 65 = .ok (.bipush 40, 2) := by decide +kernel
theorem dX8_addTask_67 : decode cX8_addTask 67 = .ok (.if_icmp .ne 11, 3) := by decide +kernel
theorem dX8_addTask_70 : decode cX8_addTask 70 = .ok (.aload_n 0, 1) := by decide +kernel
theorem dX8_addTask_71 : decode cX8_addTask 71 = .ok (.iconst 3, 1) := by decide +kernel
theorem dX8_addTask_72 : decode cX8_addTask 72 = .ok (.invokevirtual 110, 3) := by decide +kernel
theorem dX8_addTask_75 : decode cX8_addTask 75 = .ok (.goto 10, 3) := by decide +kernel
theorem dX8_addTask_78 : decode cX8_addTask 78 = .ok (.aload_n 0, 1) := by decide +kernel
theorem dX8_addTask_79 : decode cX8_addTask 79 = .ok (.iload_n 1, 1) := by decide +kernel
theorem dX8_addTask_80 : decode cX8_addTask 80 = .ok (.iload_n 2, 1) := by decide +kernel
theorem dX8_addTask_81 : decode cX8_addTask 81 = .ok (.iload_n 3, 1) := by decide +kernel
theorem dX8_addTask_82 : decode cX8_addTask 82 = .ok (.invokevirtual 165, 3) := by decide +kernel
theorem dX8_addTask_85 : decode cX8_addTask 85 = .ok (.ireturn, 1) := by decide +kernel
theorem dX8_hasOpen_0 : decode cX8_hasOpen 0 = .ok (.iconst 0, 1) := by decide +kernel
theorem dX8_hasOpen_1 : decode cX8_hasOpen 1 = .ok (.istore_n 3, 1) := by decide +kernel
theorem dX8_hasOpen_2 : decode cX8_hasOpen 2 = .ok (.iconst 0, 1) := by decide +kernel
theorem dX8_hasOpen_3 : decode cX8_hasOpen 3 = .ok (.istore 4, 2) := by decide +kernel
theorem dX8_hasOpen_5 : decode cX8_hasOpen 5 = .ok (.iload 4, 2) := by decide +kernel
theorem dX8_hasOpen_7 : decode cX8_hasOpen 7 = .ok (.aload_n 0, 1) := by decide +kernel
theorem dX8_hasOpen_8 : decode cX8_hasOpen 8 = .ok (.getfield 104, 3) := by decide +kernel
theorem dX8_hasOpen_11 : decode cX8_hasOpen 11 = .ok (.if_icmp .ge 52, 3) := by decide +kernel
theorem dX8_hasOpen_14 : decode cX8_hasOpen 14 = .ok (.iload_n 3, 1) := by decide +kernel
theorem dX8_hasOpen_15 : decode cX8_hasOpen 15 = .ok (.ifCond .ne 36, 3) := by decide +kernel
theorem dX8_hasOpen_18 : decode cX8_hasOpen 18 = .ok (.aload_n 0, 1) := by decide +kernel
theorem dX8_hasOpen_19 : decode cX8_hasOpen 19 = .ok (.getfield 57, 3) := by decide +kernel
theorem dX8_hasOpen_22 : decode cX8_hasOpen 22 = .ok (.iload 4, 2) := by decide +kernel
theorem dX8_hasOpen_24 : decode cX8_hasOpen 24 = .ok (.caload, 1) := by decide +kernel
theorem dX8_hasOpen_25 : decode cX8_hasOpen 25 = .ok (.iload_n 1, 1) := by decide +kernel
theorem dX8_hasOpen_26 : decode cX8_hasOpen 26 = .ok (.if_icmp .ne 29, 3) := by decide +kernel
theorem dX8_hasOpen_29 : decode cX8_hasOpen 29 = .ok (.aload_n 0, 1) := by decide +kernel
theorem dX8_hasOpen_30 : decode cX8_hasOpen 30 = .ok (.getfield 61, 3) := by decide +kernel
theorem dX8_hasOpen_33 : decode cX8_hasOpen 33 = .ok (.iload 4, 2) := by decide +kernel
theorem dX8_hasOpen_35 : decode cX8_hasOpen 35 = .ok (.iaload, 1) := by decide +kernel
theorem dX8_hasOpen_36 : decode cX8_hasOpen 36 = .ok (.iload_n 2, 1) := by decide +kernel
theorem dX8_hasOpen_37 : decode cX8_hasOpen 37 = .ok (.if_icmp .ne 18, 3) := by decide +kernel
theorem dX8_hasOpen_40 : decode cX8_hasOpen 40 = .ok (.aload_n 0, 1) := by decide +kernel
theorem dX8_hasOpen_41 : decode cX8_hasOpen 41 = .ok (.getfield 67, 3) := by decide +kernel
theorem dX8_hasOpen_44 : decode cX8_hasOpen 44 = .ok (.iload 4, 2) := by decide +kernel
theorem dX8_hasOpen_46 : decode cX8_hasOpen 46 = .ok (.iaload, 1) := by decide +kernel
theorem dX8_hasOpen_47 : decode cX8_hasOpen 47 = .ok (.iconst (-1), 1) := by decide +kernel
theorem dX8_hasOpen_48 : decode cX8_hasOpen 48 = .ok (.if_icmp .ne 7, 3) := by decide +kernel
theorem dX8_hasOpen_51 : decode cX8_hasOpen 51 = .ok (.iconst 1, 1) := by decide +kernel
theorem dX8_hasOpen_52 : decode cX8_hasOpen 52 = .ok (.goto 4, 3) := by decide +kernel
theorem dX8_hasOpen_55 : decode cX8_hasOpen 55 = .ok (.iconst 0, 1) := by decide +kernel
theorem dX8_hasOpen_56 : decode cX8_hasOpen 56 = .ok (.istore_n 3, 1) := by decide +kernel
theorem dX8_hasOpen_57 : decode cX8_hasOpen 57 = .ok (.iinc 4 1, 3) := by decide +kernel
theorem dX8_hasOpen_60 : decode cX8_hasOpen 60 = .ok (.goto (-55), 3) := by decide +kernel
theorem dX8_hasOpen_63 : decode cX8_hasOpen 63 = .ok (.iload_n 3, 1) := by decide +kernel
theorem dX8_hasOpen_64 : decode cX8_hasOpen 64 = .ok (.ireturn, 1) := by decide +kernel
theorem dX8_wants_0 : decode cX8_wants 0 = .ok (.aload_n 0, 1) := by decide +kernel
theorem dX8_wants_1 : decode cX8_wants 1 = .ok (.iload_n 1, 1) := by decide +kernel
theorem dX8_wants_2 : decode cX8_wants 2 = .ok (.iconst 0, 1) := by decide +kernel
theorem dX8_wants_3 : decode cX8_wants 3 = .ok (.invokevirtual 161, 3) := by decide +kernel
theorem dX8_wants_6 : decode cX8_wants 6 = .ok (.ifCond .le 7, 3) := by decide +kernel
theorem dX8_wants_9 : decode cX8_wants 9 = .ok (.iconst 1, 1) := by decide +kernel
theorem dX8_wants_10 : decode cX8_wants 10 = .ok (.goto 4, 3) := by decide +kernel
theorem dX8_wants_13 : decode cX8_wants 13 = .ok (.iconst 0, 1) := by decide +kernel
theorem dX8_wants_14 : decode cX8_wants 14 = .ok (.istore_n 2, 1) := by decide +kernel
theorem dX8_wants_15 : decode cX8_wants 15 = .ok (.aload_n 0, 1) := by decide +kernel
theorem dX8_wants_16 : decode cX8_wants 16 = .ok (.getfield 48, 3) := by decide +kernel
theorem dX8_wants_19 : decode cX8_wants 19 = .ok (.iload_n 1, 1) := by decide +kernel
theorem dX8_wants_20 : decode cX8_wants 20 = .ok (.baload, 1) := by decide +kernel
theorem dX8_wants_21 : decode cX8_wants 21 = .ok (.iload_n 2, 1) := by decide +kernel
theorem dX8_wants_22 : decode cX8_wants 22 = .ok (.if_icmp .eq 31, 3) := by decide +kernel
theorem dX8_wants_25 : decode cX8_wants 25 = .ok (.aload_n 0, 1) := by decide +kernel
theorem dX8_wants_26 : decode cX8_wants 26 = .ok (.aload_n 0, 1) := by decide +kernel
theorem dX8_wants_27 : decode cX8_wants 27 = .ok (.getfield 48, 3) := by decide +kernel
theorem dX8_wants_30 : decode cX8_wants 30 = .ok (.iload_n 1, 1) := by decide +kernel
theorem dX8_wants_31 : decode cX8_wants 31 = .ok (.baload, 1) := by decide +kernel
theorem dX8_wants_32 : decode cX8_wants 32 = .ok (.ifCond .eq 8, 3) := by decide +kernel
theorem dX8_wants_35 : decode cX8_wants 35 = .ok (.bipush 117, 2) := by decide +kernel
theorem dX8_wants_37 : decode cX8_wants 37 = .ok (.goto 5, 3) := by decide +kernel
theorem dX8_wants_40 : decode cX8_wants 40 = .ok (.bipush 99, 2) := by decide +kernel
theorem dX8_wants_42 : decode cX8_wants 42 = .ok (.iload_n 1, 1) := by decide +kernel
theorem dX8_wants_43 : decode cX8_wants 43 = .ok (.invokevirtual 169, 3) := by decide +kernel
theorem dX8_wants_46 : decode cX8_wants 46 = .ok (.ifCond .ne 7, 3) := by decide +kernel
theorem dX8_wants_49 : decode cX8_wants 49 = .ok (.iconst 1, 1) := by decide +kernel
theorem dX8_wants_50 : decode cX8_wants 50 = .ok (.goto 4, 3) := by decide +kernel
theorem dX8_wants_53 : decode cX8_wants 53 = .ok (.iconst 0, 1) := by decide +kernel
theorem dX8_wants_54 : decode cX8_wants 54 = .ok (.ireturn, 1) := by decide +kernel
theorem dX8_plan_0 : decode cX8_plan 0 = .ok (.iconst 0, 1) := by decide +kernel
theorem dX8_plan_1 : decode cX8_plan 1 = .ok (.istore_n 1, 1) := by decide +kernel
theorem dX8_plan_2 : decode cX8_plan 2 = .ok (.aload_n 0, 1) := by decide +kernel
theorem dX8_plan_3 : decode cX8_plan 3 = .ok (.getfield 104, 3) := by decide +kernel
theorem dX8_plan_6 : decode cX8_plan 6 = .ok (.bipush 40, 2) := by decide +kernel
theorem dX8_plan_8 : decode cX8_plan 8 = .ok (.if_icmp .ge 95, 3) := by decide +kernel
theorem dX8_plan_11 : decode cX8_plan 11 = .ok (.iconst (-1), 1) := by decide +kernel
theorem dX8_plan_12 : decode cX8_plan 12 = .ok (.istore_n 2, 1) := by decide +kernel
theorem dX8_plan_13 : decode cX8_plan 13 = .ok (.iconst (-1), 1) := by decide +kernel
theorem dX8_plan_14 : decode cX8_plan 14 = .ok (.istore_n 3, 1) := by decide +kernel
theorem dX8_plan_15 : decode cX8_plan 15 = .ok (.iconst 0, 1) := by decide +kernel
theorem dX8_plan_16 : decode cX8_plan 16 = .ok (.istore 4, 2) := by decide +kernel
theorem dX8_plan_18 : decode cX8_plan 18 = .ok (.iload 4, 2) := by decide +kernel
theorem dX8_plan_20 : decode cX8_plan 20 = .ok (.aload_n 0, 1) := by decide +kernel
theorem dX8_plan_21 : decode cX8_plan 21 = .ok (.getfield 101, 3) := by decide +kernel
theorem dX8_plan_24 : decode cX8_plan 24 = .ok (.if_icmp .ge 42, 3) := by decide +kernel
theorem dX8_plan_27 : decode cX8_plan 27 = .ok (.aload_n 0, 1) := by decide +kernel
theorem dX8_plan_28 : decode cX8_plan 28 = .ok (.iload 4, 2) := by decide +kernel
theorem dX8_plan_30 : decode cX8_plan 30 = .ok (.iconst 0, 1) := by decide +kernel
theorem dX8_plan_31 : decode cX8_plan 31 = .ok (.invokevirtual 161, 3) := by decide +kernel
theorem dX8_plan_34 : decode cX8_plan 34 = .ok (.istore 5, 2) := by decide +kernel
theorem dX8_plan_36 : decode cX8_plan 36 = .ok (.iload 5, 2) := by decide +kernel
theorem dX8_plan_38 : decode cX8_plan 38 = .ok (.iload_n 3, 1) := by decide +kernel
theorem dX8_plan_39 : decode cX8_plan 39 = .ok (.if_icmp .le 21, 3) := by decide +kernel
theorem dX8_plan_42 : decode cX8_plan 42 = .ok (.aload_n 0, 1) := by decide +kernel
theorem dX8_plan_43 : decode cX8_plan 43 = .ok (.iload 4, 2) := by decide +kernel
theorem dX8_plan_45 : decode cX8_plan 45 = .ok (.invokevirtual 173, 3) := by decide +kernel
theorem dX8_plan_48 : decode cX8_plan 48 = .ok (.ifCond .ne 6, 3) := by decide +kernel
theorem dX8_plan_51 : decode cX8_plan 51 = .ok (.goto 9, 3) := by decide +kernel
theorem dX8_plan_54 : decode cX8_plan 54 = .ok (.iload 5, 2) := by decide +kernel
theorem dX8_plan_56 : decode cX8_plan 56 = .ok (.istore_n 3, 1) := by decide +kernel
theorem dX8_plan_57 : decode cX8_plan 57 = .ok (.iload 4, 2) := by decide +kernel
theorem dX8_plan_59 : decode cX8_plan 59 = .ok (.istore_n 2, 1) := by decide +kernel
theorem dX8_plan_60 : decode cX8_plan 60 = .ok (.iinc 4 1, 3) := by decide +kernel
theorem dX8_plan_63 : decode cX8_plan 63 = .ok (.goto (-45), 3) := by decide +kernel
theorem dX8_plan_66 : decode cX8_plan 66 = .ok (.iload_n 2, 1) := by decide +kernel
theorem dX8_plan_67 : decode cX8_plan 67 = .ok (.iconst (-1), 1) := by decide +kernel
theorem dX8_plan_68 : decode cX8_plan 68 = .ok (.if_icmp .ne 6, 3) := by decide +kernel
theorem dX8_plan_71 : decode cX8_plan 71 = .ok (.goto 32, 3) := by decide +kernel
theorem dX8_plan_74 : decode cX8_plan 74 = .ok (.aload_n 0, 1) := by decide +kernel
theorem dX8_plan_75 : decode cX8_plan 75 = .ok (.aload_n 0, 1) := by decide +kernel
theorem dX8_plan_76 : decode cX8_plan 76 = .ok (.getfield 48, 3) := by decide +kernel
theorem dX8_plan_79 : decode cX8_plan 79 = .ok (.iload_n 2, 1) := by decide +kernel
theorem dX8_plan_80 : decode cX8_plan 80 = .ok (.baload, 1) := by decide +kernel
theorem dX8_plan_81 : decode cX8_plan 81 = .ok (.ifCond .eq 8, 3) := by decide +kernel
theorem dX8_plan_84 : decode cX8_plan 84 = .ok (.bipush 117, 2) := by decide +kernel
theorem dX8_plan_86 : decode cX8_plan 86 = .ok (.goto 5, 3) := by decide +kernel
theorem dX8_plan_89 : decode cX8_plan 89 = .ok (.bipush 99, 2) := by decide +kernel
theorem dX8_plan_91 : decode cX8_plan 91 = .ok (.iload_n 2, 1) := by decide +kernel
theorem dX8_plan_92 : decode cX8_plan 92 = .ok (.iload_n 3, 1) := by decide +kernel
theorem dX8_plan_93 : decode cX8_plan 93 = .ok (.invokevirtual 165, 3) := by decide +kernel
theorem dX8_plan_96 : decode cX8_plan 96 = .ok (.pop, 1) := by decide +kernel
theorem dX8_plan_97 : decode cX8_plan 97 = .ok (.iinc 1 1, 3) := by decide +kernel
theorem dX8_plan_100 : decode cX8_plan 100 = .ok (.goto (-98), 3) := by decide +kernel
theorem dX8_plan_103 : decode cX8_plan 103 = .ok (.aload_n 0, 1) := by decide +kernel
theorem dX8_plan_104 : decode cX8_plan 104 = .ok (.iload_n 1, 1) := by decide +kernel
theorem dX8_plan_105 : decode cX8_plan 105 = .ok (.invokevirtual 114, 3) := by decide +kernel
theorem dX8_plan_108 : decode cX8_plan 108 = .ok (.ireturn, 1) := by decide +kernel
theorem dX8_kindOf_0 : decode cX8_kindOf 0 = .ok (.aload_n 0, 1) := by decide +kernel
theorem dX8_kindOf_1 : decode cX8_kindOf 1 = .ok (.aload_n 0, 1) := by decide +kernel
theorem dX8_kindOf_2 : decode cX8_kindOf 2 = .ok (.iload_n 1, 1) := by decide +kernel
theorem dX8_kindOf_3 : decode cX8_kindOf 3 = .ok (.invokevirtual 176, 3) := by decide +kernel
theorem dX8_kindOf_6 : decode cX8_kindOf 6 = .ok (.ifCond .eq 7, 3) := by decide +kernel
theorem dX8_kindOf_9 : decode cX8_kindOf 9 = .ok (.iconst 0, 1) := by decide +kernel
theorem dX8_kindOf_10 : decode cX8_kindOf 10 = .ok (.goto 4, 3) := by decide +kernel
theorem dX8_kindOf_13 : decode cX8_kindOf 13 = .ok (.iconst 1, 1) := by decide +kernel
theorem dX8_kindOf_14 : decode cX8_kindOf 14 = .ok (.putfield 88, 3) := by decide +kernel
theorem dX8_kindOf_17 : decode cX8_kindOf 17 = .ok (.aload_n 0, 1) := by decide +kernel
theorem dX8_kindOf_18 : decode cX8_kindOf 18 = .ok (.getfield 88, 3) := by decide +kernel
theorem dX8_kindOf_21 : decode cX8_kindOf 21 = .ok (.ifCond .ne 12, 3) := by decide +kernel
theorem dX8_kindOf_24 : decode cX8_kindOf 24 = .ok (.aload_n 0, 1) := by decide +kernel
theorem dX8_kindOf_25 : decode cX8_kindOf 25 = .ok (.getfield 57, 3) := by decide +kernel
theorem dX8_kindOf_28 : decode cX8_kindOf 28 = .ok (.iload_n 1, 1) := by decide +kernel
theorem dX8_kindOf_29 : decode cX8_kindOf 29 = .ok (.caload, 1) := by decide +kernel
theorem dX8_kindOf_30 : decode cX8_kindOf 30 = .ok (.goto 5, 3) := by decide +kernel
theorem dX8_kindOf_33 : decode cX8_kindOf 33 = .ok (.bipush 32, 2) := by decide +kernel
theorem dX8_kindOf_35 : decode cX8_kindOf 35 = .ok (.ireturn, 1) := by decide +kernel
theorem dX8_numberOf_0 : decode cX8_numberOf 0 = .ok (.aload_n 0, 1) := by decide +kernel
theorem dX8_numberOf_1 : decode cX8_numberOf 1 = .ok (.iload_n 1, 1) := by decide +kernel
theorem dX8_numberOf_2 : decode cX8_numberOf 2 = .ok (.invokevirtual 176, 3) := by decide +kernel
theorem dX8_numberOf_5 : decode cX8_numberOf 5 = .ok (.ifCond .eq 16, 3) := by decide +kernel
theorem dX8_numberOf_8 : decode cX8_numberOf 8 = .ok (.aload_n 0, 1) := by decide +kernel
theorem dX8_numberOf_9 : decode cX8_numberOf 9 = .ok (.aload_n 0, 1) := by decide +kernel
theorem dX8_numberOf_10 : decode cX8_numberOf 10 = .ok (.getfield 61, 3) := by decide +kernel
theorem dX8_numberOf_13 : decode cX8_numberOf 13 = .ok (.iload_n 1, 1) := by decide +kernel
theorem dX8_numberOf_14 : decode cX8_numberOf 14 = .ok (.iaload, 1) := by decide +kernel
theorem dX8_numberOf_15 : decode cX8_numberOf 15 = .ok (.invokevirtual 114, 3) := by decide +kernel
theorem dX8_numberOf_18 : decode cX8_numberOf 18 = .ok (.goto 8, 3) := by decide +kernel
theorem dX8_numberOf_21 : decode cX8_numberOf 21 = .ok (.aload_n 0, 1) := by decide +kernel
theorem dX8_numberOf_22 : decode cX8_numberOf 22 = .ok (.iconst 1, 1) := by decide +kernel
theorem dX8_numberOf_23 : decode cX8_numberOf 23 = .ok (.invokevirtual 110, 3) := by decide +kernel
theorem dX8_numberOf_26 : decode cX8_numberOf 26 = .ok (.ireturn, 1) := by decide +kernel
theorem dX8_doneBy_0 : decode cX8_doneBy 0 = .ok (.aload_n 0, 1) := by decide +kernel
theorem dX8_doneBy_1 : decode cX8_doneBy 1 = .ok (.iload_n 1, 1) := by decide +kernel
theorem dX8_doneBy_2 : decode cX8_doneBy 2 = .ok (.invokevirtual 176, 3) := by decide +kernel
theorem dX8_doneBy_5 : decode cX8_doneBy 5 = .ok (.ifCond .ne 11, 3) := by decide +kernel
theorem dX8_doneBy_8 : decode cX8_doneBy 8 = .ok (.aload_n 0, 1) := by decide +kernel
theorem dX8_doneBy_9 : decode cX8_doneBy 9 = .ok (.iconst 1, 1) := by decide +kernel
theorem dX8_doneBy_10 : decode cX8_doneBy 10 = .ok (.invokevirtual 110, 3) := by decide +kernel
theorem dX8_doneBy_13 : decode cX8_doneBy 13 = .ok (.goto 31, 3) := by decide +kernel
theorem dX8_doneBy_16 : decode cX8_doneBy 16 = .ok (.aload_n 0, 1) := by decide +kernel
theorem dX8_doneBy_17 : decode cX8_doneBy 17 = .ok (.getfield 67, 3) := by decide +kernel
theorem dX8_doneBy_20 : decode cX8_doneBy 20 = .ok (.iload_n 1, 1) := by decide +kernel
theorem dX8_doneBy_21 : decode cX8_doneBy 21 = .ok (.iaload, 1) := by decide +kernel
theorem dX8_doneBy_22 : decode cX8_doneBy 22 = .ok (.iconst (-1), 1) := by decide +kernel
theorem dX8_doneBy_23 : decode cX8_doneBy 23 = .ok (.if_icmp .ne 11, 3) := by decide +kernel
theorem dX8_doneBy_26 : decode cX8_doneBy 26 = .ok (.aload_n 0, 1) := by decide +kernel
theorem dX8_doneBy_27 : decode cX8_doneBy 27 = .ok (.iconst 2, 1) := by decide +kernel
theorem dX8_doneBy_28 : decode cX8_doneBy 28 = .ok (.invokevirtual 110, 3) := by decide +kernel
theorem dX8_doneBy_31 : decode cX8_doneBy 31 = .ok (.goto 13, 3) := by decide +kernel
theorem dX8_doneBy_34 : decode cX8_doneBy 34 = .ok (.aload_n 0, 1) := by decide +kernel
theorem dX8_doneBy_35 : decode cX8_doneBy 35 = .ok (.aload_n 0, 1) := by decide +kernel
theorem dX8_doneBy_36 : decode cX8_doneBy 36 = .ok (.getfield 67, 3) := by decide +kernel
theorem dX8_doneBy_39 : decode cX8_doneBy 39 = .ok (.iload_n 1, 1) := by decide +kernel
theorem dX8_doneBy_40 : decode cX8_doneBy 40 = .ok (.iaload, 1) := by decide +kernel
theorem dX8_doneBy_41 : decode cX8_doneBy 41 = .ok (.invokevirtual 114, 3) := by decide +kernel
theorem dX8_doneBy_44 : decode cX8_doneBy 44 = .ok (.ireturn, 1) := by decide +kernel
theorem dX8_openTasks_0 : decode cX8_openTasks 0 = .ok (.iconst 0, 1) := by decide +kernel
theorem dX8_openTasks_1 : decode cX8_openTasks 1 = .ok (.istore_n 1, 1) := by decide +kernel
theorem dX8_openTasks_2 : decode cX8_openTasks 2 = .ok (.iconst 0, 1) := by decide +kernel
theorem dX8_openTasks_3 : decode cX8_openTasks 3 = .ok (.istore_n 2, 1) := by decide +kernel
theorem dX8_openTasks_4 : decode cX8_openTasks 4 = .ok (.iload_n 2, 1) := by decide +kernel
theorem dX8_openTasks_5 : decode cX8_openTasks 5 = .ok (.aload_n 0, 1) := by decide +kernel
theorem dX8_openTasks_6 : decode cX8_openTasks 6 = .ok (.getfield 104, 3) := by decide +kernel
theorem dX8_openTasks_9 : decode cX8_openTasks 9 = .ok (.if_icmp .ge 27, 3) := by decide +kernel
theorem dX8_openTasks_12 : decode cX8_openTasks 12 = .ok (.iload_n 1, 1) := by decide +kernel
theorem dX8_openTasks_13 : decode cX8_openTasks 13 = .ok (.aload_n 0, 1) := by decide +kernel
theorem dX8_openTasks_14 : decode cX8_openTasks 14 = .ok (.getfield 67, 3) := by decide +kernel
theorem dX8_openTasks_17 : decode cX8_openTasks 17 = .ok (.iload_n 2, 1) := by decide +kernel
theorem dX8_openTasks_18 : decode cX8_openTasks 18 = .ok (.iaload, 1) := by decide +kernel
theorem dX8_openTasks_19 : decode cX8_openTasks 19 = .ok (.iconst (-1), 1) := by decide +kernel
theorem dX8_openTasks_20 : decode cX8_openTasks 20 = .ok (.if_icmp .ne 7, 3) := by decide +kernel
theorem dX8_openTasks_23 : decode cX8_openTasks 23 = .ok (.iconst 1, 1) := by decide +kernel
theorem dX8_openTasks_24 : decode cX8_openTasks 24 = .ok (.goto 4, 3) := by decide +kernel
theorem dX8_openTasks_27 : decode cX8_openTasks 27 = .ok (.iconst 0, 1) := by decide +kernel
theorem dX8_openTasks_28 : decode cX8_openTasks 28 = .ok (.iadd, 1) := by decide +kernel
theorem dX8_openTasks_29 : decode cX8_openTasks 29 = .ok (.istore_n 1, 1) := by decide +kernel
theorem dX8_openTasks_30 : decode cX8_openTasks 30 = .ok (.iinc 2 1, 3) := by decide +kernel
theorem dX8_openTasks_33 : decode cX8_openTasks 33 = .ok (.goto (-29), 3) := by decide +kernel
theorem dX8_openTasks_36 : decode cX8_openTasks 36 = .ok (.aload_n 0, 1) := by decide +kernel
theorem dX8_openTasks_37 : decode cX8_openTasks 37 = .ok (.iload_n 1, 1) := by decide +kernel
theorem dX8_openTasks_38 : decode cX8_openTasks 38 = .ok (.invokevirtual 114, 3) := by decide +kernel
theorem dX8_openTasks_41 : decode cX8_openTasks 41 = .ok (.ireturn, 1) := by decide +kernel
theorem dX8_addRanger_0 : decode cX8_addRanger 0 = .ok (.aload_n 0, 1) := by decide +kernel
theorem dX8_addRanger_1 : decode cX8_addRanger 1 = .ok (.iload_n 1, 1) := by decide +kernel
theorem dX8_addRanger_2 : decode cX8_addRanger 2 = .ok (.invokevirtual 117, 3) := by decide +kernel
theorem dX8_addRanger_5 : decode cX8_addRanger 5 = .ok (.ifCond .ne 9, 3) := by decide +kernel
theorem dX8_addRanger_8 : decode cX8_addRanger 8 = .ok (.aload_n 0, 1) := by decide +kernel
theorem dX8_addRanger_9 : decode cX8_addRanger 9 = .ok (.iconst 1, 1) := by decide +kernel
theorem dX8_addRanger_10 : decode cX8_addRanger 10 = .ok (.invokevirtual 110, 3) := by decide +kernel
theorem dX8_addRanger_13 : decode cX8_addRanger 13 = .ok (.ireturn, 1) := by decide +kernel
theorem dX8_addRanger_14 : decode cX8_addRanger 14 = .ok (.aload_n 0, 1) := by decide +kernel
theorem dX8_addRanger_15 : decode cX8_addRanger 15 = .ok (.iload_n 2, 1) := by decide +kernel
theorem dX8_addRanger_16 : decode cX8_addRanger 16 = .ok (.iconst 0, 1) := by decide +kernel
theorem dX8_addRanger_17 : decode cX8_addRanger 17 = .ok (.iconst 3, 1) := by decide +kernel
theorem dX8_addRanger_18 : decode cX8_addRanger 18 = .ok (.invokevirtual 94, 3) := by decide +kernel
theorem dX8_addRanger_21 : decode cX8_addRanger 21 = .ok (.ifCond .ne 9, 3) := by decide +kernel
theorem dX8_addRanger_24 : decode cX8_addRanger 24 = .ok (.aload_n 0, 1) := by decide +kernel
theorem dX8_addRanger_25 : decode cX8_addRanger 25 = .ok (.iconst 2, 1) := by decide +kernel
theorem dX8_addRanger_26 : decode cX8_addRanger 26 = .ok (.invokevirtual 110, 3) := by decide +kernel
theorem dX8_addRanger_29 : decode cX8_addRanger 29 = .ok (.ireturn, 1) := by decide +kernel
theorem dX8_addRanger_30 : decode cX8_addRanger 30 = .ok (.aload_n 0, 1) := by decide +kernel
theorem dX8_addRanger_31 : decode cX8_addRanger 31 = .ok (.getfield 107, 3) := by decide +kernel
theorem dX8_addRanger_34 : decode cX8_addRanger 34 = .ok (.iconst 4, 1) := by decide +kernel
theorem dX8_addRanger_35 : decode cX8_addRanger 35 = .ok (.if_icmp .ne 9, 3) := by decide +kernel
theorem dX8_addRanger_38 : decode cX8_addRanger 38 = .ok (.aload_n 0, 1) := by decide +kernel
theorem dX8_addRanger_39 : decode cX8_addRanger 39 = .ok (.iconst 3, 1) := by decide +kernel
theorem dX8_addRanger_40 : decode cX8_addRanger 40 = .ok (.invokevirtual 110, 3) := by decide +kernel
theorem dX8_addRanger_43 : decode cX8_addRanger 43 = .ok (.ireturn, 1) := by decide +kernel
theorem dX8_addRanger_44 : decode cX8_addRanger 44 = .ok (.aload_n 0, 1) := by decide +kernel
theorem dX8_addRanger_45 : decode cX8_addRanger 45 = .ok (.getfield 70, 3) := by decide +kernel
theorem dX8_addRanger_48 : decode cX8_addRanger 48 = .ok (.aload_n 0, 1) := by decide +kernel
theorem dX8_addRanger_49 : decode cX8_addRanger 49 = .ok (.getfield 107, 3) := by decide +kernel
theorem dX8_addRanger_52 : decode cX8_addRanger 52 = .ok (.iload_n 1, 1) := by decide +kernel
theorem dX8_addRanger_53 : decode cX8_addRanger 53 = .ok (.iastore, 1) := by decide +kernel
theorem dX8_addRanger_54 : decode cX8_addRanger 54 = .ok (.aload_n 0, 1) := by decide +kernel
theorem dX8_addRanger_55 : decode cX8_addRanger 55 = .ok (.getfield 73, 3) := by decide +kernel
theorem dX8_addRanger_58 : decode cX8_addRanger 58 = .ok (.aload_n 0, 1) := by decide +kernel
theorem dX8_addRanger_59 : decode cX8_addRanger 59 = .ok (.getfield 107, 3) := by decide +kernel
theorem dX8_addRanger_62 : decode cX8_addRanger 62 = .ok (.iload_n 2, 1) := by decide +kernel
theorem dX8_addRanger_63 : decode cX8_addRanger 63 = .ok (.iastore, 1) := by decide +kernel
theorem dX8_addRanger_64 : decode cX8_addRanger 64 = .ok (.aload_n 0, 1) := by decide +kernel
theorem dX8_addRanger_65 : decode cX8_addRanger 65 = .ok (.dup, 1) := by decide +kernel
theorem dX8_addRanger_66 : decode cX8_addRanger 66 = .ok (.getfield 107, 3) := by decide +kernel
theorem dX8_addRanger_69 : decode cX8_addRanger 69 = .ok (.iconst 1, 1) := by decide +kernel
theorem dX8_addRanger_70 : decode cX8_addRanger 70 = .ok (.iadd, 1) := by decide +kernel
theorem dX8_addRanger_71 : decode cX8_addRanger 71 = .ok (.putfield 107, 3) := by decide +kernel
theorem dX8_addRanger_74 : decode cX8_addRanger 74 = .ok (.aload_n 0, 1) := by decide +kernel
theorem dX8_addRanger_75 : decode cX8_addRanger 75 = .ok (.aload_n 0, 1) := by decide +kernel
theorem dX8_addRanger_76 : decode cX8_addRanger 76 = .ok (.getfield 107, 3) := by decide +kernel
theorem dX8_addRanger_79 : decode cX8_addRanger 79 = .ok (.iconst 1, 1) := by decide +kernel
theorem dX8_addRanger_80 : decode cX8_addRanger 80 = .ok (.isub, 1) := by decide +kernel
theorem dX8_addRanger_81 : decode cX8_addRanger 81 = .ok (.invokevirtual 114, 3) := by decide +kernel
theorem dX8_addRanger_84 : decode cX8_addRanger 84 = .ok (.ireturn, 1) := by decide +kernel
theorem dX8_forkOf_0 : decode cX8_forkOf 0 = .ok (.aload_n 0, 1) := by decide +kernel
theorem dX8_forkOf_1 : decode cX8_forkOf 1 = .ok (.iload_n 1, 1) := by decide +kernel
theorem dX8_forkOf_2 : decode cX8_forkOf 2 = .ok (.invokevirtual 179, 3) := by decide +kernel
theorem dX8_forkOf_5 : decode cX8_forkOf 5 = .ok (.ifCond .eq 16, 3) := by decide +kernel
theorem dX8_forkOf_8 : decode cX8_forkOf 8 = .ok (.aload_n 0, 1) := by decide +kernel
theorem dX8_forkOf_9 : decode cX8_forkOf 9 = .ok (.aload_n 0, 1) := by decide +kernel
theorem dX8_forkOf_10 : decode cX8_forkOf 10 = .ok (.getfield 70, 3) := by decide +kernel
theorem dX8_forkOf_13 : decode cX8_forkOf 13 = .ok (.iload_n 1, 1) := by decide +kernel
theorem dX8_forkOf_14 : decode cX8_forkOf 14 = .ok (.iaload, 1) := by decide +kernel
theorem dX8_forkOf_15 : decode cX8_forkOf 15 = .ok (.invokevirtual 114, 3) := by decide +kernel
theorem dX8_forkOf_18 : decode cX8_forkOf 18 = .ok (.goto 8, 3) := by decide +kernel
theorem dX8_forkOf_21 : decode cX8_forkOf 21 = .ok (.aload_n 0, 1) := by decide +kernel
theorem dX8_forkOf_22 : decode cX8_forkOf 22 = .ok (.iconst 1, 1) := by decide +kernel
theorem dX8_forkOf_23 : decode cX8_forkOf 23 = .ok (.invokevirtual 110, 3) := by decide +kernel
theorem dX8_forkOf_26 : decode cX8_forkOf 26 = .ok (.ireturn, 1) := by decide +kernel
theorem dX8_worked_0 : decode cX8_worked 0 = .ok (.aload_n 0, 1) := by decide +kernel
theorem dX8_worked_1 : decode cX8_worked 1 = .ok (.iload_n 1, 1) := by decide +kernel
theorem dX8_worked_2 : decode cX8_worked 2 = .ok (.invokevirtual 179, 3) := by decide +kernel
theorem dX8_worked_5 : decode cX8_worked 5 = .ok (.ifCond .eq 16, 3) := by decide +kernel
theorem dX8_worked_8 : decode cX8_worked 8 = .ok (.aload_n 0, 1) := by decide +kernel
theorem dX8_worked_9 : decode cX8_worked 9 = .ok (.aload_n 0, 1) := by decide +kernel
theorem dX8_worked_10 : decode cX8_worked 10 = .ok (.getfield 76, 3) := by decide +kernel
theorem dX8_worked_13 : decode cX8_worked 13 = .ok (.iload_n 1, 1) := by decide +kernel
theorem dX8_worked_14 : decode cX8_worked 14 = .ok (.iaload, 1) := by decide +kernel
theorem dX8_worked_15 : decode cX8_worked 15 = .ok (.invokevirtual 114, 3) := by decide +kernel
theorem dX8_worked_18 : decode cX8_worked 18 = .ok (.goto 8, 3) := by decide +kernel
theorem dX8_worked_21 : decode cX8_worked 21 = .ok (.aload_n 0, 1) := by decide +kernel
theorem dX8_worked_22 : decode cX8_worked 22 = .ok (.iconst 1, 1) := by decide +kernel
theorem dX8_worked_23 : decode cX8_worked 23 = .ok (.invokevirtual 110, 3) := by decide +kernel
theorem dX8_worked_26 : decode cX8_worked 26 = .ok (.ireturn, 1) := by decide +kernel
theorem dX8_placeOf_0 : decode cX8_placeOf 0 = .ok (.aload_n 0, 1) := by decide +kernel
theorem dX8_placeOf_1 : decode cX8_placeOf 1 = .ok (.getfield 57, 3) := by decide +kernel
theorem dX8_placeOf_4 : decode cX8_placeOf 4 = .ok (.iload_n 1, 1) := by decide +kernel
theorem dX8_placeOf_5 : decode cX8_placeOf 5 = .ok (.caload, 1) := by decide +kernel
theorem dX8_placeOf_6 : decode cX8_placeOf 6 = .ok (.bipush 109, 2) := by decide +kernel
theorem dX8_placeOf_8 : decode cX8_placeOf 8 = .ok (.if_icmp .ne 17, 3) := by decide +kernel
theorem dX8_placeOf_11 : decode cX8_placeOf 11 = .ok (.aload_n 0, 1) := by decide +kernel
theorem dX8_placeOf_12 : decode cX8_placeOf 12 = .ok (.getfield 17, 3) := by decide +kernel
theorem dX8_placeOf_15 : decode cX8_placeOf 15 = .ok (.aload_n 0, 1) := by decide +kernel
theorem dX8_placeOf_16 : decode cX8_placeOf 16 = .ok (.getfield 61, 3) := by decide +kernel
theorem dX8_placeOf_19 : decode cX8_placeOf 19 = .ok (.iload_n 1, 1) := by decide +kernel
theorem dX8_placeOf_20 : decode cX8_placeOf 20 = .ok (.iaload, 1) := by decide +kernel
theorem dX8_placeOf_21 : decode cX8_placeOf 21 = .ok (.iaload, 1) := by decide +kernel
theorem dX8_placeOf_22 : decode cX8_placeOf 22 = .ok (.goto 14, 3) := by decide +kernel
theorem dX8_placeOf_25 : decode cX8_placeOf 25 = .ok (.aload_n 0, 1) := by decide +kernel
theorem dX8_placeOf_26 : decode cX8_placeOf 26 = .ok (.getfield 36, 3) := by decide +kernel
theorem dX8_placeOf_29 : decode cX8_placeOf 29 = .ok (.aload_n 0, 1) := by decide +kernel
theorem dX8_placeOf_30 : decode cX8_placeOf 30 = .ok (.getfield 61, 3) := by decide +kernel
theorem dX8_placeOf_33 : decode cX8_placeOf 33 = .ok (.iload_n 1, 1) := by decide +kernel
theorem dX8_placeOf_34 : decode cX8_placeOf 34 = .ok (.iaload, 1) := by decide +kernel
theorem dX8_placeOf_35 : decode cX8_placeOf 35 = .ok (.iaload, 1) := by decide +kernel
theorem dX8_placeOf_36 : decode cX8_placeOf 36 = .ok (.ireturn, 1) := by decide +kernel
theorem dX8_timeOf_0 : decode cX8_timeOf 0 = .ok (.aload_n 0, 1) := by decide +kernel
theorem dX8_timeOf_1 : decode cX8_timeOf 1 = .ok (.getfield 57, 3) := by decide +kernel
theorem dX8_timeOf_4 : decode cX8_timeOf 4 = .ok (.iload_n 1, 1) := by decide +kernel
theorem dX8_timeOf_5 : decode cX8_timeOf 5 = .ok (.caload, 1) := by decide +kernel
theorem dX8_timeOf_6 : decode cX8_timeOf 6 = .ok (.bipush 109, 2) := by decide +kernel
theorem dX8_timeOf_8 : decode cX8_timeOf 8 = .ok (.if_icmp .ne 9, 3) := by decide +kernel
theorem dX8_timeOf_11 : decode cX8_timeOf 11 = .ok (.sipush 200, 3) := by decide +kernel
theorem dX8_timeOf_14 : decode cX8_timeOf 14 = .ok (.goto 21, 3) := by decide +kernel
theorem dX8_timeOf_17 : decode cX8_timeOf 17 = .ok (.aload_n 0, 1) := by decide +kernel
theorem dX8_timeOf_18 : decode cX8_timeOf 18 = .ok (.getfield 57, 3) := by decide +kernel
theorem dX8_timeOf_21 : decode cX8_timeOf 21 = .ok (.iload_n 1, 1) := by decide +kernel
theorem dX8_timeOf_22 : decode cX8_timeOf 22 = .ok (.caload, 1) := by decide +kernel
theorem dX8_timeOf_23 : decode cX8_timeOf 23 = .ok (.bipush 114, 2) := by decide +kernel
theorem dX8_timeOf_25 : decode cX8_timeOf 25 = .ok (.if_icmp .ne 8, 3) := by decide +kernel
theorem dX8_timeOf_28 : decode cX8_timeOf 28 = .ok (.bipush 30, 2) := by decide +kernel
theorem dX8_timeOf_30 : decode cX8_timeOf 30 = .ok (.goto 5, 3) := by decide +kernel
theorem dX8_timeOf_33 : decode cX8_timeOf 33 = .ok (.bipush 10, 2) := by decide +kernel
theorem dX8_timeOf_35 : decode cX8_timeOf 35 = .ok (.ireturn, 1) := by decide +kernel
theorem dX8_canBeDone_0 : decode cX8_canBeDone 0 = .ok (.aload_n 0, 1) := by decide +kernel
theorem dX8_canBeDone_1 : decode cX8_canBeDone 1 = .ok (.getfield 61, 3) := by decide +kernel
theorem dX8_canBeDone_4 : decode cX8_canBeDone 4 = .ok (.iload_n 1, 1) := by decide +kernel
theorem dX8_canBeDone_5 : decode cX8_canBeDone 5 = .ok (.iaload, 1) := by decide +kernel
theorem dX8_canBeDone_6 : decode cX8_canBeDone 6 = .ok (.istore_n 2, 1) := by decide +kernel
theorem dX8_canBeDone_7 : decode cX8_canBeDone 7 = .ok (.aload_n 0, 1) := by decide +kernel
theorem dX8_canBeDone_8 : decode cX8_canBeDone 8 = .ok (.getfield 57, 3) := by decide +kernel
theorem dX8_canBeDone_11 : decode cX8_canBeDone 11 = .ok (.iload_n 1, 1) := by decide +kernel
theorem dX8_canBeDone_12 : decode cX8_canBeDone 12 = .ok (.caload, 1) := by decide +kernel
theorem dX8_canBeDone_13 : decode cX8_canBeDone 13 = .ok (.lookupswitch 89 #[(99, 35), (114, 57), (117, 50)], 35) := by decide +kernel
theorem dX8_canBeDone_48 : decode cX8_canBeDone 48 = .ok (.aload_n 0, 1) := by decide +kernel
theorem dX8_canBeDone_49 : decode cX8_canBeDone 49 = .ok (.getfield 48, 3) := by decide +kernel
theorem dX8_canBeDone_52 : decode cX8_canBeDone 52 = .ok (.iload_n 2, 1) := by decide +kernel
theorem dX8_canBeDone_53 : decode cX8_canBeDone 53 = .ok (.baload, 1) := by decide +kernel
theorem dX8_canBeDone_54 : decode cX8_canBeDone 54 = .ok (.ifCond .ne 7, 3) := by decide +kernel
theorem dX8_canBeDone_57 : decode cX8_canBeDone 57 = .ok (.iconst 1, 1) := by decide +kernel
theorem dX8_canBeDone_58 : decode cX8_canBeDone 58 = .ok (.goto 4, 3) := by decide +kernel
theorem dX8_canBeDone_61 : decode cX8_canBeDone 61 = .ok (.iconst 0, 1) := by decide +kernel
theorem dX8_canBeDone_62 : decode cX8_canBeDone 62 = .ok (.ireturn, 1) := by decide +kernel
theorem dX8_canBeDone_63 : decode cX8_canBeDone 63 = .ok (.aload_n 0, 1) := by decide +kernel
theorem dX8_canBeDone_64 : decode cX8_canBeDone 64 = .ok (.getfield 48, 3) := by decide +kernel
theorem dX8_canBeDone_67 : decode cX8_canBeDone 67 = .ok (.iload_n 2, 1) := by decide +kernel
theorem dX8_canBeDone_68 : decode cX8_canBeDone 68 = .ok (.baload, 1) := by decide +kernel
theorem dX8_canBeDone_69 : decode cX8_canBeDone 69 = .ok (.ireturn, 1) := by decide +kernel
theorem dX8_canBeDone_70 : decode cX8_canBeDone 70 = .ok (.aload_n 0, 1) := by decide +kernel
theorem dX8_canBeDone_71 : decode cX8_canBeDone 71 = .ok (.getfield 7, 3) := by decide +kernel
theorem dX8_canBeDone_74 : decode cX8_canBeDone 74 = .ok (.ifCond .le 26, 3) := by decide +kernel
theorem dX8_canBeDone_77 : decode cX8_canBeDone 77 = .ok (.aload_n 0, 1) := by decide +kernel
theorem dX8_canBeDone_78 : decode cX8_canBeDone 78 = .ok (.aload_n 0, 1) := by decide +kernel
theorem dX8_canBeDone_79 : decode cX8_canBeDone 79 = .ok (.getfield 36, 3) := by decide +kernel
theorem dX8_canBeDone_82 : decode cX8_canBeDone 82 = .ok (.iload_n 2, 1) := by decide +kernel
theorem dX8_canBeDone_83 : decode cX8_canBeDone 83 = .ok (.iaload, 1) := by decide +kernel
theorem dX8_canBeDone_84 : decode cX8_canBeDone 84 = .ok (.aload_n 0, 1) := by decide +kernel
theorem dX8_canBeDone_85 : decode cX8_canBeDone 85 = .ok (.getfield 39, 3) := by decide +kernel
theorem dX8_canBeDone_88 : decode cX8_canBeDone 88 = .ok (.iload_n 2, 1) := by decide +kernel
theorem dX8_canBeDone_89 : decode cX8_canBeDone 89 = .ok (.iaload, 1) := by decide +kernel
theorem dX8_canBeDone_90 : decode cX8_canBeDone 90 = .ok (.invokevirtual 150, 3) := by decide +kernel
theorem dX8_canBeDone_93 : decode cX8_canBeDone 93 = .ok (.ifCond .eq 7, 3) := by decide +kernel
theorem dX8_canBeDone_96 : decode cX8_canBeDone 96 = .ok (.iconst 1, 1) := by decide +kernel
theorem dX8_canBeDone_97 : decode cX8_canBeDone 97 = .ok (.goto 4, 3) := by decide +kernel
theorem dX8_canBeDone_100 : decode cX8_canBeDone 100 = .ok (.iconst 0, 1) := by decide +kernel
theorem dX8_canBeDone_101 : decode cX8_canBeDone 101 = .ok (.ireturn, 1) := by decide +kernel
theorem dX8_canBeDone_102 : decode cX8_canBeDone 102 = .ok (.aload_n 0, 1) := by decide +kernel
theorem dX8_canBeDone_103 : decode cX8_canBeDone 103 = .ok (.getfield 33, 3) := by decide +kernel
theorem dX8_canBeDone_106 : decode cX8_canBeDone 106 = .ok (.iload_n 2, 1) := by decide +kernel
theorem dX8_canBeDone_107 : decode cX8_canBeDone 107 = .ok (.baload, 1) := by decide +kernel
theorem dX8_canBeDone_108 : decode cX8_canBeDone 108 = .ok (.ireturn, 1) := by decide +kernel
theorem dX8_hasTool_0 : decode cX8_hasTool 0 = .ok (.aload_n 0, 1) := by decide +kernel
theorem dX8_hasTool_1 : decode cX8_hasTool 1 = .ok (.getfield 57, 3) := by decide +kernel
theorem dX8_hasTool_4 : decode cX8_hasTool 4 = .ok (.iload_n 2, 1) := by decide +kernel
theorem dX8_hasTool_5 : decode cX8_hasTool 5 = .ok (.caload, 1) := by decide +kernel
theorem dX8_hasTool_6 : decode cX8_hasTool 6 = .ok (.bipush 109, 2) := by decide +kernel
theorem dX8_hasTool_8 : decode cX8_hasTool 8 = .ok (.if_icmp .ne 21, 3) := by decide +kernel
theorem dX8_hasTool_11 : decode cX8_hasTool 11 = .ok (.aload_n 0, 1) := by decide +kernel
theorem dX8_hasTool_12 : decode cX8_hasTool 12 = .ok (.getfield 73, 3) := by decide +kernel
theorem dX8_hasTool_15 : decode cX8_hasTool 15 = .ok (.iload_n 1, 1) := by decide +kernel
theorem dX8_hasTool_16 : decode cX8_hasTool 16 = .ok (.iaload, 1) := by decide +kernel
theorem dX8_hasTool_17 : decode cX8_hasTool 17 = .ok (.iconst 2, 1) := by decide +kernel
theorem dX8_hasTool_18 : decode cX8_hasTool 18 = .ok (.if_icmp .lt 7, 3) := by decide +kernel
theorem dX8_hasTool_21 : decode cX8_hasTool 21 = .ok (.iconst 1, 1) := by decide +kernel
theorem dX8_hasTool_22 : decode cX8_hasTool 22 = .ok (.goto 35, 3) := by decide +kernel
theorem dX8_hasTool_25 : decode cX8_hasTool 25 = .ok (.iconst 0, 1) := by decide +kernel
theorem dX8_hasTool_26 : decode cX8_hasTool 26 = .ok (.goto 31, 3) := by decide +kernel
theorem dX8_hasTool_29 : decode cX8_hasTool 29 = .ok (.aload_n 0, 1) := by decide +kernel
theorem dX8_hasTool_30 : decode cX8_hasTool 30 = .ok (.getfield 57, 3) := by decide +kernel
theorem dX8_hasTool_33 : decode cX8_hasTool 33 = .ok (.iload_n 2, 1) := by decide +kernel
theorem dX8_hasTool_34 : decode cX8_hasTool 34 = .ok (.caload, 1) := by decide +kernel
theorem dX8_hasTool_35 : decode cX8_hasTool 35 = .ok (.bipush 114, 2) := by decide +kernel
theorem dX8_hasTool_37 : decode cX8_hasTool 37 = .ok (.if_icmp .ne 15, 3) := by decide +kernel
theorem dX8_hasTool_40 : decode cX8_hasTool 40 = .ok (.aload_n 0, 1) := by decide +kernel
theorem dX8_hasTool_41 : decode cX8_hasTool 41 = .ok (.getfield 73, 3) := by decide +kernel
theorem dX8_hasTool_44 : decode cX8_hasTool 44 = .ok (.iload_n 1, 1) := by decide +kernel
theorem dX8_hasTool_45 : decode cX8_hasTool 45 = .ok (.iaload, 1) := by decide +kernel
theorem dX8_hasTool_46 : decode cX8_hasTool 46 = .ok (.iconst 2, 1) := by decide +kernel
theorem dX8_hasTool_47 : decode cX8_hasTool 47 = .ok (.irem, 1) := by decide +kernel
theorem dX8_hasTool_48 : decode cX8_hasTool 48 = .ok (.iconst 1, 1) := by decide +kernel
theorem dX8_hasTool_49 : decode cX8_hasTool 49 = .ok (.if_icmp .ne 7, 3) := by decide +kernel
theorem dX8_hasTool_52 : decode cX8_hasTool 52 = .ok (.iconst 1, 1) := by decide +kernel
theorem dX8_hasTool_53 : decode cX8_hasTool 53 = .ok (.goto 4, 3) := by decide +kernel
theorem dX8_hasTool_56 : decode cX8_hasTool 56 = .ok (.iconst 0, 1) := by decide +kernel
theorem dX8_hasTool_57 : decode cX8_hasTool 57 = .ok (.ireturn, 1) := by decide +kernel
theorem dX8_isInTime_0 : decode cX8_isInTime 0 = .ok (.aload_n 0, 1) := by decide +kernel
theorem dX8_isInTime_1 : decode cX8_isInTime 1 = .ok (.aload_n 0, 1) := by decide +kernel
theorem dX8_isInTime_2 : decode cX8_isInTime 2 = .ok (.getfield 70, 3) := by decide +kernel
theorem dX8_isInTime_5 : decode cX8_isInTime 5 = .ok (.iload_n 1, 1) := by decide +kernel
theorem dX8_isInTime_6 : decode cX8_isInTime 6 = .ok (.iaload, 1) := by decide +kernel
theorem dX8_isInTime_7 : decode cX8_isInTime 7 = .ok (.aload_n 0, 1) := by decide +kernel
theorem dX8_isInTime_8 : decode cX8_isInTime 8 = .ok (.iload_n 2, 1) := by decide +kernel
theorem dX8_isInTime_9 : decode cX8_isInTime 9 = .ok (.invokevirtual 182, 3) := by decide +kernel
theorem dX8_isInTime_12 : decode cX8_isInTime 12 = .ok (.iconst 0, 1) := by decide +kernel
theorem dX8_isInTime_13 : decode cX8_isInTime 13 = .ok (.invokevirtual 143, 3) := by decide +kernel
theorem dX8_isInTime_16 : decode cX8_isInTime 16 = .ok (.aload_n 0, 1) := by decide +kernel
theorem dX8_isInTime_17 : decode cX8_isInTime 17 = .ok (.iload_n 2, 1) := by decide +kernel
theorem dX8_isInTime_18 : decode cX8_isInTime 18 = .ok (.invokevirtual 185, 3) := by decide +kernel
theorem dX8_isInTime_21 : decode cX8_isInTime 21 = .ok (.iadd, 1) := by decide +kernel
theorem dX8_isInTime_22 : decode cX8_isInTime 22 = .ok (.aload_n 0, 1) := by decide +kernel
theorem dX8_isInTime_23 : decode cX8_isInTime 23 = .ok (.getfield 188, 3) := by decide +kernel
theorem dX8_isInTime_26 : decode cX8_isInTime 26 = .ok (.if_icmp .gt 7, 3) := by decide +kernel
theorem dX8_isInTime_29 : decode cX8_isInTime 29 = .ok (.iconst 1, 1) := by decide +kernel
theorem dX8_isInTime_30 : decode cX8_isInTime 30 = .ok (.goto 4, 3) := by decide +kernel
theorem dX8_isInTime_33 : decode cX8_isInTime 33 = .ok (.iconst 0, 1) := by decide +kernel
theorem dX8_isInTime_34 : decode cX8_isInTime 34 = .ok (.ireturn, 1) := by decide +kernel
theorem dX8_chosen_0 : decode cX8_chosen 0 = .ok (.iconst (-1), 1) := by decide +kernel
theorem dX8_chosen_1 : decode cX8_chosen 1 = .ok (.istore_n 2, 1) := by decide +kernel
theorem dX8_chosen_2 : decode cX8_chosen 2 = .ok (.iconst 0, 1) := by decide +kernel
theorem dX8_chosen_3 : decode cX8_chosen 3 = .ok (.istore_n 3, 1) := by decide +kernel
theorem dX8_chosen_4 : decode cX8_chosen 4 = .ok (.iload_n 3, 1) := by decide +kernel
theorem dX8_chosen_5 : decode cX8_chosen 5 = .ok (.aload_n 0, 1) := by decide +kernel
theorem dX8_chosen_6 : decode cX8_chosen 6 = .ok (.getfield 104, 3) := by decide +kernel
theorem dX8_chosen_9 : decode cX8_chosen 9 = .ok (.if_icmp .ge 70, 3) := by decide +kernel
theorem dX8_chosen_12 : decode cX8_chosen 12 = .ok (.aload_n 0, 1) := by decide +kernel
theorem dX8_chosen_13 : decode cX8_chosen 13 = .ok (.getfield 67, 3) := by decide +kernel
theorem dX8_chosen_16 : decode cX8_chosen 16 = .ok (.iload_n 3, 1) := by decide +kernel
theorem dX8_chosen_17 : decode cX8_chosen 17 = .ok (.iaload, 1) := by decide +kernel
theorem dX8_chosen_18 : decode cX8_chosen 18 = .ok (.iconst (-1), 1) := by decide +kernel
theorem dX8_chosen_19 : decode cX8_chosen 19 = .ok (.if_icmp .ne 54, 3) := by decide +kernel
theorem dX8_chosen_22 : decode cX8_chosen 22 = .ok (.iload_n 2, 1) := by decide +kernel
theorem dX8_chosen_23 : decode cX8_chosen 23 = .ok (.iconst (-1), 1) := by decide +kernel
theorem dX8_chosen_24 : decode cX8_chosen 24 = .ok (.if_icmp .eq 18, 3) := by decide +kernel
theorem dX8_chosen_27 : decode cX8_chosen 27 = .ok (.aload_n 0, 1) := by decide +kernel
theorem dX8_chosen_28 : decode cX8_chosen 28 = .ok (.getfield 64, 3) := by decide +kernel
theorem dX8_chosen_31 : decode cX8_chosen 31 = .ok (.iload_n 3, 1) := by decide +kernel
theorem dX8_chosen_32 : decode cX8_chosen 32 = .ok (.iaload, 1) := by decide +kernel
theorem dX8_chosen_33 : decode cX8_chosen 33 = .ok (.aload_n 0, 1) := by decide +kernel
theorem dX8_chosen_34 : decode cX8_chosen 34 = .ok (.getfield 64, 3) := by decide +kernel
theorem dX8_chosen_37 : decode cX8_chosen 37 = .ok (.iload_n 2, 1) := by decide +kernel
theorem dX8_chosen_38 : decode cX8_chosen 38 = .ok (.iaload, 1) := by decide +kernel
theorem dX8_chosen_39 : decode cX8_chosen 39 = .ok (.if_icmp .le 34, 3) := by decide +kernel
theorem dX8_chosen_42 : decode cX8_chosen 42 = .ok (.aload_n 0, 1) := by decide +kernel
theorem dX8_chosen_43 : decode cX8_chosen 43 = .ok (.iload_n 1, 1) := by decide +kernel
theorem dX8_chosen_44 : decode cX8_chosen 44 = .ok (.iload_n 3, 1) := by decide +kernel
theorem dX8_chosen_45 : decode cX8_chosen 45 = .ok (.invokevirtual 191, 3) := by decide +kernel
theorem dX8_chosen_48 : decode cX8_chosen 48 = .ok (.ifCond .eq 25, 3) := by decide +kernel
theorem dX8_chosen_51 : decode cX8_chosen 51 = .ok (.aload_n 0, 1) := by decide +kernel
theorem dX8_chosen_52 : decode cX8_chosen 52 = .ok (.iload_n 3, 1) := by decide +kernel
theorem dX8_chosen_53 : decode cX8_chosen 53 = .ok (.invokevirtual 194, 3) := by decide +kernel
theorem dX8_chosen_56 : decode cX8_chosen 56 = .ok (.ifCond .eq 17, 3) := by decide +kernel
theorem dX8_chosen_59 : decode cX8_chosen 59 = .ok (.aload_n 0, 1) := by decide +kernel
theorem dX8_chosen_60 : decode cX8_chosen 60 = .ok (.iload_n 1, 1) := by decide +kernel
theorem dX8_chosen_61 : decode cX8_chosen 61 = .ok (.iload_n 3, 1) := by decide +kernel
theorem dX8_chosen_62 : decode cX8_chosen 62 = .ok (.invokevirtual 197, 3) := by decide +kernel
theorem dX8_chosen_65 : decode cX8_chosen 65 = .ok (.ifCond .ne 6, 3) := by decide +kernel
theorem dX8_chosen_68 : decode cX8_chosen 68 = .ok (.goto 5, 3) := by decide +kernel
theorem dX8_chosen_71 : decode cX8_chosen 71 = .ok (.iload_n 3, 1) := by decide +kernel
theorem dX8_chosen_72 : decode cX8_chosen 72 = .ok (.istore_n 2, 1) := by decide +kernel
theorem dX8_chosen_73 : decode cX8_chosen 73 = .ok (.iinc 3 1, 3) := by decide +kernel
theorem dX8_chosen_76 : decode cX8_chosen 76 = .ok (.goto (-72), 3) := by decide +kernel
theorem dX8_chosen_79 : decode cX8_chosen 79 = .ok (.iload_n 2, 1) := by decide +kernel
theorem dX8_chosen_80 : decode cX8_chosen 80 = .ok (.ireturn, 1) := by decide +kernel
theorem dX8_comes_0 : decode cX8_comes 0 = .ok (.aload_n 0, 1) := by decide +kernel
theorem dX8_comes_1 : decode cX8_comes 1 = .ok (.iload_n 2, 1) := by decide +kernel
theorem dX8_comes_2 : decode cX8_comes 2 = .ok (.invokevirtual 182, 3) := by decide +kernel
theorem dX8_comes_5 : decode cX8_comes 5 = .ok (.istore_n 3, 1) := by decide +kernel
theorem dX8_comes_6 : decode cX8_comes 6 = .ok (.aload_n 0, 1) := by decide +kernel
theorem dX8_comes_7 : decode cX8_comes 7 = .ok (.getfield 70, 3) := by decide +kernel
theorem dX8_comes_10 : decode cX8_comes 10 = .ok (.iload_n 1, 1) := by decide +kernel
theorem dX8_comes_11 : decode cX8_comes 11 = .ok (.iaload, 1) := by decide +kernel
theorem dX8_comes_12 : decode cX8_comes 12 = .ok (.iload_n 3, 1) := by decide +kernel
theorem dX8_comes_13 : decode cX8_comes 13 = .ok (.if_icmp .eq 109, 3) := by decide +kernel
theorem dX8_comes_16 : decode cX8_comes 16 = .ok (.aload_n 0, 1) := by decide +kernel
theorem dX8_comes_17 : decode cX8_comes 17 = .ok (.aload_n 0, 1) := by decide +kernel
theorem dX8_comes_18 : decode cX8_comes 18 = .ok (.getfield 70, 3) := by decide +kernel
theorem dX8_comes_21 : decode cX8_comes 21 = .ok (.iload_n 1, 1) := by decide +kernel
theorem dX8_comes_22 : decode cX8_comes 22 = .ok (.iaload, 1) := by decide +kernel
theorem dX8_comes_23 : decode cX8_comes 23 = .ok (.iload_n 3, 1) := by decide +kernel
theorem dX8_comes_24 : decode cX8_comes 24 = .ok (.invokevirtual 147, 3) := by decide +kernel
theorem dX8_comes_27 : decode cX8_comes 27 = .ok (.istore 4, 2) := by decide +kernel
theorem dX8_comes_29 : decode cX8_comes 29 = .ok (.iload 4, 2) := by decide +kernel
theorem dX8_comes_31 : decode cX8_comes 31 = .ok (.iconst (-1), 1) := by decide +kernel
theorem dX8_comes_32 : decode cX8_comes 32 = .ok (.if_icmp .eq 12, 3) := by decide +kernel
theorem dX8_comes_35 : decode cX8_comes 35 = .ok (.aload_n 0, 1) := by decide +kernel
theorem dX8_comes_36 : decode cX8_comes 36 = .ok (.iload_n 1, 1) := by decide +kernel
theorem dX8_comes_37 : decode cX8_comes 37 = .ok (.iload_n 2, 1) := by decide +kernel
theorem dX8_comes_38 : decode cX8_comes 38 = .ok (.invokevirtual 197, 3) := by decide +kernel
theorem dX8_comes_41 : decode cX8_comes 41 = .ok (.ifCond .ne 5, 3) := by decide +kernel
theorem dX8_comes_44 : decode cX8_comes 44 = .ok (.iconst 0, 1) := by decide +kernel
theorem dX8_comes_45 : decode cX8_comes 45 = .ok (.ireturn, 1) := by decide +kernel
theorem dX8_comes_46 : decode cX8_comes 46 = .ok (.aload_n 0, 1) := by decide +kernel
theorem dX8_comes_47 : decode cX8_comes 47 = .ok (.iload 4, 2) := by decide +kernel
theorem dX8_comes_49 : decode cX8_comes 49 = .ok (.invokevirtual 200, 3) := by decide +kernel
theorem dX8_comes_52 : decode cX8_comes 52 = .ok (.aload_n 0, 1) := by decide +kernel
theorem dX8_comes_53 : decode cX8_comes 53 = .ok (.getfield 30, 3) := by decide +kernel
theorem dX8_comes_56 : decode cX8_comes 56 = .ok (.iload 4, 2) := by decide +kernel
theorem dX8_comes_58 : decode cX8_comes 58 = .ok (.baload, 1) := by decide +kernel
theorem dX8_comes_59 : decode cX8_comes 59 = .ok (.ifCond .eq 6, 3) := by decide +kernel
theorem dX8_comes_62 : decode cX8_comes 62 = .ok (.goto (-56), 3) := by decide +kernel
theorem dX8_comes_65 : decode cX8_comes 65 = .ok (.aload_n 0, 1) := by decide +kernel
theorem dX8_comes_66 : decode cX8_comes 66 = .ok (.iload 4, 2) := by decide +kernel
theorem dX8_comes_68 : decode cX8_comes 68 = .ok (.aload_n 0, 1) := by decide +kernel
theorem dX8_comes_69 : decode cX8_comes 69 = .ok (.getfield 70, 3) := by decide +kernel
theorem dX8_comes_72 : decode cX8_comes 72 = .ok (.iload_n 1, 1) := by decide +kernel
theorem dX8_comes_73 : decode cX8_comes 73 = .ok (.iaload, 1) := by decide +kernel
theorem dX8_comes_74 : decode cX8_comes 74 = .ok (.invokevirtual 137, 3) := by decide +kernel
theorem dX8_comes_77 : decode cX8_comes 77 = .ok (.istore 5, 2) := by decide +kernel
theorem dX8_comes_79 : decode cX8_comes 79 = .ok (.aload_n 0, 1) := by decide +kernel
theorem dX8_comes_80 : decode cX8_comes 80 = .ok (.getfield 70, 3) := by decide +kernel
theorem dX8_comes_83 : decode cX8_comes 83 = .ok (.iload_n 1, 1) := by decide +kernel
theorem dX8_comes_84 : decode cX8_comes 84 = .ok (.aload_n 0, 1) := by decide +kernel
theorem dX8_comes_85 : decode cX8_comes 85 = .ok (.iload 4, 2) := by decide +kernel
theorem dX8_comes_87 : decode cX8_comes 87 = .ok (.aload_n 0, 1) := by decide +kernel
theorem dX8_comes_88 : decode cX8_comes 88 = .ok (.getfield 70, 3) := by decide +kernel
theorem dX8_comes_91 : decode cX8_comes 91 = .ok (.iload_n 1, 1) := by decide +kernel
theorem dX8_comes_92 : decode cX8_comes 92 = .ok (.iaload, 1) := by decide +kernel
theorem dX8_comes_93 : decode cX8_comes 93 = .ok (.invokevirtual 140, 3) := by decide +kernel
theorem dX8_comes_96 : decode cX8_comes 96 = .ok (.iastore, 1) := by decide +kernel
theorem dX8_comes_97 : decode cX8_comes 97 = .ok (.aload_n 0, 1) := by decide +kernel
theorem dX8_comes_98 : decode cX8_comes 98 = .ok (.dup, 1) := by decide +kernel
theorem dX8_comes_99 : decode cX8_comes 99 = .ok (.getfield 188, 3) := by decide +kernel
theorem dX8_comes_102 : decode cX8_comes 102 = .ok (.iload 5, 2) := by decide +kernel
theorem dX8_comes_104 : decode cX8_comes 104 = .ok (.isub, 1) := by decide +kernel
theorem dX8_comes_105 : decode cX8_comes 105 = .ok (.putfield 188, 3) := by decide +kernel
theorem dX8_comes_108 : decode cX8_comes 108 = .ok (.aload_n 0, 1) := by decide +kernel
theorem dX8_comes_109 : decode cX8_comes 109 = .ok (.getfield 76, 3) := by decide +kernel
theorem dX8_comes_112 : decode cX8_comes 112 = .ok (.iload_n 1, 1) := by decide +kernel
theorem dX8_comes_113 : decode cX8_comes 113 = .ok (.dup2, 1) := by decide +kernel
theorem dX8_comes_114 : decode cX8_comes 114 = .ok (.iaload, 1) := by decide +kernel
theorem dX8_comes_115 : decode cX8_comes 115 = .ok (.iload 5, 2) := by decide +kernel
theorem dX8_comes_117 : decode cX8_comes 117 = .ok (.iadd, 1) := by decide +kernel
theorem dX8_comes_118 : decode cX8_comes 118 = .ok (.iastore, 1) := by decide +kernel
theorem dX8_comes_119 : decode cX8_comes 119 = .ok (.goto (-113), 3) := by decide +kernel
theorem dX8_comes_122 : decode cX8_comes 122 = .ok (.iconst 1, 1) := by decide +kernel
theorem dX8_comes_123 : decode cX8_comes 123 = .ok (.ireturn, 1) := by decide +kernel
theorem dX8_does_0 : decode cX8_does 0 = .ok (.aload_n 0, 1) := by decide +kernel
theorem dX8_does_1 : decode cX8_does 1 = .ok (.getfield 61, 3) := by decide +kernel
theorem dX8_does_4 : decode cX8_does 4 = .ok (.iload_n 2, 1) := by decide +kernel
theorem dX8_does_5 : decode cX8_does 5 = .ok (.iaload, 1) := by decide +kernel
theorem dX8_does_6 : decode cX8_does 6 = .ok (.istore_n 3, 1) := by decide +kernel
theorem dX8_does_7 : decode cX8_does 7 = .ok (.aload_n 0, 1) := by decide +kernel
theorem dX8_does_8 : decode cX8_does 8 = .ok (.dup, 1) := by decide +kernel
theorem dX8_does_9 : decode cX8_does 9 = .ok (.getfield 188, 3) := by decide +kernel
theorem dX8_does_12 : decode cX8_does 12 = .ok (.aload_n 0, 1) := by decide +kernel
theorem dX8_does_13 : decode cX8_does 13 = .ok (.iload_n 2, 1) := by decide +kernel
theorem dX8_does_14 : decode cX8_does 14 = .ok (.invokevirtual 185, 3) := by decide +kernel
theorem dX8_does_17 : decode cX8_does 17 = .ok (.isub, 1) := by decide +kernel
theorem dX8_does_18 : decode cX8_does 18 = .ok (.putfield 188, 3) := by decide +kernel
theorem dX8_does_21 : decode cX8_does 21 = .ok (.aload_n 0, 1) := by decide +kernel
theorem dX8_does_22 : decode cX8_does 22 = .ok (.getfield 76, 3) := by decide +kernel
theorem dX8_does_25 : decode cX8_does 25 = .ok (.iload_n 1, 1) := by decide +kernel
theorem dX8_does_26 : decode cX8_does 26 = .ok (.dup2, 1) := by decide +kernel
theorem dX8_does_27 : decode cX8_does 27 = .ok (.iaload, 1) := by decide +kernel
theorem dX8_does_28 : decode cX8_does 28 = .ok (.aload_n 0, 1) := by decide +kernel
theorem dX8_does_29 : decode cX8_does 29 = .ok (.iload_n 2, 1) := by decide +kernel
theorem dX8_does_30 : decode cX8_does 30 = .ok (.invokevirtual 185, 3) := by decide +kernel
theorem dX8_does_33 : decode cX8_does 33 = .ok (.iadd, 1) := by decide +kernel
theorem dX8_does_34 : decode cX8_does 34 = .ok (.iastore, 1) := by decide +kernel
theorem dX8_does_35 : decode cX8_does 35 = .ok (.aload_n 0, 1) := by decide +kernel
theorem dX8_does_36 : decode cX8_does 36 = .ok (.getfield 67, 3) := by decide +kernel
theorem dX8_does_39 : decode cX8_does 39 = .ok (.iload_n 2, 1) := by decide +kernel
theorem dX8_does_40 : decode cX8_does 40 = .ok (.iload_n 1, 1) := by decide +kernel
theorem dX8_does_41 : decode cX8_does 41 = .ok (.iastore, 1) := by decide +kernel
theorem dX8_does_42 : decode cX8_does 42 = .ok (.aload_n 0, 1) := by decide +kernel
theorem dX8_does_43 : decode cX8_does 43 = .ok (.getfield 57, 3) := by decide +kernel
theorem dX8_does_46 : decode cX8_does 46 = .ok (.iload_n 2, 1) := by decide +kernel
theorem dX8_does_47 : decode cX8_does 47 = .ok (.caload, 1) := by decide +kernel
theorem dX8_does_48 : decode cX8_does 48 = .ok (.lookupswitch 76 #[(99, 36), (114, 56), (117, 46)], 36) := by decide +kernel
theorem dX8_does_84 : decode cX8_does 84 = .ok (.aload_n 0, 1) := by decide +kernel
theorem dX8_does_85 : decode cX8_does 85 = .ok (.getfield 48, 3) := by decide +kernel
theorem dX8_does_88 : decode cX8_does 88 = .ok (.iload_n 3, 1) := by decide +kernel
theorem dX8_does_89 : decode cX8_does 89 = .ok (.iconst 1, 1) := by decide +kernel
theorem dX8_does_90 : decode cX8_does 90 = .ok (.bastore, 1) := by decide +kernel
theorem dX8_does_91 : decode cX8_does 91 = .ok (.goto 52, 3) := by decide +kernel
theorem dX8_does_94 : decode cX8_does 94 = .ok (.aload_n 0, 1) := by decide +kernel
theorem dX8_does_95 : decode cX8_does 95 = .ok (.getfield 48, 3) := by decide +kernel
theorem dX8_does_98 : decode cX8_does 98 = .ok (.iload_n 3, 1) := by decide +kernel
theorem dX8_does_99 : decode cX8_does 99 = .ok (.iconst 0, 1) := by decide +kernel
theorem dX8_does_100 : decode cX8_does 100 = .ok (.bastore, 1) := by decide +kernel
theorem dX8_does_101 : decode cX8_does 101 = .ok (.goto 42, 3) := by decide +kernel
theorem dX8_does_104 : decode cX8_does 104 = .ok (.aload_n 0, 1) := by decide +kernel
theorem dX8_does_105 : decode cX8_does 105 = .ok (.iload_n 3, 1) := by decide +kernel
theorem dX8_does_106 : decode cX8_does 106 = .ok (.aload_n 0, 1) := by decide +kernel
theorem dX8_does_107 : decode cX8_does 107 = .ok (.getfield 36, 3) := by decide +kernel
theorem dX8_does_110 : decode cX8_does 110 = .ok (.iload_n 3, 1) := by decide +kernel
theorem dX8_does_111 : decode cX8_does 111 = .ok (.iaload, 1) := by decide +kernel
theorem dX8_does_112 : decode cX8_does 112 = .ok (.aload_n 0, 1) := by decide +kernel
theorem dX8_does_113 : decode cX8_does 113 = .ok (.getfield 39, 3) := by decide +kernel
theorem dX8_does_116 : decode cX8_does 116 = .ok (.iload_n 3, 1) := by decide +kernel
theorem dX8_does_117 : decode cX8_does 117 = .ok (.iaload, 1) := by decide +kernel
theorem dX8_does_118 : decode cX8_does 118 = .ok (.invokevirtual 154, 3) := by decide +kernel
theorem dX8_does_121 : decode cX8_does 121 = .ok (.goto 22, 3) := by decide +kernel
theorem dX8_does_124 : decode cX8_does 124 = .ok (.aload_n 0, 1) := by decide +kernel
theorem dX8_does_125 : decode cX8_does 125 = .ok (.iload_n 3, 1) := by decide +kernel
theorem dX8_does_126 : decode cX8_does 126 = .ok (.invokevirtual 200, 3) := by decide +kernel
theorem dX8_does_129 : decode cX8_does 129 = .ok (.aload_n 0, 1) := by decide +kernel
theorem dX8_does_130 : decode cX8_does 130 = .ok (.getfield 30, 3) := by decide +kernel
theorem dX8_does_133 : decode cX8_does 133 = .ok (.iload_n 3, 1) := by decide +kernel
theorem dX8_does_134 : decode cX8_does 134 = .ok (.iconst 0, 1) := by decide +kernel
theorem dX8_does_135 : decode cX8_does 135 = .ok (.bastore, 1) := by decide +kernel
theorem dX8_does_136 : decode cX8_does 136 = .ok (.aload_n 0, 1) := by decide +kernel
theorem dX8_does_137 : decode cX8_does 137 = .ok (.getfield 33, 3) := by decide +kernel
theorem dX8_does_140 : decode cX8_does 140 = .ok (.iload_n 3, 1) := by decide +kernel
theorem dX8_does_141 : decode cX8_does 141 = .ok (.iconst 0, 1) := by decide +kernel
theorem dX8_does_142 : decode cX8_does 142 = .ok (.bastore, 1) := by decide +kernel
theorem dX8_does_143 : decode cX8_does 143 = .ok (.return_, 1) := by decide +kernel
theorem dX8_day_0 : decode cX8_day 0 = .ok (.aload_n 0, 1) := by decide +kernel
theorem dX8_day_1 : decode cX8_day 1 = .ok (.getfield 204, 3) := by decide +kernel
theorem dX8_day_4 : decode cX8_day 4 = .ok (.bipush 50, 2) := by decide +kernel
theorem dX8_day_6 : decode cX8_day 6 = .ok (.if_icmp .ne 9, 3) := by decide +kernel
theorem dX8_day_9 : decode cX8_day 9 = .ok (.aload_n 0, 1) := by decide +kernel
theorem dX8_day_10 : decode cX8_day 10 = .ok (.iconst 1, 1) := by decide +kernel
theorem dX8_day_11 : decode cX8_day 11 = .ok (.invokevirtual 110, 3) := by decide +kernel
theorem dX8_day_14 : decode cX8_day 14 = .ok (.ireturn, 1) := by decide +kernel
theorem dX8_day_15 : decode cX8_day 15 = .ok (.iconst 0, 1) := by decide +kernel
theorem dX8_day_16 : decode cX8_day 16 = .ok (.istore_n 1, 1) := by decide +kernel
theorem dX8_day_17 : decode cX8_day 17 = .ok (.iconst 0, 1) := by decide +kernel
theorem dX8_day_18 : decode cX8_day 18 = .ok (.istore_n 2, 1) := by decide +kernel
theorem dX8_day_19 : decode cX8_day 19 = .ok (.iload_n 2, 1) := by decide +kernel
theorem dX8_day_20 : decode cX8_day 20 = .ok (.aload_n 0, 1) := by decide +kernel
theorem dX8_day_21 : decode cX8_day 21 = .ok (.getfield 107, 3) := by decide +kernel
theorem dX8_day_24 : decode cX8_day 24 = .ok (.if_icmp .ge 62, 3) := by decide +kernel
theorem dX8_day_27 : decode cX8_day 27 = .ok (.aload_n 0, 1) := by decide +kernel
theorem dX8_day_28 : decode cX8_day 28 = .ok (.sipush 480, 3) := by decide +kernel
theorem dX8_day_31 : decode cX8_day 31 = .ok (.putfield 188, 3) := by decide +kernel
theorem dX8_day_34 : decode cX8_day 34 = .ok (.aload_n 0, 1) := by decide +kernel
theorem dX8_day_35 : decode cX8_day 35 = .ok (.iload_n 2, 1) := by decide +kernel
theorem dX8_day_36 : decode cX8_day 36 = .ok (.invokevirtual 207, 3) := by decide +kernel
theorem dX8_day_39 : decode cX8_day 39 = .ok (.istore_n 3, 1) := by decide +kernel
theorem dX8_day_40 : decode cX8_day 40 = .ok (.iload_n 3, 1) := by decide +kernel
theorem dX8_day_41 : decode cX8_day 41 = .ok (.iconst (-1), 1) := by decide +kernel
theorem dX8_day_42 : decode cX8_day 42 = .ok (.if_icmp .eq 38, 3) := by decide +kernel
theorem dX8_day_45 : decode cX8_day 45 = .ok (.aload_n 0, 1) := by decide +kernel
theorem dX8_day_46 : decode cX8_day 46 = .ok (.iload_n 2, 1) := by decide +kernel
theorem dX8_day_47 : decode cX8_day 47 = .ok (.iload_n 3, 1) := by decide +kernel
theorem dX8_day_48 : decode cX8_day 48 = .ok (.invokevirtual 210, 3) := by decide +kernel
theorem dX8_day_51 : decode cX8_day 51 = .ok (.ifCond .eq 20, 3) := by decide +kernel
theorem dX8_day_54 : decode cX8_day 54 = .ok (.aload_n 0, 1) := by decide +kernel
theorem dX8_day_55 : decode cX8_day 55 = .ok (.iload_n 3, 1) := by decide +kernel
theorem dX8_day_56 : decode cX8_day 56 = .ok (.invokevirtual 194, 3) := by decide +kernel
theorem dX8_day_59 : decode cX8_day 59 = .ok (.ifCond .eq 12, 3) := by decide +kernel
theorem dX8_day_62 : decode cX8_day 62 = .ok (.aload_n 0, 1) := by decide +kernel
theorem dX8_day_63 : decode cX8_day 63 = .ok (.iload_n 2, 1) := by decide +kernel
theorem dX8_day_64 : decode cX8_day 64 = .ok (.iload_n 3, 1) := by decide +kernel
theorem dX8_day_65 : decode cX8_day 65 = .ok (.invokevirtual 213, 3) := by decide +kernel
theorem dX8_day_68 : decode cX8_day 68 = .ok (.iinc 1 1, 3) := by decide +kernel
theorem dX8_day_71 : decode cX8_day 71 = .ok (.aload_n 0, 1) := by decide +kernel
theorem dX8_day_72 : decode cX8_day 72 = .ok (.iload_n 2, 1) := by decide +kernel
theorem dX8_day_73 : decode cX8_day 73 = .ok (.invokevirtual 207, 3) := by decide +kernel
theorem dX8_day_76 : decode cX8_day 76 = .ok (.istore_n 3, 1) := by decide +kernel
theorem dX8_day_77 : decode cX8_day 77 = .ok (.goto (-37), 3) := by decide +kernel
theorem dX8_day_80 : decode cX8_day 80 = .ok (.iinc 2 1, 3) := by decide +kernel
theorem dX8_day_83 : decode cX8_day 83 = .ok (.goto (-64), 3) := by decide +kernel
theorem dX8_day_86 : decode cX8_day 86 = .ok (.aload_n 0, 1) := by decide +kernel
theorem dX8_day_87 : decode cX8_day 87 = .ok (.dup, 1) := by decide +kernel
theorem dX8_day_88 : decode cX8_day 88 = .ok (.getfield 204, 3) := by decide +kernel
theorem dX8_day_91 : decode cX8_day 91 = .ok (.iconst 1, 1) := by decide +kernel
theorem dX8_day_92 : decode cX8_day 92 = .ok (.iadd, 1) := by decide +kernel
theorem dX8_day_93 : decode cX8_day 93 = .ok (.putfield 204, 3) := by decide +kernel
theorem dX8_day_96 : decode cX8_day 96 = .ok (.aload_n 0, 1) := by decide +kernel
theorem dX8_day_97 : decode cX8_day 97 = .ok (.iload_n 1, 1) := by decide +kernel
theorem dX8_day_98 : decode cX8_day 98 = .ok (.invokevirtual 114, 3) := by decide +kernel
theorem dX8_day_101 : decode cX8_day 101 = .ok (.ireturn, 1) := by decide +kernel
theorem dX8_print_0 : decode cX8_print 0 = .ok (.aload_n 0, 1) := by decide +kernel
theorem dX8_print_1 : decode cX8_print 1 = .ok (.getfield 217, 3) := by decide +kernel
theorem dX8_print_4 : decode cX8_print 4 = .ok (.bipush 10, 2) := by decide +kernel
theorem dX8_print_6 : decode cX8_print 6 = .ok (.if_icmp .ne 9, 3) := by decide +kernel
theorem dX8_print_9 : decode cX8_print 9 = .ok (.aload_n 0, 1) := by decide +kernel
theorem dX8_print_10 : decode cX8_print 10 = .ok (.iconst 1, 1) := by decide +kernel
theorem dX8_print_11 : decode cX8_print 11 = .ok (.invokevirtual 110, 3) := by decide +kernel
theorem dX8_print_14 : decode cX8_print 14 = .ok (.ireturn, 1) := by decide +kernel
theorem dX8_print_15 : decode cX8_print 15 = .ok (.iconst 0, 1) := by decide +kernel
theorem dX8_print_16 : decode cX8_print 16 = .ok (.istore_n 1, 1) := by decide +kernel
theorem dX8_print_17 : decode cX8_print 17 = .ok (.iload_n 1, 1) := by decide +kernel
theorem dX8_print_18 : decode cX8_print 18 = .ok (.aload_n 0, 1) := by decide +kernel
theorem dX8_print_19 : decode cX8_print 19 = .ok (.getfield 98, 3) := by decide +kernel
theorem dX8_print_22 : decode cX8_print 22 = .ok (.if_icmp .ge 37, 3) := by decide +kernel
theorem dX8_print_25 : decode cX8_print 25 = .ok (.aload_n 0, 1) := by decide +kernel
theorem dX8_print_26 : decode cX8_print 26 = .ok (.getfield 79, 3) := by decide +kernel
theorem dX8_print_29 : decode cX8_print 29 = .ok (.aload_n 0, 1) := by decide +kernel
theorem dX8_print_30 : decode cX8_print 30 = .ok (.getfield 217, 3) := by decide +kernel
theorem dX8_print_33 : decode cX8_print 33 = .ok (.bipush 24, 2) := by decide +kernel
theorem dX8_print_35 : decode cX8_print 35 = .ok (.imul, 1) := by decide +kernel
theorem dX8_print_36 : decode cX8_print 36 = .ok (.iload_n 1, 1) := by decide +kernel
theorem dX8_print_37 : decode cX8_print 37 = .ok (.iadd, 1) := by decide +kernel
theorem dX8_print_38 : decode cX8_print 38 = .ok (.aload_n 0, 1) := by decide +kernel
theorem dX8_print_39 : decode cX8_print 39 = .ok (.getfield 33, 3) := by decide +kernel
theorem dX8_print_42 : decode cX8_print 42 = .ok (.iload_n 1, 1) := by decide +kernel
theorem dX8_print_43 : decode cX8_print 43 = .ok (.baload, 1) := by decide +kernel
theorem dX8_print_44 : decode cX8_print 44 = .ok (.ifCond .ne 7, 3) := by decide +kernel
theorem dX8_print_47 : decode cX8_print 47 = .ok (.iconst 1, 1) := by decide +kernel
theorem dX8_print_48 : decode cX8_print 48 = .ok (.goto 4, 3) := by decide +kernel
theorem dX8_print_51 : decode cX8_print 51 = .ok (.iconst 0, 1) := by decide +kernel
theorem dX8_print_52 : decode cX8_print 52 = .ok (.bastore, 1) := by decide +kernel
theorem dX8_print_53 : decode cX8_print 53 = .ok (.iinc 1 1, 3) := by decide +kernel
theorem dX8_print_56 : decode cX8_print 56 = .ok (.goto (-39), 3) := by decide +kernel
theorem dX8_print_59 : decode cX8_print 59 = .ok (.aload_n 0, 1) := by decide +kernel
theorem dX8_print_60 : decode cX8_print 60 = .ok (.getfield 82, 3) := by decide +kernel
theorem dX8_print_63 : decode cX8_print 63 = .ok (.aload_n 0, 1) := by decide +kernel
theorem dX8_print_64 : decode cX8_print 64 = .ok (.getfield 217, 3) := by decide +kernel
theorem dX8_print_67 : decode cX8_print 67 = .ok (.aload_n 0, 1) := by decide +kernel
theorem dX8_print_68 : decode cX8_print 68 = .ok (.getfield 204, 3) := by decide +kernel
theorem dX8_print_71 : decode cX8_print 71 = .ok (.iastore, 1) := by decide +kernel
theorem dX8_print_72 : decode cX8_print 72 = .ok (.aload_n 0, 1) := by decide +kernel
theorem dX8_print_73 : decode cX8_print 73 = .ok (.dup, 1) := by decide +kernel
theorem dX8_print_74 : decode cX8_print 74 = .ok (.getfield 217, 3) := by decide +kernel
theorem dX8_print_77 : decode cX8_print 77 = .ok (.iconst 1, 1) := by decide +kernel
theorem dX8_print_78 : decode cX8_print 78 = .ok (.iadd, 1) := by decide +kernel
theorem dX8_print_79 : decode cX8_print 79 = .ok (.putfield 217, 3) := by decide +kernel
theorem dX8_print_82 : decode cX8_print 82 = .ok (.aload_n 0, 1) := by decide +kernel
theorem dX8_print_83 : decode cX8_print 83 = .ok (.aload_n 0, 1) := by decide +kernel
theorem dX8_print_84 : decode cX8_print 84 = .ok (.getfield 217, 3) := by decide +kernel
theorem dX8_print_87 : decode cX8_print 87 = .ok (.iconst 1, 1) := by decide +kernel
theorem dX8_print_88 : decode cX8_print 88 = .ok (.isub, 1) := by decide +kernel
theorem dX8_print_89 : decode cX8_print 89 = .ok (.invokevirtual 114, 3) := by decide +kernel
theorem dX8_print_92 : decode cX8_print 92 = .ok (.ireturn, 1) := by decide +kernel
theorem dX8_isMap_0 : decode cX8_isMap 0 = .ok (.aload_n 0, 1) := by decide +kernel
theorem dX8_isMap_1 : decode cX8_isMap 1 = .ok (.iload_n 1, 1) := by decide +kernel
theorem dX8_isMap_2 : decode cX8_isMap 2 = .ok (.iconst 0, 1) := by decide +kernel
theorem dX8_isMap_3 : decode cX8_isMap 3 = .ok (.aload_n 0, 1) := by decide +kernel
theorem dX8_isMap_4 : decode cX8_isMap 4 = .ok (.getfield 217, 3) := by decide +kernel
theorem dX8_isMap_7 : decode cX8_isMap 7 = .ok (.iconst 1, 1) := by decide +kernel
theorem dX8_isMap_8 : decode cX8_isMap 8 = .ok (.isub, 1) := by decide +kernel
theorem dX8_isMap_9 : decode cX8_isMap 9 = .ok (.invokevirtual 94, 3) := by decide +kernel
theorem dX8_isMap_12 : decode cX8_isMap 12 = .ok (.ireturn, 1) := by decide +kernel
theorem dX8_shows_0 : decode cX8_shows 0 = .ok (.aload_n 0, 1) := by decide +kernel
theorem dX8_shows_1 : decode cX8_shows 1 = .ok (.aload_n 0, 1) := by decide +kernel
theorem dX8_shows_2 : decode cX8_shows 2 = .ok (.iload_n 1, 1) := by decide +kernel
theorem dX8_shows_3 : decode cX8_shows 3 = .ok (.invokevirtual 220, 3) := by decide +kernel
theorem dX8_shows_6 : decode cX8_shows 6 = .ok (.ifCond .eq 15, 3) := by decide +kernel
theorem dX8_shows_9 : decode cX8_shows 9 = .ok (.aload_n 0, 1) := by decide +kernel
theorem dX8_shows_10 : decode cX8_shows 10 = .ok (.iload_n 2, 1) := by decide +kernel
theorem dX8_shows_11 : decode cX8_shows 11 = .ok (.invokevirtual 121, 3) := by decide +kernel
theorem dX8_shows_14 : decode cX8_shows 14 = .ok (.ifCond .eq 7, 3) := by decide +kernel
theorem dX8_shows_17 : decode cX8_shows 17 = .ok (.iconst 0, 1) := by decide +kernel
theorem dX8_shows_18 : decode cX8_shows 18 = .ok (.goto 4, 3) := by decide +kernel
theorem dX8_shows_21 : decode cX8_shows 21 = .ok (.iconst 1, 1) := by decide +kernel
theorem dX8_shows_22 : decode cX8_shows 22 = .ok (.putfield 88, 3) := by decide +kernel
theorem dX8_shows_25 : decode cX8_shows 25 = .ok (.aload_n 0, 1) := by decide +kernel
theorem dX8_shows_26 : decode cX8_shows 26 = .ok (.getfield 88, 3) := by decide +kernel
theorem dX8_shows_29 : decode cX8_shows 29 = .ok (.ifCond .ne 21, 3) := by decide +kernel
theorem dX8_shows_32 : decode cX8_shows 32 = .ok (.aload_n 0, 1) := by decide +kernel
theorem dX8_shows_33 : decode cX8_shows 33 = .ok (.getfield 79, 3) := by decide +kernel
theorem dX8_shows_36 : decode cX8_shows 36 = .ok (.iload_n 1, 1) := by decide +kernel
theorem dX8_shows_37 : decode cX8_shows 37 = .ok (.bipush 24, 2) := by decide +kernel
theorem dX8_shows_39 : decode cX8_shows 39 = .ok (.imul, 1) := by decide +kernel
theorem dX8_shows_40 : decode cX8_shows 40 = .ok (.iload_n 2, 1) := by decide +kernel
theorem dX8_shows_41 : decode cX8_shows 41 = .ok (.iadd, 1) := by decide +kernel
theorem dX8_shows_42 : decode cX8_shows 42 = .ok (.baload, 1) := by decide +kernel
theorem dX8_shows_43 : decode cX8_shows 43 = .ok (.ifCond .eq 7, 3) := by decide +kernel
theorem dX8_shows_46 : decode cX8_shows 46 = .ok (.iconst 1, 1) := by decide +kernel
theorem dX8_shows_47 : decode cX8_shows 47 = .ok (.goto 4, 3) := by decide +kernel
theorem dX8_shows_50 : decode cX8_shows 50 = .ok (.iconst 0, 1) := by decide +kernel
theorem dX8_shows_51 : decode cX8_shows 51 = .ok (.ireturn, 1) := by decide +kernel
theorem dX8_age_0 : decode cX8_age 0 = .ok (.aload_n 0, 1) := by decide +kernel
theorem dX8_age_1 : decode cX8_age 1 = .ok (.iload_n 1, 1) := by decide +kernel
theorem dX8_age_2 : decode cX8_age 2 = .ok (.invokevirtual 220, 3) := by decide +kernel
theorem dX8_age_5 : decode cX8_age 5 = .ok (.ifCond .eq 21, 3) := by decide +kernel
theorem dX8_age_8 : decode cX8_age 8 = .ok (.aload_n 0, 1) := by decide +kernel
theorem dX8_age_9 : decode cX8_age 9 = .ok (.aload_n 0, 1) := by decide +kernel
theorem dX8_age_10 : decode cX8_age 10 = .ok (.getfield 204, 3) := by decide +kernel
theorem dX8_age_13 : decode cX8_age 13 = .ok (.aload_n 0, 1) := by decide +kernel
theorem dX8_age_14 : decode cX8_age 14 = .ok (.getfield 82, 3) := by decide +kernel
theorem dX8_age_17 : decode cX8_age 17 = .ok (.iload_n 1, 1) := by decide +kernel
theorem dX8_age_18 : decode cX8_age 18 = .ok (.iaload, 1) := by decide +kernel
theorem dX8_age_19 : decode cX8_age 19 = .ok (.isub, 1) := by decide +kernel
theorem dX8_age_20 : decode cX8_age 20 = .ok (.invokevirtual 114, 3) := by decide +kernel
theorem dX8_age_23 : decode cX8_age 23 = .ok (.goto 8, 3) := by decide +kernel
theorem dX8_age_26 : decode cX8_age 26 = .ok (.aload_n 0, 1) := by decide +kernel
theorem dX8_age_27 : decode cX8_age 27 = .ok (.iconst 1, 1) := by decide +kernel
theorem dX8_age_28 : decode cX8_age 28 = .ok (.invokevirtual 110, 3) := by decide +kernel
theorem dX8_age_31 : decode cX8_age 31 = .ok (.ireturn, 1) := by decide +kernel
theorem dX8_knownShare_0 : decode cX8_knownShare 0 = .ok (.aload_n 0, 1) := by decide +kernel
theorem dX8_knownShare_1 : decode cX8_knownShare 1 = .ok (.aload_n 0, 1) := by decide +kernel
theorem dX8_knownShare_2 : decode cX8_knownShare 2 = .ok (.getfield 98, 3) := by decide +kernel
theorem dX8_knownShare_5 : decode cX8_knownShare 5 = .ok (.ifCond .ne 7, 3) := by decide +kernel
theorem dX8_knownShare_8 : decode cX8_knownShare 8 = .ok (.iconst 1, 1) := by decide +kernel
theorem dX8_knownShare_9 : decode cX8_knownShare 9 = .ok (.goto 4, 3) := by decide +kernel
theorem dX8_knownShare_12 : decode cX8_knownShare 12 = .ok (.iconst 0, 1) := by decide +kernel
theorem dX8_knownShare_13 : decode cX8_knownShare 13 = .ok (.putfield 88, 3) := by decide +kernel
theorem dX8_knownShare_16 : decode cX8_knownShare 16 = .ok (.aload_n 0, 1) := by decide +kernel
theorem dX8_knownShare_17 : decode cX8_knownShare 17 = .ok (.getfield 88, 3) := by decide +kernel
theorem dX8_knownShare_20 : decode cX8_knownShare 20 = .ok (.ifCond .le 5, 3) := by decide +kernel
theorem dX8_knownShare_23 : decode cX8_knownShare 23 = .ok (.fconst 0, 1) := by decide +kernel
theorem dX8_knownShare_24 : decode cX8_knownShare 24 = .ok (.freturn, 1) := by decide +kernel
theorem dX8_knownShare_25 : decode cX8_knownShare 25 = .ok (.iconst 0, 1) := by decide +kernel
theorem dX8_knownShare_26 : decode cX8_knownShare 26 = .ok (.istore_n 1, 1) := by decide +kernel
theorem dX8_knownShare_27 : decode cX8_knownShare 27 = .ok (.iconst 0, 1) := by decide +kernel
theorem dX8_knownShare_28 : decode cX8_knownShare 28 = .ok (.istore_n 2, 1) := by decide +kernel
theorem dX8_knownShare_29 : decode cX8_knownShare 29 = .ok (.iload_n 2, 1) := by decide +kernel
theorem dX8_knownShare_30 : decode cX8_knownShare 30 = .ok (.aload_n 0, 1) := by decide +kernel
theorem dX8_knownShare_31 : decode cX8_knownShare 31 = .ok (.getfield 98, 3) := by decide +kernel
theorem dX8_knownShare_34 : decode cX8_knownShare 34 = .ok (.if_icmp .ge 32, 3) := by decide +kernel
theorem dX8_knownShare_37 : decode cX8_knownShare 37 = .ok (.iload_n 1, 1) := by decide +kernel
theorem dX8_knownShare_38 : decode cX8_knownShare 38 = .ok (.aload_n 0, 1) := by decide +kernel
theorem dX8_knownShare_39 : decode cX8_knownShare 39 = .ok (.getfield 30, 3) := by decide +kernel
theorem dX8_knownShare_42 : decode cX8_knownShare 42 = .ok (.iload_n 2, 1) := by decide +kernel
theorem dX8_knownShare_43 : decode cX8_knownShare 43 = .ok (.baload, 1) := by decide +kernel
theorem dX8_knownShare_44 : decode cX8_knownShare 44 = .ok (.aload_n 0, 1) := by decide +kernel
theorem dX8_knownShare_45 : decode cX8_knownShare 45 = .ok (.getfield 33, 3) := by decide +kernel
theorem dX8_knownShare_48 : decode cX8_knownShare 48 = .ok (.iload_n 2, 1) := by decide +kernel
theorem dX8_knownShare_49 : decode cX8_knownShare 49 = .ok (.baload, 1) := by decide +kernel
theorem dX8_knownShare_50 : decode cX8_knownShare 50 = .ok (.if_icmp .ne 7, 3) := by decide +kernel
theorem dX8_knownShare_53 : decode cX8_knownShare 53 = .ok (.iconst 1, 1) := by decide +kernel
theorem dX8_knownShare_54 : decode cX8_knownShare 54 = .ok (.goto 4, 3) := by decide +kernel
theorem dX8_knownShare_57 : decode cX8_knownShare 57 = .ok (.iconst 0, 1) := by decide +kernel
theorem dX8_knownShare_58 : decode cX8_knownShare 58 = .ok (.iadd, 1) := by decide +kernel
theorem dX8_knownShare_59 : decode cX8_knownShare 59 = .ok (.istore_n 1, 1) := by decide +kernel
theorem dX8_knownShare_60 : decode cX8_knownShare 60 = .ok (.iinc 2 1, 3) := by decide +kernel
theorem dX8_knownShare_63 : decode cX8_knownShare 63 = .ok (.goto (-34), 3) := by decide +kernel
theorem dX8_knownShare_66 : decode cX8_knownShare 66 = .ok (.iload_n 1, 1) := by decide +kernel
theorem dX8_knownShare_67 : decode cX8_knownShare 67 = .ok (.i2f, 1) := by decide +kernel
theorem dX8_knownShare_68 : decode cX8_knownShare 68 = .ok (.aload_n 0, 1) := by decide +kernel
theorem dX8_knownShare_69 : decode cX8_knownShare 69 = .ok (.getfield 98, 3) := by decide +kernel
theorem dX8_knownShare_72 : decode cX8_knownShare 72 = .ok (.i2f, 1) := by decide +kernel
theorem dX8_knownShare_73 : decode cX8_knownShare 73 = .ok (.fdiv, 1) := by decide +kernel
theorem dX8_knownShare_74 : decode cX8_knownShare 74 = .ok (.freturn, 1) := by decide +kernel
theorem dX8_meanDanger_0 : decode cX8_meanDanger 0 = .ok (.aload_n 0, 1) := by decide +kernel
theorem dX8_meanDanger_1 : decode cX8_meanDanger 1 = .ok (.aload_n 0, 1) := by decide +kernel
theorem dX8_meanDanger_2 : decode cX8_meanDanger 2 = .ok (.getfield 101, 3) := by decide +kernel
theorem dX8_meanDanger_5 : decode cX8_meanDanger 5 = .ok (.ifCond .ne 7, 3) := by decide +kernel
theorem dX8_meanDanger_8 : decode cX8_meanDanger 8 = .ok (.iconst 1, 1) := by decide +kernel
theorem dX8_meanDanger_9 : decode cX8_meanDanger 9 = .ok (.goto 4, 3) := by decide +kernel
theorem dX8_meanDanger_12 : decode cX8_meanDanger 12 = .ok (.iconst 0, 1) := by decide +kernel
theorem dX8_meanDanger_13 : decode cX8_meanDanger 13 = .ok (.putfield 88, 3) := by decide +kernel
theorem dX8_meanDanger_16 : decode cX8_meanDanger 16 = .ok (.aload_n 0, 1) := by decide +kernel
theorem dX8_meanDanger_17 : decode cX8_meanDanger 17 = .ok (.getfield 88, 3) := by decide +kernel
theorem dX8_meanDanger_20 : decode cX8_meanDanger 20 = .ok (.ifCond .le 5, 3) := by decide +kernel
theorem dX8_meanDanger_23 : decode cX8_meanDanger 23 = .ok (.dconst 0, 1) := by decide +kernel
theorem dX8_meanDanger_24 : decode cX8_meanDanger 24 = .ok (.dreturn, 1) := by decide +kernel
theorem dX8_meanDanger_25 : decode cX8_meanDanger 25 = .ok (.iconst 0, 1) := by decide +kernel
theorem dX8_meanDanger_26 : decode cX8_meanDanger 26 = .ok (.istore_n 1, 1) := by decide +kernel
theorem dX8_meanDanger_27 : decode cX8_meanDanger 27 = .ok (.iconst 0, 1) := by decide +kernel
theorem dX8_meanDanger_28 : decode cX8_meanDanger 28 = .ok (.istore_n 2, 1) := by decide +kernel
theorem dX8_meanDanger_29 : decode cX8_meanDanger 29 = .ok (.iload_n 2, 1) := by decide +kernel
theorem dX8_meanDanger_30 : decode cX8_meanDanger 30 = .ok (.aload_n 0, 1) := by decide +kernel
theorem dX8_meanDanger_31 : decode cX8_meanDanger 31 = .ok (.getfield 101, 3) := by decide +kernel
theorem dX8_meanDanger_34 : decode cX8_meanDanger 34 = .ok (.if_icmp .ge 18, 3) := by decide +kernel
theorem dX8_meanDanger_37 : decode cX8_meanDanger 37 = .ok (.iload_n 1, 1) := by decide +kernel
theorem dX8_meanDanger_38 : decode cX8_meanDanger 38 = .ok (.aload_n 0, 1) := by decide +kernel
theorem dX8_meanDanger_39 : decode cX8_meanDanger 39 = .ok (.iload_n 2, 1) := by decide +kernel
theorem dX8_meanDanger_40 : decode cX8_meanDanger 40 = .ok (.iconst 0, 1) := by decide +kernel
theorem dX8_meanDanger_41 : decode cX8_meanDanger 41 = .ok (.invokevirtual 161, 3) := by decide +kernel
theorem dX8_meanDanger_44 : decode cX8_meanDanger 44 = .ok (.iadd, 1) := by decide +kernel
theorem dX8_meanDanger_45 : decode cX8_meanDanger 45 = .ok (.istore_n 1, 1) := by decide +kernel
theorem dX8_meanDanger_46 : decode cX8_meanDanger 46 = .ok (.iinc 2 1, 3) := by decide +kernel
theorem dX8_meanDanger_49 : decode cX8_meanDanger 49 = .ok (.goto (-20), 3) := by decide +kernel
theorem dX8_meanDanger_52 : decode cX8_meanDanger 52 = .ok (.iload_n 1, 1) := by decide +kernel
theorem dX8_meanDanger_53 : decode cX8_meanDanger 53 = .ok (.i2d, 1) := by decide +kernel
theorem dX8_meanDanger_54 : decode cX8_meanDanger 54 = .ok (.aload_n 0, 1) := by decide +kernel
theorem dX8_meanDanger_55 : decode cX8_meanDanger 55 = .ok (.getfield 101, 3) := by decide +kernel
theorem dX8_meanDanger_58 : decode cX8_meanDanger 58 = .ok (.i2d, 1) := by decide +kernel
theorem dX8_meanDanger_59 : decode cX8_meanDanger 59 = .ok (.ddiv, 1) := by decide +kernel
theorem dX8_meanDanger_60 : decode cX8_meanDanger 60 = .ok (.dreturn, 1) := by decide +kernel
theorem dX8_isSound_0 : decode cX8_isSound 0 = .ok (.aload_n 0, 1) := by decide +kernel
theorem dX8_isSound_1 : decode cX8_isSound 1 = .ok (.iconst 0, 1) := by decide +kernel
theorem dX8_isSound_2 : decode cX8_isSound 2 = .ok (.putfield 88, 3) := by decide +kernel
theorem dX8_isSound_5 : decode cX8_isSound 5 = .ok (.iconst 1, 1) := by decide +kernel
theorem dX8_isSound_6 : decode cX8_isSound 6 = .ok (.ireturn, 1) := by decide +kernel

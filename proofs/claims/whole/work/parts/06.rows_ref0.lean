theorem dX8_init_0 : decode cX8_init 0 = .ok (.aload_n 0, 1) := by decide +kernel
theorem dX8_init_1 : decode cX8_init 1 = .ok (.invokespecial 1, 3) := by decide +kernel
theorem dX8_init_4 : decode cX8_init 4 = .ok (.aload_n 0, 1) := by decide +kernel
theorem dX8_init_5 : decode cX8_init 5 = .ok (.iconst 1, 1) := by decide +kernel
theorem dX8_init_6 : decode cX8_init 6 = .ok (.putfield 7, 3) := by decide +kernel
theorem dX8_init_9 : decode cX8_init 9 = .ok (.aload_n 0, 1) := by decide +kernel
theorem dX8_init_10 : decode cX8_init 10 = .ok (.bipush 64, 2) := by decide +kernel
theorem dX8_init_12 : decode cX8_init 12 = .ok (.newarray .int, 2) := by decide +kernel
theorem dX8_init_14 : decode cX8_init 14 = .ok (.putfield 13, 3) := by decide +kernel
theorem dX8_init_17 : decode cX8_init 17 = .ok (.aload_n 0, 1) := by decide +kernel
theorem dX8_init_18 : decode cX8_init 18 = .ok (.bipush 64, 2) := by decide +kernel
theorem dX8_init_20 : decode cX8_init 20 = .ok (.newarray .int, 2) := by decide +kernel
theorem dX8_init_22 : decode cX8_init 22 = .ok (.putfield 17, 3) := by decide +kernel
theorem dX8_init_25 : decode cX8_init 25 = .ok (.aload_n 0, 1) := by decide +kernel
theorem dX8_init_26 : decode cX8_init 26 = .ok (.bipush 64, 2) := by decide +kernel
theorem dX8_init_28 : decode cX8_init 28 = .ok (.newarray .int, 2) := by decide +kernel
theorem dX8_init_30 : decode cX8_init 30 = .ok (.putfield 20, 3) := by decide +kernel
theorem dX8_init_33 : decode cX8_init 33 = .ok (.aload_n 0, 1) := by decide +kernel
theorem dX8_init_34 : decode cX8_init 34 = .ok (.bipush 64, 2) := by decide +kernel
theorem dX8_init_36 : decode cX8_init 36 = .ok (.newarray .int, 2) := by decide +kernel
theorem dX8_init_38 : decode cX8_init 38 = .ok (.putfield 23, 3) := by decide +kernel
theorem dX8_init_41 : decode cX8_init 41 = .ok (.aload_n 0, 1) := by decide +kernel
theorem dX8_init_42 : decode cX8_init 42 = .ok (.bipush 64, 2) := by decide +kernel
theorem dX8_init_44 : decode cX8_init 44 = .ok (.newarray .int, 2) := by decide +kernel
theorem dX8_init_46 : decode cX8_init 46 = .ok (.putfield 26, 3) := by decide +kernel
theorem dX8_init_49 : decode cX8_init 49 = .ok (.aload_n 0, 1) := by decide +kernel
theorem dX8_init_50 : decode cX8_init 50 = .ok (.bipush 8, 2) := by decide +kernel
theorem dX8_init_52 : decode cX8_init 52 = .ok (.newarray .int, 2) := by decide +kernel
theorem dX8_init_54 : decode cX8_init 54 = .ok (.putfield 29, 3) := by decide +kernel
theorem dX8_init_57 : decode cX8_init 57 = .ok (.aload_n 0, 1) := by decide +kernel
theorem dX8_init_58 : decode cX8_init 58 = .ok (.bipush 8, 2) := by decide +kernel
theorem dX8_init_60 : decode cX8_init 60 = .ok (.newarray .boolean, 2) := by decide +kernel
theorem dX8_init_62 : decode cX8_init 62 = .ok (.putfield 32, 3) := by decide +kernel
theorem dX8_init_65 : decode cX8_init 65 = .ok (.aload_n 0, 1) := by decide +kernel
theorem dX8_init_66 : decode cX8_init 66 = .ok (.bipush 8, 2) := by decide +kernel
theorem dX8_init_68 : decode cX8_init 68 = .ok (.newarray .boolean, 2) := by decide +kernel
theorem dX8_init_70 : decode cX8_init 70 = .ok (.putfield 36, 3) := by decide +kernel
theorem dX8_init_73 : decode cX8_init 73 = .ok (.aload_n 0, 1) := by decide +kernel
theorem dX8_init_74 : decode cX8_init 74 = .ok (.bipush 8, 2) := by decide +kernel
theorem dX8_init_76 : decode cX8_init 76 = .ok (.newarray .int, 2) := by decide +kernel
theorem dX8_init_78 : decode cX8_init 78 = .ok (.putfield 39, 3) := by decide +kernel
theorem dX8_init_81 : decode cX8_init 81 = .ok (.aload_n 0, 1) := by decide +kernel
theorem dX8_init_82 : decode cX8_init 82 = .ok (.bipush 8, 2) := by decide +kernel
theorem dX8_init_84 : decode cX8_init 84 = .ok (.newarray .int, 2) := by decide +kernel
theorem dX8_init_86 : decode cX8_init 86 = .ok (.putfield 42, 3) := by decide +kernel
theorem dX8_init_89 : decode cX8_init 89 = .ok (.aload_n 0, 1) := by decide +kernel
theorem dX8_init_90 : decode cX8_init 90 = .ok (.bipush 8, 2) := by decide +kernel
theorem dX8_init_92 : decode cX8_init 92 = .ok (.newarray .int, 2) := by decide +kernel
theorem dX8_init_94 : decode cX8_init 94 = .ok (.putfield 45, 3) := by decide +kernel
theorem dX8_init_97 : decode cX8_init 97 = .ok (.aload_n 0, 1) := by decide +kernel
theorem dX8_init_98 : decode cX8_init 98 = .ok (.bipush 8, 2) := by decide +kernel
theorem dX8_init_100 : decode cX8_init 100 = .ok (.newarray .int, 2) := by decide +kernel
theorem dX8_init_102 : decode cX8_init 102 = .ok (.putfield 48, 3) := by decide +kernel
theorem dX8_init_105 : decode cX8_init 105 = .ok (.aload_n 0, 1) := by decide +kernel
theorem dX8_init_106 : decode cX8_init 106 = .ok (.bipush 8, 2) := by decide +kernel
theorem dX8_init_108 : decode cX8_init 108 = .ok (.newarray .int, 2) := by decide +kernel
theorem dX8_init_110 : decode cX8_init 110 = .ok (.putfield 51, 3) := by decide +kernel
theorem dX8_init_113 : decode cX8_init 113 = .ok (.aload_n 0, 1) := by decide +kernel
theorem dX8_init_114 : decode cX8_init 114 = .ok (.bipush 64, 2) := by decide +kernel
theorem dX8_init_116 : decode cX8_init 116 = .ok (.newarray .int, 2) := by decide +kernel
theorem dX8_init_118 : decode cX8_init 118 = .ok (.putfield 54, 3) := by decide +kernel
theorem dX8_init_121 : decode cX8_init 121 = .ok (.aload_n 0, 1) := by decide +kernel
theorem dX8_init_122 : decode cX8_init 122 = .ok (.bipush 8, 2) := by decide +kernel
theorem dX8_init_124 : decode cX8_init 124 = .ok (.newarray .int, 2) := by decide +kernel
theorem dX8_init_126 : decode cX8_init 126 = .ok (.putfield 57, 3) := by decide +kernel
theorem dX8_init_129 : decode cX8_init 129 = .ok (.aload_n 0, 1) := by decide +kernel
theorem dX8_init_130 : decode cX8_init 130 = .ok (.bipush 64, 2) := by decide +kernel
theorem dX8_init_132 : decode cX8_init 132 = .ok (.newarray .int, 2) := by decide +kernel
theorem dX8_init_134 : decode cX8_init 134 = .ok (.putfield 60, 3) := by decide +kernel
theorem dX8_init_137 : decode cX8_init 137 = .ok (.aload_n 0, 1) := by decide +kernel
theorem dX8_init_138 : decode cX8_init 138 = .ok (.iconst 5, 1) := by decide +kernel
theorem dX8_init_139 : decode cX8_init 139 = .ok (.newarray .int, 2) := by decide +kernel
theorem dX8_init_141 : decode cX8_init 141 = .ok (.putfield 63, 3) := by decide +kernel
theorem dX8_init_144 : decode cX8_init 144 = .ok (.aload_n 0, 1) := by decide +kernel
theorem dX8_init_145 : decode cX8_init 145 = .ok (.sipush 400, 3) := by decide +kernel
theorem dX8_init_148 : decode cX8_init 148 = .ok (.newarray .int, 2) := by decide +kernel
theorem dX8_init_150 : decode cX8_init 150 = .ok (.putfield 66, 3) := by decide +kernel
theorem dX8_init_153 : decode cX8_init 153 = .ok (.aload_n 0, 1) := by decide +kernel
theorem dX8_init_154 : decode cX8_init 154 = .ok (.sipush 400, 3) := by decide +kernel
theorem dX8_init_157 : decode cX8_init 157 = .ok (.newarray .int, 2) := by decide +kernel
theorem dX8_init_159 : decode cX8_init 159 = .ok (.putfield 69, 3) := by decide +kernel
theorem dX8_init_162 : decode cX8_init 162 = .ok (.aload_n 0, 1) := by decide +kernel
theorem dX8_init_163 : decode cX8_init 163 = .ok (.sipush 400, 3) := by decide +kernel
theorem dX8_init_166 : decode cX8_init 166 = .ok (.newarray .int, 2) := by decide +kernel
theorem dX8_init_168 : decode cX8_init 168 = .ok (.putfield 72, 3) := by decide +kernel
theorem dX8_init_171 : decode cX8_init 171 = .ok (.aload_n 0, 1) := by decide +kernel
theorem dX8_init_172 : decode cX8_init 172 = .ok (.iconst 3, 1) := by decide +kernel
theorem dX8_init_173 : decode cX8_init 173 = .ok (.iload_n 1, 1) := by decide +kernel
theorem dX8_init_174 : decode cX8_init 174 = .ok (.bipush 6, 2) := by decide +kernel
theorem dX8_init_176 : decode cX8_init 176 = .ok (.invokestatic 75, 3) := by decide +kernel
theorem dX8_init_179 : decode cX8_init 179 = .ok (.iadd, 1) := by decide +kernel
theorem dX8_init_180 : decode cX8_init 180 = .ok (.putfield 79, 3) := by decide +kernel
theorem dX8_init_183 : decode cX8_init 183 = .ok (.aload_n 0, 1) := by decide +kernel
theorem dX8_init_184 : decode cX8_init 184 = .ok (.iconst 1, 1) := by decide +kernel
theorem dX8_init_185 : decode cX8_init 185 = .ok (.iload_n 2, 1) := by decide +kernel
theorem dX8_init_186 : decode cX8_init 186 = .ok (.aload_n 0, 1) := by decide +kernel
theorem dX8_init_187 : decode cX8_init 187 = .ok (.getfield 79, 3) := by decide +kernel
theorem dX8_init_190 : decode cX8_init 190 = .ok (.iconst 2, 1) := by decide +kernel
theorem dX8_init_191 : decode cX8_init 191 = .ok (.isub, 1) := by decide +kernel
theorem dX8_init_192 : decode cX8_init 192 = .ok (.invokestatic 75, 3) := by decide +kernel
theorem dX8_init_195 : decode cX8_init 195 = .ok (.iadd, 1) := by decide +kernel
theorem dX8_init_196 : decode cX8_init 196 = .ok (.putfield 83, 3) := by decide +kernel
theorem dX8_init_199 : decode cX8_init 199 = .ok (.aload_n 0, 1) := by decide +kernel
theorem dX8_init_200 : decode cX8_init 200 = .ok (.aload_n 0, 1) := by decide +kernel
theorem dX8_init_201 : decode cX8_init 201 = .ok (.getfield 83, 3) := by decide +kernel
theorem dX8_init_204 : decode cX8_init 204 = .ok (.iload_n 3, 1) := by decide +kernel
theorem dX8_init_205 : decode cX8_init 205 = .ok (.aload_n 0, 1) := by decide +kernel
theorem dX8_init_206 : decode cX8_init 206 = .ok (.getfield 79, 3) := by decide +kernel
theorem dX8_init_209 : decode cX8_init 209 = .ok (.aload_n 0, 1) := by decide +kernel
theorem dX8_init_210 : decode cX8_init 210 = .ok (.getfield 83, 3) := by decide +kernel
theorem dX8_init_213 : decode cX8_init 213 = .ok (.isub, 1) := by decide +kernel
theorem dX8_init_214 : decode cX8_init 214 = .ok (.invokestatic 75, 3) := by decide +kernel
theorem dX8_init_217 : decode cX8_init 217 = .ok (.iadd, 1) := by decide +kernel
theorem dX8_init_218 : decode cX8_init 218 = .ok (.putfield 86, 3) := by decide +kernel
theorem dX8_init_221 : decode cX8_init 221 = .ok (.aload_n 0, 1) := by decide +kernel
theorem dX8_init_222 : decode cX8_init 222 = .ok (.aload_n 0, 1) := by decide +kernel
theorem dX8_init_223 : decode cX8_init 223 = .ok (.getfield 83, 3) := by decide +kernel
theorem dX8_init_226 : decode cX8_init 226 = .ok (.iload 4, 2) := by decide +kernel
theorem dX8_init_228 : decode cX8_init 228 = .ok (.aload_n 0, 1) := by decide +kernel
theorem dX8_init_229 : decode cX8_init 229 = .ok (.getfield 79, 3) := by decide +kernel
theorem dX8_init_232 : decode cX8_init 232 = .ok (.aload_n 0, 1) := by decide +kernel
theorem dX8_init_233 : decode cX8_init 233 = .ok (.getfield 83, 3) := by decide +kernel
theorem dX8_init_236 : decode cX8_init 236 = .ok (.isub, 1) := by decide +kernel
theorem dX8_init_237 : decode cX8_init 237 = .ok (.invokestatic 75, 3) := by decide +kernel
theorem dX8_init_240 : decode cX8_init 240 = .ok (.iadd, 1) := by decide +kernel
theorem dX8_init_241 : decode cX8_init 241 = .ok (.putfield 89, 3) := by decide +kernel
theorem dX8_init_244 : decode cX8_init 244 = .ok (.aload_n 0, 1) := by decide +kernel
theorem dX8_init_245 : decode cX8_init 245 = .ok (.aload_n 0, 1) := by decide +kernel
theorem dX8_init_246 : decode cX8_init 246 = .ok (.getfield 83, 3) := by decide +kernel
theorem dX8_init_249 : decode cX8_init 249 = .ok (.iload 5, 2) := by decide +kernel
theorem dX8_init_251 : decode cX8_init 251 = .ok (.aload_n 0, 1) := by decide +kernel
theorem dX8_init_252 : decode cX8_init 252 = .ok (.getfield 79, 3) := by decide +kernel
theorem dX8_init_255 : decode cX8_init 255 = .ok (.aload_n 0, 1) := by decide +kernel
theorem dX8_init_256 : decode cX8_init 256 = .ok (.getfield 83, 3) := by decide +kernel
theorem dX8_init_259 : decode cX8_init 259 = .ok (.isub, 1) := by decide +kernel
theorem dX8_init_260 : decode cX8_init 260 = .ok (.invokestatic 75, 3) := by decide +kernel
theorem dX8_init_263 : decode cX8_init 263 = .ok (.iadd, 1) := by decide +kernel
theorem dX8_init_264 : decode cX8_init 264 = .ok (.putfield 92, 3) := by decide +kernel
theorem dX8_init_267 : decode cX8_init 267 = .ok (.aload_n 0, 1) := by decide +kernel
theorem dX8_init_268 : decode cX8_init 268 = .ok (.iconst 1, 1) := by decide +kernel
theorem dX8_init_269 : decode cX8_init 269 = .ok (.iload 6, 2) := by decide +kernel
theorem dX8_init_271 : decode cX8_init 271 = .ok (.bipush 8, 2) := by decide +kernel
theorem dX8_init_273 : decode cX8_init 273 = .ok (.invokestatic 75, 3) := by decide +kernel
theorem dX8_init_276 : decode cX8_init 276 = .ok (.iadd, 1) := by decide +kernel
theorem dX8_init_277 : decode cX8_init 277 = .ok (.putfield 95, 3) := by decide +kernel
theorem dX8_init_280 : decode cX8_init 280 = .ok (.aload_n 0, 1) := by decide +kernel
theorem dX8_init_281 : decode cX8_init 281 = .ok (.invokevirtual 98, 3) := by decide +kernel
theorem dX8_init_284 : decode cX8_init 284 = .ok (.return_, 1) := by decide +kernel
theorem dX8_modulo_0 : decode cX8_modulo 0 = .ok (.iload_n 0, 1) := by decide +kernel
theorem dX8_modulo_1 : decode cX8_modulo 1 = .ok (.iload_n 1, 1) := by decide +kernel
theorem dX8_modulo_2 : decode cX8_modulo 2 = .ok (.irem, 1) := by decide +kernel
theorem dX8_modulo_3 : decode cX8_modulo 3 = .ok (.iload_n 1, 1) := by decide +kernel
theorem dX8_modulo_4 : decode cX8_modulo 4 = .ok (.iadd, 1) := by decide +kernel
theorem dX8_modulo_5 : decode cX8_modulo 5 = .ok (.iload_n 1, 1) := by decide +kernel
theorem dX8_modulo_6 : decode cX8_modulo 6 = .ok (.irem, 1) := by decide +kernel
theorem dX8_modulo_7 : decode cX8_modulo 7 = .ok (.ireturn, 1) := by decide +kernel
theorem dX8_thrown_0 : decode cX8_thrown 0 = .ok (.aload_n 0, 1) := by decide +kernel
theorem dX8_thrown_1 : decode cX8_thrown 1 = .ok (.getfield 101, 3) := by decide +kernel
theorem dX8_thrown_4 : decode cX8_thrown 4 = .ok (.ireturn, 1) := by decide +kernel
theorem dX8_fail_0 : decode cX8_fail 0 = .ok (.aload_n 0, 1) := by decide +kernel
theorem dX8_fail_1 : decode cX8_fail 1 = .ok (.iload_n 1, 1) := by decide +kernel
theorem dX8_fail_2 : decode cX8_fail 2 = .ok (.putfield 101, 3) := by decide +kernel
theorem dX8_fail_5 : decode cX8_fail 5 = .ok (.iconst 0, 1) := by decide +kernel
theorem dX8_fail_6 : decode cX8_fail 6 = .ok (.ireturn, 1) := by decide +kernel
theorem dX8_within_0 : decode cX8_within 0 = .ok (.iload_n 0, 1) := by decide +kernel
theorem dX8_within_1 : decode cX8_within 1 = .ok (.iload_n 1, 1) := by decide +kernel
theorem dX8_within_2 : decode cX8_within 2 = .ok (.if_icmp .lt 12, 3) := by decide +kernel
theorem dX8_within_5 : decode cX8_within 5 = .ok (.iload_n 0, 1) := by decide +kernel
theorem dX8_within_6 : decode cX8_within 6 = .ok (.iload_n 2, 1) := by decide +kernel
theorem dX8_within_7 : decode cX8_within 7 = .ok (.if_icmp .gt 7, 3) := by decide +kernel
theorem dX8_within_10 : decode cX8_within 10 = .ok (.iconst 1, 1) := by decide +kernel
theorem dX8_within_11 : decode cX8_within 11 = .ok (.goto 4, 3) := by decide +kernel
theorem dX8_within_14 : decode cX8_within 14 = .ok (.iconst 0, 1) := by decide +kernel
theorem dX8_within_15 : decode cX8_within 15 = .ok (.ireturn, 1) := by decide +kernel
theorem dX8_begin_0 : decode cX8_begin 0 = .ok (.aload_n 0, 1) := by decide +kernel
theorem dX8_begin_1 : decode cX8_begin 1 = .ok (.iconst 0, 1) := by decide +kernel
theorem dX8_begin_2 : decode cX8_begin 2 = .ok (.putfield 104, 3) := by decide +kernel
theorem dX8_begin_5 : decode cX8_begin 5 = .ok (.aload_n 0, 1) := by decide +kernel
theorem dX8_begin_6 : decode cX8_begin 6 = .ok (.iconst 0, 1) := by decide +kernel
theorem dX8_begin_7 : decode cX8_begin 7 = .ok (.putfield 107, 3) := by decide +kernel
theorem dX8_begin_10 : decode cX8_begin 10 = .ok (.aload_n 0, 1) := by decide +kernel
theorem dX8_begin_11 : decode cX8_begin 11 = .ok (.iconst 0, 1) := by decide +kernel
theorem dX8_begin_12 : decode cX8_begin 12 = .ok (.putfield 110, 3) := by decide +kernel
theorem dX8_begin_15 : decode cX8_begin 15 = .ok (.aload_n 0, 1) := by decide +kernel
theorem dX8_begin_16 : decode cX8_begin 16 = .ok (.iconst 0, 1) := by decide +kernel
theorem dX8_begin_17 : decode cX8_begin 17 = .ok (.putfield 113, 3) := by decide +kernel
theorem dX8_begin_20 : decode cX8_begin 20 = .ok (.aload_n 0, 1) := by decide +kernel
theorem dX8_begin_21 : decode cX8_begin 21 = .ok (.iconst 0, 1) := by decide +kernel
theorem dX8_begin_22 : decode cX8_begin 22 = .ok (.putfield 116, 3) := by decide +kernel
theorem dX8_begin_25 : decode cX8_begin 25 = .ok (.aload_n 0, 1) := by decide +kernel
theorem dX8_begin_26 : decode cX8_begin 26 = .ok (.iconst 0, 1) := by decide +kernel
theorem dX8_begin_27 : decode cX8_begin 27 = .ok (.putfield 119, 3) := by decide +kernel
theorem dX8_begin_30 : decode cX8_begin 30 = .ok (.aload_n 0, 1) := by decide +kernel
theorem dX8_begin_31 : decode cX8_begin 31 = .ok (.iconst 0, 1) := by decide +kernel
theorem dX8_begin_32 : decode cX8_begin 32 = .ok (.putfield 122, 3) := by decide +kernel
theorem dX8_begin_35 : decode cX8_begin 35 = .ok (.aload_n 0, 1) := by decide +kernel
theorem dX8_begin_36 : decode cX8_begin 36 = .ok (.iconst 0, 1) := by decide +kernel
theorem dX8_begin_37 : decode cX8_begin 37 = .ok (.putfield 125, 3) := by decide +kernel
theorem dX8_begin_40 : decode cX8_begin 40 = .ok (.aload_n 0, 1) := by decide +kernel
theorem dX8_begin_41 : decode cX8_begin 41 = .ok (.iconst 0, 1) := by decide +kernel
theorem dX8_begin_42 : decode cX8_begin 42 = .ok (.putfield 128, 3) := by decide +kernel
theorem dX8_begin_45 : decode cX8_begin 45 = .ok (.aload_n 0, 1) := by decide +kernel
theorem dX8_begin_46 : decode cX8_begin 46 = .ok (.iconst 0, 1) := by decide +kernel
theorem dX8_begin_47 : decode cX8_begin 47 = .ok (.putfield 131, 3) := by decide +kernel
theorem dX8_begin_50 : decode cX8_begin 50 = .ok (.aload_n 0, 1) := by decide +kernel
theorem dX8_begin_51 : decode cX8_begin 51 = .ok (.iconst 0, 1) := by decide +kernel
theorem dX8_begin_52 : decode cX8_begin 52 = .ok (.putfield 134, 3) := by decide +kernel
theorem dX8_begin_55 : decode cX8_begin 55 = .ok (.iconst 0, 1) := by decide +kernel
theorem dX8_begin_56 : decode cX8_begin 56 = .ok (.istore_n 1, 1) := by decide +kernel
theorem dX8_begin_57 : decode cX8_begin 57 = .ok (.iload_n 1, 1) := by decide +kernel
theorem dX8_begin_58 : decode cX8_begin 58 = .ok (.bipush 8, 2) := by decide +kernel
theorem dX8_begin_60 : decode cX8_begin 60 = .ok (.if_icmp .ge 30, 3) := by decide +kernel
theorem dX8_begin_63 : decode cX8_begin 63 = .ok (.aload_n 0, 1) := by decide +kernel
theorem dX8_begin_64 : decode cX8_begin 64 = .ok (.getfield 29, 3) := by decide +kernel
theorem dX8_begin_67 : decode cX8_begin 67 = .ok (.iload_n 1, 1) := by decide +kernel
theorem dX8_begin_68 : decode cX8_begin 68 = .ok (.iconst (-1), 1) := by decide +kernel
theorem dX8_begin_69 : decode cX8_begin 69 = .ok (.iastore, 1) := by decide +kernel
theorem dX8_begin_70 : decode cX8_begin 70 = .ok (.aload_n 0, 1) := by decide +kernel
theorem dX8_begin_71 : decode cX8_begin 71 = .ok (.getfield 51, 3) := by decide +kernel
theorem dX8_begin_74 : decode cX8_begin 74 = .ok (.iload_n 1, 1) := by decide +kernel
theorem dX8_begin_75 : decode cX8_begin 75 = .ok (.iconst 0, 1) := by decide +kernel
theorem dX8_begin_76 : decode cX8_begin 76 = .ok (.iastore, 1) := by decide +kernel
theorem dX8_begin_77 : decode cX8_begin 77 = .ok (.aload_n 0, 1) := by decide +kernel
theorem dX8_begin_78 : decode cX8_begin 78 = .ok (.getfield 57, 3) := by decide +kernel
theorem dX8_begin_81 : decode cX8_begin 81 = .ok (.iload_n 1, 1) := by decide +kernel
theorem dX8_begin_82 : decode cX8_begin 82 = .ok (.iconst 0, 1) := by decide +kernel
theorem dX8_begin_83 : decode cX8_begin 83 = .ok (.iastore, 1) := by decide +kernel
theorem dX8_begin_84 : decode cX8_begin 84 = .ok (.iinc 1 1, 3) := by decide +kernel
theorem dX8_begin_87 : decode cX8_begin 87 = .ok (.goto (-30), 3) := by decide +kernel
theorem dX8_begin_90 : decode cX8_begin 90 = .ok (.iconst 0, 1) := by decide +kernel
theorem dX8_begin_91 : decode cX8_begin 91 = .ok (.istore_n 1, 1) := by decide +kernel
theorem dX8_begin_92 : decode cX8_begin 92 = .ok (.iload_n 1, 1) := by decide +kernel
theorem dX8_begin_93 : decode cX8_begin 93 = .ok (.bipush 64, 2) := by decide +kernel
theorem dX8_begin_95 : decode cX8_begin 95 = .ok (.if_icmp .ge 23, 3) := by decide +kernel
theorem dX8_begin_98 : decode cX8_begin 98 = .ok (.aload_n 0, 1) := by decide +kernel
theorem dX8_begin_99 : decode cX8_begin 99 = .ok (.getfield 54, 3) := by decide +kernel
theorem dX8_begin_102 : decode cX8_begin 102 = .ok (.iload_n 1, 1) := by decide +kernel
theorem dX8_begin_103 : decode cX8_begin 103 = .ok (.iconst 0, 1) := by decide +kernel
theorem dX8_begin_104 : decode cX8_begin 104 = .ok (.iastore, 1) := by decide +kernel
theorem dX8_begin_105 : decode cX8_begin 105 = .ok (.aload_n 0, 1) := by decide +kernel
theorem dX8_begin_106 : decode cX8_begin 106 = .ok (.getfield 60, 3) := by decide +kernel
theorem dX8_begin_109 : decode cX8_begin 109 = .ok (.iload_n 1, 1) := by decide +kernel
theorem dX8_begin_110 : decode cX8_begin 110 = .ok (.iconst 0, 1) := by decide +kernel
theorem dX8_begin_111 : decode cX8_begin 111 = .ok (.iastore, 1) := by decide +kernel
theorem dX8_begin_112 : decode cX8_begin 112 = .ok (.iinc 1 1, 3) := by decide +kernel
theorem dX8_begin_115 : decode cX8_begin 115 = .ok (.goto (-23), 3) := by decide +kernel
theorem dX8_begin_118 : decode cX8_begin 118 = .ok (.iconst 0, 1) := by decide +kernel
theorem dX8_begin_119 : decode cX8_begin 119 = .ok (.istore_n 1, 1) := by decide +kernel
theorem dX8_begin_120 : decode cX8_begin 120 = .ok (.iload_n 1, 1) := by decide +kernel
theorem dX8_begin_121 : decode cX8_begin 121 = .ok (.iconst 5, 1) := by decide +kernel
theorem dX8_begin_122 : decode cX8_begin 122 = .ok (.if_icmp .ge 16, 3) := by decide +kernel
theorem dX8_begin_125 : decode cX8_begin 125 = .ok (.aload_n 0, 1) := by decide +kernel
theorem dX8_begin_126 : decode cX8_begin 126 = .ok (.getfield 63, 3) := by decide +kernel
theorem dX8_begin_129 : decode cX8_begin 129 = .ok (.iload_n 1, 1) := by decide +kernel
theorem dX8_begin_130 : decode cX8_begin 130 = .ok (.iconst 0, 1) := by decide +kernel
theorem dX8_begin_131 : decode cX8_begin 131 = .ok (.iastore, 1) := by decide +kernel
theorem dX8_begin_132 : decode cX8_begin 132 = .ok (.iinc 1 1, 3) := by decide +kernel
theorem dX8_begin_135 : decode cX8_begin 135 = .ok (.goto (-15), 3) := by decide +kernel
theorem dX8_begin_138 : decode cX8_begin 138 = .ok (.return_, 1) := by decide +kernel
theorem dX8_isRegister_0 : decode cX8_isRegister 0 = .ok (.iload_n 0, 1) := by decide +kernel
theorem dX8_isRegister_1 : decode cX8_isRegister 1 = .ok (.iconst 0, 1) := by decide +kernel
theorem dX8_isRegister_2 : decode cX8_isRegister 2 = .ok (.bipush 7, 2) := by decide +kernel
theorem dX8_isRegister_4 : decode cX8_isRegister 4 = .ok (.invokestatic 137, 3) := by decide +kernel
theorem dX8_isRegister_7 : decode cX8_isRegister 7 = .ok (.ireturn, 1) := by decide +kernel
theorem dX8_word_0 : decode cX8_word 0 = .ok (.aload_n 0, 1) := by decide +kernel
theorem dX8_word_1 : decode cX8_word 1 = .ok (.iconst 0, 1) := by decide +kernel
theorem dX8_word_2 : decode cX8_word 2 = .ok (.putfield 101, 3) := by decide +kernel
theorem dX8_word_5 : decode cX8_word 5 = .ok (.iload_n 1, 1) := by decide +kernel
theorem dX8_word_6 : decode cX8_word 6 = .ok (.iconst 0, 1) := by decide +kernel
theorem dX8_word_7 : decode cX8_word 7 = .ok (.bipush 7, 2) := by decide +kernel
theorem dX8_word_9 : decode cX8_word 9 = .ok (.invokestatic 137, 3) := by decide +kernel
theorem dX8_word_12 : decode cX8_word 12 = .ok (.ifCond .eq 25, 3) := by decide +kernel
theorem dX8_word_15 : decode cX8_word 15 = .ok (.iload_n 2, 1) := by decide +kernel
theorem dX8_word_16 : decode cX8_word 16 = .ok (.invokestatic 141, 3) := by decide +kernel
theorem dX8_word_19 : decode cX8_word 19 = .ok (.ifCond .eq 18, 3) := by decide +kernel
theorem dX8_word_22 : decode cX8_word 22 = .ok (.iload_n 3, 1) := by decide +kernel
theorem dX8_word_23 : decode cX8_word 23 = .ok (.invokestatic 141, 3) := by decide +kernel
theorem dX8_word_26 : decode cX8_word 26 = .ok (.ifCond .eq 11, 3) := by decide +kernel
theorem dX8_word_29 : decode cX8_word 29 = .ok (.iload 4, 2) := by decide +kernel
theorem dX8_word_31 : decode cX8_word 31 = .ok (.invokestatic 141, 3) := by decide +kernel
theorem dX8_word_34 : decode cX8_word 34 = .ok (.ifCond .ne 9, 3) := by decide +kernel
theorem dX8_word_37 : decode cX8_word 37 = .ok (.aload_n 0, 1) := by decide +kernel
theorem dX8_word_38 : decode cX8_word 38 = .ok (.iconst 1, 1) := by decide +kernel
theorem dX8_word_39 : decode cX8_word 39 = .ok (.invokevirtual 145, 3) := by decide +kernel
theorem dX8_word_42 : decode cX8_word 42 = .ok (.ireturn, 1) := by decide +kernel
theorem dX8_word_43 : decode cX8_word 43 = .ok (.aload_n 0, 1) := by decide +kernel
theorem dX8_word_44 : decode cX8_word 44 = .ok (.getfield 119, 3) := by decide +kernel
theorem dX8_word_47 : decode cX8_word 47 = .ok (.ifCond .le 9, 3) := by decide +kernel
theorem dX8_word_50 : decode cX8_word 50 = .ok (.aload_n 0, 1) := by decide +kernel
theorem dX8_word_51 : decode cX8_word 51 = .ok (.iconst 2, 1) := by decide +kernel
theorem dX8_word_52 : decode cX8_word 52 = .ok (.invokevirtual 145, 3) := by decide +kernel
theorem dX8_word_55 : decode cX8_word 55 = .ok (.ireturn, 1) := by decide +kernel
theorem dX8_word_56 : decode cX8_word 56 = .ok (.aload_n 0, 1) := by decide +kernel
theorem dX8_word_57 : decode cX8_word 57 = .ok (.getfield 104, 3) := by decide +kernel
theorem dX8_word_60 : decode cX8_word 60 = .ok (.bipush 64, 2) := by decide +kernel
theorem dX8_word_62 : decode cX8_word 62 = .ok (.if_icmp .ne 9, 3) := by decide +kernel
theorem dX8_word_65 : decode cX8_word 65 = .ok (.aload_n 0, 1) := by decide +kernel
theorem dX8_word_66 : decode cX8_word 66 = .ok (.iconst 3, 1) := by decide +kernel
theorem dX8_word_67 : decode cX8_word 67 = .ok (.invokevirtual 145, 3) := by decide +kernel
theorem dX8_word_70 : decode cX8_word 70 = .ok (.ireturn, 1) := by decide +kernel
theorem dX8_word_71 : decode cX8_word 71 = .ok (.aload_n 0, 1) := by decide +kernel
theorem dX8_word_72 : decode cX8_word 72 = .ok (.getfield 13, 3) := by decide +kernel
theorem dX8_word_75 : decode cX8_word 75 = .ok (.aload_n 0, 1) := by decide +kernel
theorem dX8_word_76 : decode cX8_word 76 = .ok (.getfield 104, 3) := by decide +kernel
theorem dX8_word_79 : decode cX8_word 79 = .ok (.iload_n 1, 1) := by decide +kernel
theorem dX8_word_80 : decode cX8_word 80 = .ok (.iastore, 1) := by decide +kernel
theorem dX8_word_81 : decode cX8_word 81 = .ok (.aload_n 0, 1) := by decide +kernel
theorem dX8_word_82 : decode cX8_word 82 = .ok (.getfield 17, 3) := by decide +kernel
theorem dX8_word_85 : decode cX8_word 85 = .ok (.aload_n 0, 1) := by decide +kernel
theorem dX8_word_86 : decode cX8_word 86 = .ok (.getfield 104, 3) := by decide +kernel
theorem dX8_word_89 : decode cX8_word 89 = .ok (.iload_n 2, 1) := by decide +kernel
theorem dX8_word_90 : decode cX8_word 90 = .ok (.iastore, 1) := by decide +kernel
theorem dX8_word_91 : decode cX8_word 91 = .ok (.aload_n 0, 1) := by decide +kernel
theorem dX8_word_92 : decode cX8_word 92 = .ok (.getfield 20, 3) := by decide +kernel
theorem dX8_word_95 : decode cX8_word 95 = .ok (.aload_n 0, 1) := by decide +kernel
theorem dX8_word_96 : decode cX8_word 96 = .ok (.getfield 104, 3) := by decide +kernel
theorem dX8_word_99 : decode cX8_word 99 = .ok (.iload_n 3, 1) := by decide +kernel
theorem dX8_word_100 : decode cX8_word 100 = .ok (.iastore, 1) := by decide +kernel
theorem dX8_word_101 : decode cX8_word 101 = .ok (.aload_n 0, 1) := by decide +kernel
theorem dX8_word_102 : decode cX8_word 102 = .ok (.getfield 23, 3) := by decide +kernel
theorem dX8_word_105 : decode cX8_word 105 = .ok (.aload_n 0, 1) := by decide +kernel
theorem dX8_word_106 : decode cX8_word 106 = .ok (.getfield 104, 3) := by decide +kernel
theorem dX8_word_109 : decode cX8_word 109 = .ok (.iload 4, 2) := by decide +kernel
theorem dX8_word_111 : decode cX8_word 111 = .ok (.iastore, 1) := by decide +kernel
theorem dX8_word_112 : decode cX8_word 112 = .ok (.aload_n 0, 1) := by decide +kernel
theorem dX8_word_113 : decode cX8_word 113 = .ok (.getfield 26, 3) := by decide +kernel
theorem dX8_word_116 : decode cX8_word 116 = .ok (.aload_n 0, 1) := by decide +kernel
theorem dX8_word_117 : decode cX8_word 117 = .ok (.getfield 104, 3) := by decide +kernel
theorem dX8_word_120 : decode cX8_word 120 = .ok (.iload 5, 2) := by decide +kernel
theorem dX8_word_122 : decode cX8_word 122 = .ok (.iastore, 1) := by decide +kernel
theorem dX8_word_123 : decode cX8_word 123 = .ok (.aload_n 0, 1) := by decide +kernel
theorem dX8_word_124 : decode cX8_word 124 = .ok (.dup, 1) := by decide +kernel
theorem dX8_word_125 : decode cX8_word 125 = .ok (.getfield 104, 3) := by decide +kernel
theorem dX8_word_128 : decode cX8_word 128 = .ok (.iconst 1, 1) := by decide +kernel
theorem dX8_word_129 : decode cX8_word 129 = .ok (.iadd, 1) := by decide +kernel
theorem dX8_word_130 : decode cX8_word 130 = .ok (.putfield 104, 3) := by decide +kernel
theorem dX8_word_133 : decode cX8_word 133 = .ok (.aload_n 0, 1) := by decide +kernel
theorem dX8_word_134 : decode cX8_word 134 = .ok (.getfield 104, 3) := by decide +kernel
theorem dX8_word_137 : decode cX8_word 137 = .ok (.iconst 1, 1) := by decide +kernel
theorem dX8_word_138 : decode cX8_word 138 = .ok (.isub, 1) := by decide +kernel
theorem dX8_word_139 : decode cX8_word 139 = .ok (.ireturn, 1) := by decide +kernel
theorem dX8_set_0 : decode cX8_set 0 = .ok (.aload_n 0, 1) := by decide +kernel
theorem dX8_set_1 : decode cX8_set 1 = .ok (.iload_n 2, 1) := by decide +kernel
theorem dX8_set_2 : decode cX8_set 2 = .ok (.iconst 0, 1) := by decide +kernel
theorem dX8_set_3 : decode cX8_set 3 = .ok (.bipush 63, 2) := by decide +kernel
theorem dX8_set_5 : decode cX8_set 5 = .ok (.invokestatic 137, 3) := by decide +kernel
theorem dX8_set_8 : decode cX8_set 8 = .ok (.ifCond .ne 7, 3) := by decide +kernel
theorem dX8_set_11 : decode cX8_set 11 = .ok (.iconst 1, 1) := by decide +kernel
theorem dX8_set_12 : decode cX8_set 12 = .ok (.goto 15, 3) := by decide +kernel
theorem dX8_set_15 : decode cX8_set 15 = .ok (.aload_n 0, 1) := by decide +kernel
theorem dX8_set_16 : decode cX8_set 16 = .ok (.getfield 119, 3) := by decide +kernel
theorem dX8_set_19 : decode cX8_set 19 = .ok (.ifCond .le 7, 3) := by decide +kernel
theorem dX8_set_22 : decode cX8_set 22 = .ok (.iconst 2, 1) := by decide +kernel
theorem dX8_set_23 : decode cX8_set 23 = .ok (.goto 4, 3) := by decide +kernel
theorem dX8_set_26 : decode cX8_set 26 = .ok (.iconst 0, 1) := by decide +kernel
theorem dX8_set_27 : decode cX8_set 27 = .ok (.putfield 101, 3) := by decide +kernel
theorem dX8_set_30 : decode cX8_set 30 = .ok (.aload_n 0, 1) := by decide +kernel
theorem dX8_set_31 : decode cX8_set 31 = .ok (.getfield 101, 3) := by decide +kernel
theorem dX8_set_34 : decode cX8_set 34 = .ok (.ifCond .le 5, 3) := by decide +kernel
theorem dX8_set_37 : decode cX8_set 37 = .ok (.iconst 0, 1) := by decide +kernel
theorem dX8_set_38 : decode cX8_set 38 = .ok (.ireturn, 1) := by decide +kernel
theorem dX8_set_39 : decode cX8_set 39 = .ok (.aload_n 0, 1) := by decide +kernel
theorem dX8_set_40 : decode cX8_set 40 = .ok (.getfield 7, 3) := by decide +kernel
theorem dX8_set_43 : decode cX8_set 43 = .ok (.istore_n 3, 1) := by decide +kernel
theorem dX8_set_44 : decode cX8_set 44 = .ok (.aload_n 0, 1) := by decide +kernel
theorem dX8_set_45 : decode cX8_set 45 = .ok (.iload_n 1, 1) := by decide +kernel
theorem dX8_set_46 : decode cX8_set 46 = .ok (.putfield 7, 3) := by decide +kernel
theorem dX8_set_49 : decode cX8_set 49 = .ok (.aload_n 0, 1) := by decide +kernel
theorem dX8_set_50 : decode cX8_set 50 = .ok (.iload_n 2, 1) := by decide +kernel
theorem dX8_set_51 : decode cX8_set 51 = .ok (.putfield 149, 3) := by decide +kernel
theorem dX8_set_54 : decode cX8_set 54 = .ok (.iload_n 3, 1) := by decide +kernel
theorem dX8_set_55 : decode cX8_set 55 = .ok (.ireturn, 1) := by decide +kernel
theorem dX8_clear_0 : decode cX8_clear 0 = .ok (.aload_n 0, 1) := by decide +kernel
theorem dX8_clear_1 : decode cX8_clear 1 = .ok (.iconst 0, 1) := by decide +kernel
theorem dX8_clear_2 : decode cX8_clear 2 = .ok (.putfield 101, 3) := by decide +kernel
theorem dX8_clear_5 : decode cX8_clear 5 = .ok (.aload_n 0, 1) := by decide +kernel
theorem dX8_clear_6 : decode cX8_clear 6 = .ok (.getfield 119, 3) := by decide +kernel
theorem dX8_clear_9 : decode cX8_clear 9 = .ok (.istore_n 1, 1) := by decide +kernel
theorem dX8_clear_10 : decode cX8_clear 10 = .ok (.aload_n 0, 1) := by decide +kernel
theorem dX8_clear_11 : decode cX8_clear 11 = .ok (.invokevirtual 98, 3) := by decide +kernel
theorem dX8_clear_14 : decode cX8_clear 14 = .ok (.iload_n 1, 1) := by decide +kernel
theorem dX8_clear_15 : decode cX8_clear 15 = .ok (.ireturn, 1) := by decide +kernel
theorem dX8_writes_0 : decode cX8_writes 0 = .ok (.aload_n 0, 1) := by decide +kernel
theorem dX8_writes_1 : decode cX8_writes 1 = .ok (.getfield 13, 3) := by decide +kernel
theorem dX8_writes_4 : decode cX8_writes 4 = .ok (.iload_n 1, 1) := by decide +kernel
theorem dX8_writes_5 : decode cX8_writes 5 = .ok (.iaload, 1) := by decide +kernel
theorem dX8_writes_6 : decode cX8_writes 6 = .ok (.ifCond .eq 34, 3) := by decide +kernel
theorem dX8_writes_9 : decode cX8_writes 9 = .ok (.aload_n 0, 1) := by decide +kernel
theorem dX8_writes_10 : decode cX8_writes 10 = .ok (.getfield 13, 3) := by decide +kernel
theorem dX8_writes_13 : decode cX8_writes 13 = .ok (.iload_n 1, 1) := by decide +kernel
theorem dX8_writes_14 : decode cX8_writes 14 = .ok (.iaload, 1) := by decide +kernel
theorem dX8_writes_15 : decode cX8_writes 15 = .ok (.iconst 1, 1) := by decide +kernel
theorem dX8_writes_16 : decode cX8_writes 16 = .ok (.if_icmp .eq 24, 3) := by decide +kernel
theorem dX8_writes_19 : decode cX8_writes 19 = .ok (.aload_n 0, 1) := by decide +kernel
theorem dX8_writes_20 : decode cX8_writes 20 = .ok (.getfield 13, 3) := by decide +kernel
theorem dX8_writes_23 : decode cX8_writes 23 = .ok (.iload_n 1, 1) := by decide +kernel
theorem dX8_writes_24 : decode cX8_writes 24 = .ok (.iaload, 1) := by decide +kernel
theorem dX8_writes_25 : decode cX8_writes 25 = .ok (.iconst 3, 1) := by decide +kernel
theorem dX8_writes_26 : decode cX8_writes 26 = .ok (.if_icmp .eq 14, 3) := by decide +kernel
theorem dX8_writes_29 : decode cX8_writes 29 = .ok (.aload_n 0, 1) := by decide +kernel
theorem dX8_writes_30 : decode cX8_writes 30 = .ok (.getfield 13, 3) := by decide +kernel
theorem dX8_writes_33 : decode cX8_writes 33 = .ok (.iload_n 1, 1) := by decide +kernel
theorem dX8_writes_34 : decode cX8_writes 34 = .ok (.iaload, 1) := by decide +kernel
theorem dX8_writes_35 : decode cX8_writes 35 = .ok (.bipush 7, 2) := by decide +kernel
theorem dX8_writes_37 : decode cX8_writes 37 = .ok (.if_icmp .ne 7, 3) := by decide +kernel
theorem dX8_writes_40 : decode cX8_writes 40 = .ok (.iconst 1, 1) := by decide +kernel
theorem dX8_writes_41 : decode cX8_writes 41 = .ok (.goto 4, 3) := by decide +kernel
theorem dX8_writes_44 : decode cX8_writes 44 = .ok (.iconst 0, 1) := by decide +kernel
theorem dX8_writes_45 : decode cX8_writes 45 = .ok (.ireturn, 1) := by decide +kernel
theorem dX8_readsA_0 : decode cX8_readsA 0 = .ok (.aload_n 0, 1) := by decide +kernel
theorem dX8_readsA_1 : decode cX8_readsA 1 = .ok (.getfield 13, 3) := by decide +kernel
theorem dX8_readsA_4 : decode cX8_readsA 4 = .ok (.iload_n 1, 1) := by decide +kernel
theorem dX8_readsA_5 : decode cX8_readsA 5 = .ok (.iaload, 1) := by decide +kernel
theorem dX8_readsA_6 : decode cX8_readsA 6 = .ok (.iconst 5, 1) := by decide +kernel
theorem dX8_readsA_7 : decode cX8_readsA 7 = .ok (.if_icmp .ge 7, 3) := by decide +kernel
theorem dX8_readsA_10 : decode cX8_readsA 10 = .ok (.iconst 1, 1) := by decide +kernel
theorem dX8_readsA_11 : decode cX8_readsA 11 = .ok (.goto 4, 3) := by decide +kernel
theorem dX8_readsA_14 : decode cX8_readsA 14 = .ok (.iconst 0, 1) := by decide +kernel
theorem dX8_readsA_15 : decode cX8_readsA 15 = .ok (.ireturn, 1) := by decide +kernel
theorem dX8_readsB_0 : decode cX8_readsB 0 = .ok (.aload_n 0, 1) := by decide +kernel
theorem dX8_readsB_1 : decode cX8_readsB 1 = .ok (.getfield 13, 3) := by decide +kernel
theorem dX8_readsB_4 : decode cX8_readsB 4 = .ok (.iload_n 1, 1) := by decide +kernel
theorem dX8_readsB_5 : decode cX8_readsB 5 = .ok (.iaload, 1) := by decide +kernel
theorem dX8_readsB_6 : decode cX8_readsB 6 = .ok (.ifCond .eq 23, 3) := by decide +kernel
theorem dX8_readsB_9 : decode cX8_readsB 9 = .ok (.aload_n 0, 1) := by decide +kernel
theorem dX8_readsB_10 : decode cX8_readsB 10 = .ok (.getfield 13, 3) := by decide +kernel
theorem dX8_readsB_13 : decode cX8_readsB 13 = .ok (.iload_n 1, 1) := by decide +kernel
theorem dX8_readsB_14 : decode cX8_readsB 14 = .ok (.iaload, 1) := by decide +kernel
theorem dX8_readsB_15 : decode cX8_readsB 15 = .ok (.iconst 2, 1) := by decide +kernel
theorem dX8_readsB_16 : decode cX8_readsB 16 = .ok (.if_icmp .eq 13, 3) := by decide +kernel
theorem dX8_readsB_19 : decode cX8_readsB 19 = .ok (.aload_n 0, 1) := by decide +kernel
theorem dX8_readsB_20 : decode cX8_readsB 20 = .ok (.getfield 13, 3) := by decide +kernel
theorem dX8_readsB_23 : decode cX8_readsB 23 = .ok (.iload_n 1, 1) := by decide +kernel
theorem dX8_readsB_24 : decode cX8_readsB 24 = .ok (.iaload, 1) := by decide +kernel
theorem dX8_readsB_25 : decode cX8_readsB 25 = .ok (.iconst 3, 1) := by decide +kernel
theorem dX8_readsB_26 : decode cX8_readsB 26 = .ok (.if_icmp .ne 7, 3) := by decide +kernel
theorem dX8_readsB_29 : decode cX8_readsB 29 = .ok (.iconst 1, 1) := by decide +kernel
theorem dX8_readsB_30 : decode cX8_readsB 30 = .ok (.goto 4, 3) := by decide +kernel
theorem dX8_readsB_33 : decode cX8_readsB 33 = .ok (.iconst 0, 1) := by decide +kernel
theorem dX8_readsB_34 : decode cX8_readsB 34 = .ok (.ireturn, 1) := by decide +kernel
theorem dX8_isThere_0 : decode cX8_isThere 0 = .ok (.aload_n 0, 1) := by decide +kernel
theorem dX8_isThere_1 : decode cX8_isThere 1 = .ok (.getfield 83, 3) := by decide +kernel
theorem dX8_isThere_4 : decode cX8_isThere 4 = .ok (.iconst 1, 1) := by decide +kernel
theorem dX8_isThere_5 : decode cX8_isThere 5 = .ok (.iadd, 1) := by decide +kernel
theorem dX8_isThere_6 : decode cX8_isThere 6 = .ok (.istore_n 2, 1) := by decide +kernel
theorem dX8_isThere_7 : decode cX8_isThere 7 = .ok (.iload_n 2, 1) := by decide +kernel
theorem dX8_isThere_8 : decode cX8_isThere 8 = .ok (.aload_n 0, 1) := by decide +kernel
theorem dX8_isThere_9 : decode cX8_isThere 9 = .ok (.getfield 79, 3) := by decide +kernel
theorem dX8_isThere_12 : decode cX8_isThere 12 = .ok (.if_icmp .ge 46, 3) := by decide +kernel
theorem dX8_isThere_15 : decode cX8_isThere 15 = .ok (.aload_n 0, 1) := by decide +kernel
theorem dX8_isThere_16 : decode cX8_isThere 16 = .ok (.getfield 29, 3) := by decide +kernel
theorem dX8_isThere_19 : decode cX8_isThere 19 = .ok (.iload_n 2, 1) := by decide +kernel
theorem dX8_isThere_20 : decode cX8_isThere 20 = .ok (.iaload, 1) := by decide +kernel
theorem dX8_isThere_21 : decode cX8_isThere 21 = .ok (.ifCond .lt 31, 3) := by decide +kernel
theorem dX8_isThere_24 : decode cX8_isThere 24 = .ok (.aload_n 0, 1) := by decide +kernel
theorem dX8_isThere_25 : decode cX8_isThere 25 = .ok (.aload_n 0, 1) := by decide +kernel
theorem dX8_isThere_26 : decode cX8_isThere 26 = .ok (.getfield 29, 3) := by decide +kernel
theorem dX8_isThere_29 : decode cX8_isThere 29 = .ok (.iload_n 2, 1) := by decide +kernel
theorem dX8_isThere_30 : decode cX8_isThere 30 = .ok (.iaload, 1) := by decide +kernel
theorem dX8_isThere_31 : decode cX8_isThere 31 = .ok (.invokevirtual 152, 3) := by decide +kernel
theorem dX8_isThere_34 : decode cX8_isThere 34 = .ok (.ifCond .eq 18, 3) := by decide +kernel
theorem dX8_isThere_37 : decode cX8_isThere 37 = .ok (.aload_n 0, 1) := by decide +kernel
theorem dX8_isThere_38 : decode cX8_isThere 38 = .ok (.getfield 17, 3) := by decide +kernel
theorem dX8_isThere_41 : decode cX8_isThere 41 = .ok (.aload_n 0, 1) := by decide +kernel
theorem dX8_isThere_42 : decode cX8_isThere 42 = .ok (.getfield 29, 3) := by decide +kernel
theorem dX8_isThere_45 : decode cX8_isThere 45 = .ok (.iload_n 2, 1) := by decide +kernel
theorem dX8_isThere_46 : decode cX8_isThere 46 = .ok (.iaload, 1) := by decide +kernel
theorem dX8_isThere_47 : decode cX8_isThere 47 = .ok (.iaload, 1) := by decide +kernel
theorem dX8_isThere_48 : decode cX8_isThere 48 = .ok (.iload_n 1, 1) := by decide +kernel
theorem dX8_isThere_49 : decode cX8_isThere 49 = .ok (.if_icmp .eq 9, 3) := by decide +kernel
theorem dX8_isThere_52 : decode cX8_isThere 52 = .ok (.iinc 2 1, 3) := by decide +kernel
theorem dX8_isThere_55 : decode cX8_isThere 55 = .ok (.goto (-48), 3) := by decide +kernel
theorem dX8_isThere_58 : decode cX8_isThere 58 = .ok (.iload_n 2, 1) := by decide +kernel
theorem dX8_isThere_59 : decode cX8_isThere 59 = .ok (.aload_n 0, 1) := by decide +kernel
theorem dX8_isThere_60 : decode cX8_isThere 60 = .ok (.getfield 79, 3) := by decide +kernel
theorem dX8_isThere_63 : decode cX8_isThere 63 = .ok (.if_icmp .eq 40, 3) := by decide +kernel
theorem dX8_isThere_66 : decode cX8_isThere 66 = .ok (.aload_n 0, 1) := by decide +kernel
theorem dX8_isThere_67 : decode cX8_isThere 67 = .ok (.getfield 7, 3) := by decide +kernel
theorem dX8_isThere_70 : decode cX8_isThere 70 = .ok (.ifCond .eq 37, 3) := by decide +kernel
theorem dX8_isThere_73 : decode cX8_isThere 73 = .ok (.iload_n 2, 1) := by decide +kernel
theorem dX8_isThere_74 : decode cX8_isThere 74 = .ok (.aload_n 0, 1) := by decide +kernel
theorem dX8_isThere_75 : decode cX8_isThere 75 = .ok (.getfield 13, 3) := by decide +kernel
theorem dX8_isThere_78 : decode cX8_isThere 78 = .ok (.aload_n 0, 1) := by decide +kernel
theorem dX8_isThere_79 : decode cX8_isThere 79 = .ok (.getfield 29, 3) := by decide +kernel
theorem dX8_isThere_82 : decode cX8_isThere 82 = .ok (.iload_n 2, 1) := by decide +kernel
theorem dX8_isThere_83 : decode cX8_isThere 83 = .ok (.iaload, 1) := by decide +kernel
theorem dX8_isThere_84 : decode cX8_isThere 84 = .ok (.iaload, 1) := by decide +kernel
theorem dX8_isThere_85 : decode cX8_isThere 85 = .ok (.iconst 1, 1) := by decide +kernel
theorem dX8_isThere_86 : decode cX8_isThere 86 = .ok (.if_icmp .ne 10, 3) := by decide +kernel
theorem dX8_isThere_89 : decode cX8_isThere 89 = .ok (.aload_n 0, 1) := by decide +kernel
theorem dX8_isThere_90 : decode cX8_isThere 90 = .ok (.getfield 89, 3) := by decide +kernel
theorem dX8_isThere_93 : decode cX8_isThere 93 = .ok (.goto 7, 3) := by decide +kernel
theorem dX8_isThere_96 : decode cX8_isThere 96 = .ok (.aload_n 0, 1) := by decide +kernel
theorem dX8_isThere_97 : decode cX8_isThere 97 = .ok (.getfield 86, 3) := by decide +kernel
theorem dX8_isThere_100 : decode cX8_isThere 100 = .ok (.if_icmp .le 7, 3) := by decide +kernel
theorem dX8_isThere_103 : decode cX8_isThere 103 = .ok (.iconst 1, 1) := by decide +kernel
theorem dX8_isThere_104 : decode cX8_isThere 104 = .ok (.goto 4, 3) := by decide +kernel
theorem dX8_isThere_107 : decode cX8_isThere 107 = .ok (.iconst 0, 1) := by decide +kernel
theorem dX8_isThere_108 : decode cX8_isThere 108 = .ok (.ireturn, 1) := by decide +kernel
theorem dX8_isReady_0 : decode cX8_isReady 0 = .ok (.aload_n 0, 1) := by decide +kernel
theorem dX8_isReady_1 : decode cX8_isReady 1 = .ok (.iload_n 1, 1) := by decide +kernel
theorem dX8_isReady_2 : decode cX8_isReady 2 = .ok (.invokevirtual 155, 3) := by decide +kernel
theorem dX8_isReady_5 : decode cX8_isReady 5 = .ok (.ifCond .eq 16, 3) := by decide +kernel
theorem dX8_isReady_8 : decode cX8_isReady 8 = .ok (.aload_n 0, 1) := by decide +kernel
theorem dX8_isReady_9 : decode cX8_isReady 9 = .ok (.aload_n 0, 1) := by decide +kernel
theorem dX8_isReady_10 : decode cX8_isReady 10 = .ok (.getfield 20, 3) := by decide +kernel
theorem dX8_isReady_13 : decode cX8_isReady 13 = .ok (.iload_n 1, 1) := by decide +kernel
theorem dX8_isReady_14 : decode cX8_isReady 14 = .ok (.iaload, 1) := by decide +kernel
theorem dX8_isReady_15 : decode cX8_isReady 15 = .ok (.invokevirtual 158, 3) := by decide +kernel
theorem dX8_isReady_18 : decode cX8_isReady 18 = .ok (.ifCond .eq 28, 3) := by decide +kernel
theorem dX8_isReady_21 : decode cX8_isReady 21 = .ok (.aload_n 0, 1) := by decide +kernel
theorem dX8_isReady_22 : decode cX8_isReady 22 = .ok (.iload_n 1, 1) := by decide +kernel
theorem dX8_isReady_23 : decode cX8_isReady 23 = .ok (.invokevirtual 161, 3) := by decide +kernel
theorem dX8_isReady_26 : decode cX8_isReady 26 = .ok (.ifCond .eq 16, 3) := by decide +kernel
theorem dX8_isReady_29 : decode cX8_isReady 29 = .ok (.aload_n 0, 1) := by decide +kernel
theorem dX8_isReady_30 : decode cX8_isReady 30 = .ok (.aload_n 0, 1) := by decide +kernel
theorem dX8_isReady_31 : decode cX8_isReady 31 = .ok (.getfield 23, 3) := by decide +kernel
theorem dX8_isReady_34 : decode cX8_isReady 34 = .ok (.iload_n 1, 1) := by decide +kernel
theorem dX8_isReady_35 : decode cX8_isReady 35 = .ok (.iaload, 1) := by decide +kernel
theorem dX8_isReady_36 : decode cX8_isReady 36 = .ok (.invokevirtual 158, 3) := by decide +kernel
theorem dX8_isReady_39 : decode cX8_isReady 39 = .ok (.ifCond .eq 7, 3) := by decide +kernel
theorem dX8_isReady_42 : decode cX8_isReady 42 = .ok (.iconst 1, 1) := by decide +kernel
theorem dX8_isReady_43 : decode cX8_isReady 43 = .ok (.goto 4, 3) := by decide +kernel
theorem dX8_isReady_46 : decode cX8_isReady 46 = .ok (.iconst 0, 1) := by decide +kernel
theorem dX8_isReady_47 : decode cX8_isReady 47 = .ok (.ireturn, 1) := by decide +kernel
theorem dX8_moveOn_0 : decode cX8_moveOn 0 = .ok (.aload_n 0, 1) := by decide +kernel
theorem dX8_moveOn_1 : decode cX8_moveOn 1 = .ok (.getfield 29, 3) := by decide +kernel
theorem dX8_moveOn_4 : decode cX8_moveOn 4 = .ok (.iload_n 1, 1) := by decide +kernel
theorem dX8_moveOn_5 : decode cX8_moveOn 5 = .ok (.iconst 1, 1) := by decide +kernel
theorem dX8_moveOn_6 : decode cX8_moveOn 6 = .ok (.iadd, 1) := by decide +kernel
theorem dX8_moveOn_7 : decode cX8_moveOn 7 = .ok (.aload_n 0, 1) := by decide +kernel
theorem dX8_moveOn_8 : decode cX8_moveOn 8 = .ok (.getfield 29, 3) := by decide +kernel
theorem dX8_moveOn_11 : decode cX8_moveOn 11 = .ok (.iload_n 1, 1) := by decide +kernel
theorem dX8_moveOn_12 : decode cX8_moveOn 12 = .ok (.iaload, 1) := by decide +kernel
theorem dX8_moveOn_13 : decode cX8_moveOn 13 = .ok (.iastore, 1) := by decide +kernel
theorem dX8_moveOn_14 : decode cX8_moveOn 14 = .ok (.aload_n 0, 1) := by decide +kernel
theorem dX8_moveOn_15 : decode cX8_moveOn 15 = .ok (.getfield 32, 3) := by decide +kernel
theorem dX8_moveOn_18 : decode cX8_moveOn 18 = .ok (.iload_n 1, 1) := by decide +kernel
theorem dX8_moveOn_19 : decode cX8_moveOn 19 = .ok (.iconst 1, 1) := by decide +kernel
theorem dX8_moveOn_20 : decode cX8_moveOn 20 = .ok (.iadd, 1) := by decide +kernel
theorem dX8_moveOn_21 : decode cX8_moveOn 21 = .ok (.aload_n 0, 1) := by decide +kernel
theorem dX8_moveOn_22 : decode cX8_moveOn 22 = .ok (.getfield 32, 3) := by decide +kernel
theorem dX8_moveOn_25 : decode cX8_moveOn 25 = .ok (.iload_n 1, 1) := by decide +kernel
theorem dX8_moveOn_26 : decode cX8_moveOn 26 = .ok (.baload, 1) := by decide +kernel
theorem dX8_moveOn_27 : decode cX8_moveOn 27 = .ok (.bastore, 1) := by decide +kernel
theorem dX8_moveOn_28 : decode cX8_moveOn 28 = .ok (.aload_n 0, 1) := by decide +kernel
theorem dX8_moveOn_29 : decode cX8_moveOn 29 = .ok (.getfield 36, 3) := by decide +kernel
theorem dX8_moveOn_32 : decode cX8_moveOn 32 = .ok (.iload_n 1, 1) := by decide +kernel
theorem dX8_moveOn_33 : decode cX8_moveOn 33 = .ok (.iconst 1, 1) := by decide +kernel
theorem dX8_moveOn_34 : decode cX8_moveOn 34 = .ok (.iadd, 1) := by decide +kernel
theorem dX8_moveOn_35 : decode cX8_moveOn 35 = .ok (.aload_n 0, 1) := by decide +kernel
theorem dX8_moveOn_36 : decode cX8_moveOn 36 = .ok (.getfield 36, 3) := by decide +kernel
theorem dX8_moveOn_39 : decode cX8_moveOn 39 = .ok (.iload_n 1, 1) := by decide +kernel
theorem dX8_moveOn_40 : decode cX8_moveOn 40 = .ok (.baload, 1) := by decide +kernel
theorem dX8_moveOn_41 : decode cX8_moveOn 41 = .ok (.bastore, 1) := by decide +kernel
theorem dX8_moveOn_42 : decode cX8_moveOn 42 = .ok (.aload_n 0, 1) := by decide +kernel
theorem dX8_moveOn_43 : decode cX8_moveOn 43 = .ok (.getfield 39, 3) := by decide +kernel
theorem dX8_moveOn_46 : decode cX8_moveOn 46 = .ok (.iload_n 1, 1) := by decide +kernel
theorem dX8_moveOn_47 : decode cX8_moveOn 47 = .ok (.iconst 1, 1) := by decide +kernel
theorem dX8_moveOn_48 : decode cX8_moveOn 48 = .ok (.iadd, 1) := by decide +kernel
theorem dX8_moveOn_49 : decode cX8_moveOn 49 = .ok (.aload_n 0, 1) := by decide +kernel
theorem dX8_moveOn_50 : decode cX8_moveOn 50 = .ok (.getfield 39, 3) := by decide +kernel
theorem dX8_moveOn_53 : decode cX8_moveOn 53 = .ok (.iload_n 1, 1) := by decide +kernel
theorem dX8_moveOn_54 : decode cX8_moveOn 54 = .ok (.iaload, 1) := by decide +kernel
theorem dX8_moveOn_55 : decode cX8_moveOn 55 = .ok (.iastore, 1) := by decide +kernel
theorem dX8_moveOn_56 : decode cX8_moveOn 56 = .ok (.aload_n 0, 1) := by decide +kernel
theorem dX8_moveOn_57 : decode cX8_moveOn 57 = .ok (.getfield 42, 3) := by decide +kernel
theorem dX8_moveOn_60 : decode cX8_moveOn 60 = .ok (.iload_n 1, 1) := by decide +kernel
theorem dX8_moveOn_61 : decode cX8_moveOn 61 = .ok (.iconst 1, 1) := by decide +kernel
theorem dX8_moveOn_62 : decode cX8_moveOn 62 = .ok (.iadd, 1) := by decide +kernel
theorem dX8_moveOn_63 : decode cX8_moveOn 63 = .ok (.aload_n 0, 1) := by decide +kernel
theorem dX8_moveOn_64 : decode cX8_moveOn 64 = .ok (.getfield 42, 3) := by decide +kernel
theorem dX8_moveOn_67 : decode cX8_moveOn 67 = .ok (.iload_n 1, 1) := by decide +kernel
theorem dX8_moveOn_68 : decode cX8_moveOn 68 = .ok (.iaload, 1) := by decide +kernel
theorem dX8_moveOn_69 : decode cX8_moveOn 69 = .ok (.iastore, 1) := by decide +kernel
theorem dX8_moveOn_70 : decode cX8_moveOn 70 = .ok (.aload_n 0, 1) := by decide +kernel
theorem dX8_moveOn_71 : decode cX8_moveOn 71 = .ok (.getfield 45, 3) := by decide +kernel
theorem dX8_moveOn_74 : decode cX8_moveOn 74 = .ok (.iload_n 1, 1) := by decide +kernel
theorem dX8_moveOn_75 : decode cX8_moveOn 75 = .ok (.iconst 1, 1) := by decide +kernel
theorem dX8_moveOn_76 : decode cX8_moveOn 76 = .ok (.iadd, 1) := by decide +kernel
theorem dX8_moveOn_77 : decode cX8_moveOn 77 = .ok (.aload_n 0, 1) := by decide +kernel
theorem dX8_moveOn_78 : decode cX8_moveOn 78 = .ok (.getfield 45, 3) := by decide +kernel
theorem dX8_moveOn_81 : decode cX8_moveOn 81 = .ok (.iload_n 1, 1) := by decide +kernel
theorem dX8_moveOn_82 : decode cX8_moveOn 82 = .ok (.iaload, 1) := by decide +kernel
theorem dX8_moveOn_83 : decode cX8_moveOn 83 = .ok (.iastore, 1) := by decide +kernel
theorem dX8_moveOn_84 : decode cX8_moveOn 84 = .ok (.aload_n 0, 1) := by decide +kernel
theorem dX8_moveOn_85 : decode cX8_moveOn 85 = .ok (.getfield 48, 3) := by decide +kernel
theorem dX8_moveOn_88 : decode cX8_moveOn 88 = .ok (.iload_n 1, 1) := by decide +kernel
theorem dX8_moveOn_89 : decode cX8_moveOn 89 = .ok (.iconst 1, 1) := by decide +kernel
theorem dX8_moveOn_90 : decode cX8_moveOn 90 = .ok (.iadd, 1) := by decide +kernel
theorem dX8_moveOn_91 : decode cX8_moveOn 91 = .ok (.aload_n 0, 1) := by decide +kernel
theorem dX8_moveOn_92 : decode cX8_moveOn 92 = .ok (.getfield 48, 3) := by decide +kernel
theorem dX8_moveOn_95 : decode cX8_moveOn 95 = .ok (.iload_n 1, 1) := by decide +kernel
theorem dX8_moveOn_96 : decode cX8_moveOn 96 = .ok (.iaload, 1) := by decide +kernel
theorem dX8_moveOn_97 : decode cX8_moveOn 97 = .ok (.iastore, 1) := by decide +kernel
theorem dX8_moveOn_98 : decode cX8_moveOn 98 = .ok (.aload_n 0, 1) := by decide +kernel
theorem dX8_moveOn_99 : decode cX8_moveOn 99 = .ok (.getfield 29, 3) := by decide +kernel
theorem dX8_moveOn_102 : decode cX8_moveOn 102 = .ok (.iload_n 1, 1) := by decide +kernel
theorem dX8_moveOn_103 : decode cX8_moveOn 103 = .ok (.iconst (-1), 1) := by decide +kernel
theorem dX8_moveOn_104 : decode cX8_moveOn 104 = .ok (.iastore, 1) := by decide +kernel
theorem dX8_moveOn_105 : decode cX8_moveOn 105 = .ok (.return_, 1) := by decide +kernel
theorem dX8_squash_0 : decode cX8_squash 0 = .ok (.iconst 0, 1) := by decide +kernel
theorem dX8_squash_1 : decode cX8_squash 1 = .ok (.istore_n 3, 1) := by decide +kernel
theorem dX8_squash_2 : decode cX8_squash 2 = .ok (.iload_n 3, 1) := by decide +kernel
theorem dX8_squash_3 : decode cX8_squash 3 = .ok (.iload_n 1, 1) := by decide +kernel
theorem dX8_squash_4 : decode cX8_squash 4 = .ok (.if_icmp .ge 39, 3) := by decide +kernel
theorem dX8_squash_7 : decode cX8_squash 7 = .ok (.aload_n 0, 1) := by decide +kernel
theorem dX8_squash_8 : decode cX8_squash 8 = .ok (.dup, 1) := by decide +kernel
theorem dX8_squash_9 : decode cX8_squash 9 = .ok (.getfield 128, 3) := by decide +kernel
theorem dX8_squash_12 : decode cX8_squash 12 = .ok (.aload_n 0, 1) := by decide +kernel
theorem dX8_squash_13 : decode cX8_squash 13 = .ok (.getfield 29, 3) := by decide +kernel
theorem dX8_squash_16 : decode cX8_squash 16 = .ok (.iload_n 3, 1) := by decide +kernel
theorem dX8_squash_17 : decode cX8_squash 17 = .ok (.iaload, 1) := by decide +kernel
theorem dX8_squash_18 : decode cX8_squash 18 = .ok (.ifCond .lt 7, 3) := by decide +kernel
theorem dX8_squash_21 : decode cX8_squash 21 = .ok (.iconst 1, 1) := by decide +kernel
theorem dX8_squash_22 : decode cX8_squash 22 = .ok (.goto 4, 3) := by decide +kernel
theorem dX8_squash_25 : decode cX8_squash 25 = .ok (.iconst 0, 1) := by decide +kernel
theorem dX8_squash_26 : decode cX8_squash 26 = .ok (.iadd, 1) := by decide +kernel
theorem dX8_squash_27 : decode cX8_squash 27 = .ok (.putfield 128, 3) := by decide +kernel
theorem dX8_squash_30 : decode cX8_squash 30 = .ok (.aload_n 0, 1) := by decide +kernel
theorem dX8_squash_31 : decode cX8_squash 31 = .ok (.getfield 29, 3) := by decide +kernel
theorem dX8_squash_34 : decode cX8_squash 34 = .ok (.iload_n 3, 1) := by decide +kernel
theorem dX8_squash_35 : decode cX8_squash 35 = .ok (.iconst (-1), 1) := by decide +kernel
theorem dX8_squash_36 : decode cX8_squash 36 = .ok (.iastore, 1) := by decide +kernel
theorem dX8_squash_37 : decode cX8_squash 37 = .ok (.iinc 3 1, 3) := by decide +kernel
theorem dX8_squash_40 : decode cX8_squash 40 = .ok (.goto (-38), 3) := by decide +kernel
theorem dX8_squash_43 : decode cX8_squash 43 = .ok (.aload_n 0, 1) := by decide +kernel
theorem dX8_squash_44 : decode cX8_squash 44 = .ok (.iload_n 2, 1) := by decide +kernel
theorem dX8_squash_45 : decode cX8_squash 45 = .ok (.aload_n 0, 1) := by decide +kernel
theorem dX8_squash_46 : decode cX8_squash 46 = .ok (.getfield 104, 3) := by decide +kernel
theorem dX8_squash_49 : decode cX8_squash 49 = .ok (.irem, 1) := by decide +kernel
theorem dX8_squash_50 : decode cX8_squash 50 = .ok (.putfield 107, 3) := by decide +kernel
theorem dX8_squash_53 : decode cX8_squash 53 = .ok (.aload_n 0, 1) := by decide +kernel
theorem dX8_squash_54 : decode cX8_squash 54 = .ok (.iconst 0, 1) := by decide +kernel
theorem dX8_squash_55 : decode cX8_squash 55 = .ok (.putfield 110, 3) := by decide +kernel
theorem dX8_squash_58 : decode cX8_squash 58 = .ok (.aload_n 0, 1) := by decide +kernel
theorem dX8_squash_59 : decode cX8_squash 59 = .ok (.iconst 0, 1) := by decide +kernel
theorem dX8_squash_60 : decode cX8_squash 60 = .ok (.putfield 164, 3) := by decide +kernel
theorem dX8_squash_63 : decode cX8_squash 63 = .ok (.return_, 1) := by decide +kernel
theorem dX8_know_0 : decode cX8_know 0 = .ok (.iload_n 2, 1) := by decide +kernel
theorem dX8_know_1 : decode cX8_know 1 = .ok (.ifCond .ge 4, 3) := by decide +kernel
theorem dX8_know_4 : decode cX8_know 4 = .ok (.return_, 1) := by decide +kernel
theorem dX8_know_5 : decode cX8_know 5 = .ok (.aload_n 0, 1) := by decide +kernel
theorem dX8_know_6 : decode cX8_know 6 = .ok (.dup, 1) := by decide +kernel
theorem dX8_know_7 : decode cX8_know 7 = .ok (.getfield 134, 3) := by decide +kernel
theorem dX8_know_10 : decode cX8_know 10 = .ok (.iconst 1, 1) := by decide +kernel
theorem dX8_know_11 : decode cX8_know 11 = .ok (.iadd, 1) := by decide +kernel
theorem dX8_know_12 : decode cX8_know 12 = .ok (.putfield 134, 3) := by decide +kernel
theorem dX8_know_15 : decode cX8_know 15 = .ok (.aload_n 0, 1) := by decide +kernel
theorem dX8_know_16 : decode cX8_know 16 = .ok (.iload_n 1, 1) := by decide +kernel
theorem dX8_know_17 : decode cX8_know 17 = .ok (.iload_n 2, 1) := by decide +kernel
theorem dX8_know_18 : decode cX8_know 18 = .ok (.invokevirtual 167, 3) := by decide +kernel
theorem dX8_know_21 : decode cX8_know 21 = .ok (.return_, 1) := by decide +kernel
theorem dX8_commit_0 : decode cX8_commit 0 = .ok (.aload_n 0, 1) := by decide +kernel
theorem dX8_commit_1 : decode cX8_commit 1 = .ok (.getfield 29, 3) := by decide +kernel
theorem dX8_commit_4 : decode cX8_commit 4 = .ok (.iload_n 1, 1) := by decide +kernel
theorem dX8_commit_5 : decode cX8_commit 5 = .ok (.iaload, 1) := by decide +kernel
theorem dX8_commit_6 : decode cX8_commit 6 = .ok (.istore_n 2, 1) := by decide +kernel
theorem dX8_commit_7 : decode cX8_commit 7 = .ok (.aload_n 0, 1) := by decide +kernel
theorem dX8_commit_8 : decode cX8_commit 8 = .ok (.iload_n 2, 1) := by decide +kernel
theorem dX8_commit_9 : decode cX8_commit 9 = .ok (.invokevirtual 152, 3) := by decide +kernel
theorem dX8_commit_12 : decode cX8_commit 12 = .ok (.ifCond .eq 20, 3) := by decide +kernel
theorem dX8_commit_15 : decode cX8_commit 15 = .ok (.aload_n 0, 1) := by decide +kernel
theorem dX8_commit_16 : decode cX8_commit 16 = .ok (.getfield 57, 3) := by decide +kernel
theorem dX8_commit_19 : decode cX8_commit 19 = .ok (.aload_n 0, 1) := by decide +kernel
theorem dX8_commit_20 : decode cX8_commit 20 = .ok (.getfield 17, 3) := by decide +kernel
theorem dX8_commit_23 : decode cX8_commit 23 = .ok (.iload_n 2, 1) := by decide +kernel
theorem dX8_commit_24 : decode cX8_commit 24 = .ok (.iaload, 1) := by decide +kernel
theorem dX8_commit_25 : decode cX8_commit 25 = .ok (.aload_n 0, 1) := by decide +kernel
theorem dX8_commit_26 : decode cX8_commit 26 = .ok (.getfield 42, 3) := by decide +kernel
theorem dX8_commit_29 : decode cX8_commit 29 = .ok (.iload_n 1, 1) := by decide +kernel
theorem dX8_commit_30 : decode cX8_commit 30 = .ok (.iaload, 1) := by decide +kernel
theorem dX8_commit_31 : decode cX8_commit 31 = .ok (.iastore, 1) := by decide +kernel
theorem dX8_commit_32 : decode cX8_commit 32 = .ok (.aload_n 0, 1) := by decide +kernel
theorem dX8_commit_33 : decode cX8_commit 33 = .ok (.getfield 13, 3) := by decide +kernel
theorem dX8_commit_36 : decode cX8_commit 36 = .ok (.iload_n 2, 1) := by decide +kernel
theorem dX8_commit_37 : decode cX8_commit 37 = .ok (.iaload, 1) := by decide +kernel
theorem dX8_commit_38 : decode cX8_commit 38 = .ok (.iconst 2, 1) := by decide +kernel
theorem dX8_commit_39 : decode cX8_commit 39 = .ok (.if_icmp .ne 20, 3) := by decide +kernel
theorem dX8_commit_42 : decode cX8_commit 42 = .ok (.aload_n 0, 1) := by decide +kernel
theorem dX8_commit_43 : decode cX8_commit 43 = .ok (.getfield 60, 3) := by decide +kernel
theorem dX8_commit_46 : decode cX8_commit 46 = .ok (.aload_n 0, 1) := by decide +kernel
theorem dX8_commit_47 : decode cX8_commit 47 = .ok (.getfield 45, 3) := by decide +kernel
theorem dX8_commit_50 : decode cX8_commit 50 = .ok (.iload_n 1, 1) := by decide +kernel
theorem dX8_commit_51 : decode cX8_commit 51 = .ok (.iaload, 1) := by decide +kernel
theorem dX8_commit_52 : decode cX8_commit 52 = .ok (.aload_n 0, 1) := by decide +kernel
theorem dX8_commit_53 : decode cX8_commit 53 = .ok (.getfield 42, 3) := by decide +kernel
theorem dX8_commit_56 : decode cX8_commit 56 = .ok (.iload_n 1, 1) := by decide +kernel
theorem dX8_commit_57 : decode cX8_commit 57 = .ok (.iaload, 1) := by decide +kernel
theorem dX8_commit_58 : decode cX8_commit 58 = .ok (.iastore, 1) := by decide +kernel
theorem dX8_commit_59 : decode cX8_commit 59 = .ok (.aload_n 0, 1) := by decide +kernel
theorem dX8_commit_60 : decode cX8_commit 60 = .ok (.getfield 122, 3) := by decide +kernel
theorem dX8_commit_63 : decode cX8_commit 63 = .ok (.sipush 400, 3) := by decide +kernel
theorem dX8_commit_66 : decode cX8_commit 66 = .ok (.irem, 1) := by decide +kernel
theorem dX8_commit_67 : decode cX8_commit 67 = .ok (.istore_n 3, 1) := by decide +kernel
theorem dX8_commit_68 : decode cX8_commit 68 = .ok (.aload_n 0, 1) := by decide +kernel
theorem dX8_commit_69 : decode cX8_commit 69 = .ok (.getfield 66, 3) := by decide +kernel
theorem dX8_commit_72 : decode cX8_commit 72 = .ok (.iload_n 3, 1) := by decide +kernel
theorem dX8_commit_73 : decode cX8_commit 73 = .ok (.iload_n 2, 1) := by decide +kernel
theorem dX8_commit_74 : decode cX8_commit 74 = .ok (.iastore, 1) := by decide +kernel
theorem dX8_commit_75 : decode cX8_commit 75 = .ok (.aload_n 0, 1) := by decide +kernel
theorem dX8_commit_76 : decode cX8_commit 76 = .ok (.getfield 69, 3) := by decide +kernel
theorem dX8_commit_79 : decode cX8_commit 79 = .ok (.iload_n 3, 1) := by decide +kernel
theorem dX8_commit_80 : decode cX8_commit 80 = .ok (.aload_n 0, 1) := by decide +kernel
theorem dX8_commit_81 : decode cX8_commit 81 = .ok (.getfield 119, 3) := by decide +kernel
theorem dX8_commit_84 : decode cX8_commit 84 = .ok (.iastore, 1) := by decide +kernel
theorem dX8_commit_85 : decode cX8_commit 85 = .ok (.aload_n 0, 1) := by decide +kernel
theorem dX8_commit_86 : decode cX8_commit 86 = .ok (.getfield 72, 3) := by decide +kernel
theorem dX8_commit_89 : decode cX8_commit 89 = .ok (.iload_n 3, 1) := by decide +kernel
theorem dX8_commit_90 : decode cX8_commit 90 = .ok (.aload_n 0, 1) := by decide +kernel
theorem dX8_commit_91 : decode cX8_commit 91 = .ok (.getfield 42, 3) := by decide +kernel
theorem dX8_commit_94 : decode cX8_commit 94 = .ok (.iload_n 1, 1) := by decide +kernel
theorem dX8_commit_95 : decode cX8_commit 95 = .ok (.iaload, 1) := by decide +kernel
theorem dX8_commit_96 : decode cX8_commit 96 = .ok (.iastore, 1) := by decide +kernel
theorem dX8_commit_97 : decode cX8_commit 97 = .ok (.aload_n 0, 1) := by decide +kernel
theorem dX8_commit_98 : decode cX8_commit 98 = .ok (.dup, 1) := by decide +kernel
theorem dX8_commit_99 : decode cX8_commit 99 = .ok (.getfield 122, 3) := by decide +kernel
theorem dX8_commit_102 : decode cX8_commit 102 = .ok (.iconst 1, 1) := by decide +kernel
theorem dX8_commit_103 : decode cX8_commit 103 = .ok (.iadd, 1) := by decide +kernel
theorem dX8_commit_104 : decode cX8_commit 104 = .ok (.putfield 122, 3) := by decide +kernel
theorem dX8_commit_107 : decode cX8_commit 107 = .ok (.return_, 1) := by decide +kernel
theorem dX8_leave_0 : decode cX8_leave 0 = .ok (.aload_n 0, 1) := by decide +kernel
theorem dX8_leave_1 : decode cX8_leave 1 = .ok (.getfield 79, 3) := by decide +kernel
theorem dX8_leave_4 : decode cX8_leave 4 = .ok (.iconst 1, 1) := by decide +kernel
theorem dX8_leave_5 : decode cX8_leave 5 = .ok (.isub, 1) := by decide +kernel
theorem dX8_leave_6 : decode cX8_leave 6 = .ok (.istore_n 1, 1) := by decide +kernel
theorem dX8_leave_7 : decode cX8_leave 7 = .ok (.aload_n 0, 1) := by decide +kernel
theorem dX8_leave_8 : decode cX8_leave 8 = .ok (.getfield 29, 3) := by decide +kernel
theorem dX8_leave_11 : decode cX8_leave 11 = .ok (.iload_n 1, 1) := by decide +kernel
theorem dX8_leave_12 : decode cX8_leave 12 = .ok (.iaload, 1) := by decide +kernel
theorem dX8_leave_13 : decode cX8_leave 13 = .ok (.istore_n 2, 1) := by decide +kernel
theorem dX8_leave_14 : decode cX8_leave 14 = .ok (.iload_n 2, 1) := by decide +kernel
theorem dX8_leave_15 : decode cX8_leave 15 = .ok (.ifCond .ge 5, 3) := by decide +kernel
theorem dX8_leave_18 : decode cX8_leave 18 = .ok (.iconst 4, 1) := by decide +kernel
theorem dX8_leave_19 : decode cX8_leave 19 = .ok (.ireturn, 1) := by decide +kernel
theorem dX8_leave_20 : decode cX8_leave 20 = .ok (.aload_n 0, 1) := by decide +kernel
theorem dX8_leave_21 : decode cX8_leave 21 = .ok (.getfield 13, 3) := by decide +kernel
theorem dX8_leave_24 : decode cX8_leave 24 = .ok (.iload_n 2, 1) := by decide +kernel
theorem dX8_leave_25 : decode cX8_leave 25 = .ok (.iaload, 1) := by decide +kernel
theorem dX8_leave_26 : decode cX8_leave 26 = .ok (.iconst 5, 1) := by decide +kernel
theorem dX8_leave_27 : decode cX8_leave 27 = .ok (.if_icmp .ne 34, 3) := by decide +kernel
theorem dX8_leave_30 : decode cX8_leave 30 = .ok (.aload_n 0, 1) := by decide +kernel
theorem dX8_leave_31 : decode cX8_leave 31 = .ok (.getfield 29, 3) := by decide +kernel
theorem dX8_leave_34 : decode cX8_leave 34 = .ok (.iload_n 1, 1) := by decide +kernel
theorem dX8_leave_35 : decode cX8_leave 35 = .ok (.iconst (-1), 1) := by decide +kernel
theorem dX8_leave_36 : decode cX8_leave 36 = .ok (.iastore, 1) := by decide +kernel
theorem dX8_leave_37 : decode cX8_leave 37 = .ok (.aload_n 0, 1) := by decide +kernel
theorem dX8_leave_38 : decode cX8_leave 38 = .ok (.dup, 1) := by decide +kernel
theorem dX8_leave_39 : decode cX8_leave 39 = .ok (.getfield 131, 3) := by decide +kernel
theorem dX8_leave_42 : decode cX8_leave 42 = .ok (.iconst 1, 1) := by decide +kernel
theorem dX8_leave_43 : decode cX8_leave 43 = .ok (.iadd, 1) := by decide +kernel
theorem dX8_leave_44 : decode cX8_leave 44 = .ok (.putfield 131, 3) := by decide +kernel
theorem dX8_leave_47 : decode cX8_leave 47 = .ok (.aload_n 0, 1) := by decide +kernel
theorem dX8_leave_48 : decode cX8_leave 48 = .ok (.aload_n 0, 1) := by decide +kernel
theorem dX8_leave_49 : decode cX8_leave 49 = .ok (.getfield 79, 3) := by decide +kernel
theorem dX8_leave_52 : decode cX8_leave 52 = .ok (.aload_n 0, 1) := by decide +kernel
theorem dX8_leave_53 : decode cX8_leave 53 = .ok (.getfield 149, 3) := by decide +kernel
theorem dX8_leave_56 : decode cX8_leave 56 = .ok (.invokevirtual 167, 3) := by decide +kernel
theorem dX8_leave_59 : decode cX8_leave 59 = .ok (.iconst 1, 1) := by decide +kernel
theorem dX8_leave_60 : decode cX8_leave 60 = .ok (.ireturn, 1) := by decide +kernel
theorem dX8_leave_61 : decode cX8_leave 61 = .ok (.aload_n 0, 1) := by decide +kernel
theorem dX8_leave_62 : decode cX8_leave 62 = .ok (.iload_n 1, 1) := by decide +kernel
theorem dX8_leave_63 : decode cX8_leave 63 = .ok (.invokevirtual 171, 3) := by decide +kernel
theorem dX8_leave_66 : decode cX8_leave 66 = .ok (.aload_n 0, 1) := by decide +kernel
theorem dX8_leave_67 : decode cX8_leave 67 = .ok (.getfield 29, 3) := by decide +kernel
theorem dX8_leave_70 : decode cX8_leave 70 = .ok (.iload_n 1, 1) := by decide +kernel
theorem dX8_leave_71 : decode cX8_leave 71 = .ok (.iconst (-1), 1) := by decide +kernel
theorem dX8_leave_72 : decode cX8_leave 72 = .ok (.iastore, 1) := by decide +kernel
theorem dX8_leave_73 : decode cX8_leave 73 = .ok (.aload_n 0, 1) := by decide +kernel
theorem dX8_leave_74 : decode cX8_leave 74 = .ok (.getfield 13, 3) := by decide +kernel
theorem dX8_leave_77 : decode cX8_leave 77 = .ok (.iload_n 2, 1) := by decide +kernel
theorem dX8_leave_78 : decode cX8_leave 78 = .ok (.iaload, 1) := by decide +kernel
theorem dX8_leave_79 : decode cX8_leave 79 = .ok (.bipush 6, 2) := by decide +kernel
theorem dX8_leave_81 : decode cX8_leave 81 = .ok (.if_icmp .ne 11, 3) := by decide +kernel
theorem dX8_leave_84 : decode cX8_leave 84 = .ok (.aload_n 0, 1) := by decide +kernel
theorem dX8_leave_85 : decode cX8_leave 85 = .ok (.iconst 1, 1) := by decide +kernel
theorem dX8_leave_86 : decode cX8_leave 86 = .ok (.putfield 116, 3) := by decide +kernel
theorem dX8_leave_89 : decode cX8_leave 89 = .ok (.goto 41, 3) := by decide +kernel
theorem dX8_leave_92 : decode cX8_leave 92 = .ok (.aload_n 0, 1) := by decide +kernel
theorem dX8_leave_93 : decode cX8_leave 93 = .ok (.getfield 92, 3) := by decide +kernel
theorem dX8_leave_96 : decode cX8_leave 96 = .ok (.iload_n 1, 1) := by decide +kernel
theorem dX8_leave_97 : decode cX8_leave 97 = .ok (.if_icmp .ne 33, 3) := by decide +kernel
theorem dX8_leave_100 : decode cX8_leave 100 = .ok (.aload_n 0, 1) := by decide +kernel
theorem dX8_leave_101 : decode cX8_leave 101 = .ok (.getfield 32, 3) := by decide +kernel
theorem dX8_leave_104 : decode cX8_leave 104 = .ok (.iload_n 1, 1) := by decide +kernel
theorem dX8_leave_105 : decode cX8_leave 105 = .ok (.baload, 1) := by decide +kernel
theorem dX8_leave_106 : decode cX8_leave 106 = .ok (.ifCond .eq 24, 3) := by decide +kernel
theorem dX8_leave_109 : decode cX8_leave 109 = .ok (.aload_n 0, 1) := by decide +kernel
theorem dX8_leave_110 : decode cX8_leave 110 = .ok (.getfield 13, 3) := by decide +kernel
theorem dX8_leave_113 : decode cX8_leave 113 = .ok (.iload_n 2, 1) := by decide +kernel
theorem dX8_leave_114 : decode cX8_leave 114 = .ok (.iaload, 1) := by decide +kernel
theorem dX8_leave_115 : decode cX8_leave 115 = .ok (.iconst 4, 1) := by decide +kernel
theorem dX8_leave_116 : decode cX8_leave 116 = .ok (.if_icmp .ne 14, 3) := by decide +kernel
theorem dX8_leave_119 : decode cX8_leave 119 = .ok (.aload_n 0, 1) := by decide +kernel
theorem dX8_leave_120 : decode cX8_leave 120 = .ok (.iload_n 1, 1) := by decide +kernel
theorem dX8_leave_121 : decode cX8_leave 121 = .ok (.aload_n 0, 1) := by decide +kernel
theorem dX8_leave_122 : decode cX8_leave 122 = .ok (.getfield 48, 3) := by decide +kernel
theorem dX8_leave_125 : decode cX8_leave 125 = .ok (.iload_n 1, 1) := by decide +kernel
theorem dX8_leave_126 : decode cX8_leave 126 = .ok (.iaload, 1) := by decide +kernel
theorem dX8_leave_127 : decode cX8_leave 127 = .ok (.invokevirtual 175, 3) := by decide +kernel
theorem dX8_leave_130 : decode cX8_leave 130 = .ok (.iconst 0, 1) := by decide +kernel
theorem dX8_leave_131 : decode cX8_leave 131 = .ok (.ireturn, 1) := by decide +kernel
theorem dX8_cyclesOf_0 : decode cX8_cyclesOf 0 = .ok (.aload_n 0, 1) := by decide +kernel
theorem dX8_cyclesOf_1 : decode cX8_cyclesOf 1 = .ok (.getfield 13, 3) := by decide +kernel
theorem dX8_cyclesOf_4 : decode cX8_cyclesOf 4 = .ok (.iload_n 1, 1) := by decide +kernel
theorem dX8_cyclesOf_5 : decode cX8_cyclesOf 5 = .ok (.iaload, 1) := by decide +kernel
theorem dX8_cyclesOf_6 : decode cX8_cyclesOf 6 = .ok (.iconst 3, 1) := by decide +kernel
theorem dX8_cyclesOf_7 : decode cX8_cyclesOf 7 = .ok (.if_icmp .ne 10, 3) := by decide +kernel
theorem dX8_cyclesOf_10 : decode cX8_cyclesOf 10 = .ok (.aload_n 0, 1) := by decide +kernel
theorem dX8_cyclesOf_11 : decode cX8_cyclesOf 11 = .ok (.getfield 95, 3) := by decide +kernel
theorem dX8_cyclesOf_14 : decode cX8_cyclesOf 14 = .ok (.goto 4, 3) := by decide +kernel
theorem dX8_cyclesOf_17 : decode cX8_cyclesOf 17 = .ok (.iconst 1, 1) := by decide +kernel
theorem dX8_cyclesOf_18 : decode cX8_cyclesOf 18 = .ok (.ireturn, 1) := by decide +kernel
theorem dX8_work_0 : decode cX8_work 0 = .ok (.aload_n 0, 1) := by decide +kernel
theorem dX8_work_1 : decode cX8_work 1 = .ok (.getfield 29, 3) := by decide +kernel
theorem dX8_work_4 : decode cX8_work 4 = .ok (.aload_n 0, 1) := by decide +kernel
theorem dX8_work_5 : decode cX8_work 5 = .ok (.getfield 83, 3) := by decide +kernel
theorem dX8_work_8 : decode cX8_work 8 = .ok (.iaload, 1) := by decide +kernel
theorem dX8_work_9 : decode cX8_work 9 = .ok (.istore_n 1, 1) := by decide +kernel
theorem dX8_work_10 : decode cX8_work 10 = .ok (.aload_n 0, 1) := by decide +kernel
theorem dX8_work_11 : decode cX8_work 11 = .ok (.getfield 36, 3) := by decide +kernel
theorem dX8_work_14 : decode cX8_work 14 = .ok (.aload_n 0, 1) := by decide +kernel
theorem dX8_work_15 : decode cX8_work 15 = .ok (.getfield 83, 3) := by decide +kernel
theorem dX8_work_18 : decode cX8_work 18 = .ok (.baload, 1) := by decide +kernel
theorem dX8_work_19 : decode cX8_work 19 = .ok (.ifCond .ne 13, 3) := by decide +kernel
theorem dX8_work_22 : decode cX8_work 22 = .ok (.aload_n 0, 1) := by decide +kernel
theorem dX8_work_23 : decode cX8_work 23 = .ok (.iload_n 1, 1) := by decide +kernel
theorem dX8_work_24 : decode cX8_work 24 = .ok (.invokevirtual 178, 3) := by decide +kernel
theorem dX8_work_27 : decode cX8_work 27 = .ok (.ifCond .ne 5, 3) := by decide +kernel
theorem dX8_work_30 : decode cX8_work 30 = .ok (.iconst 2, 1) := by decide +kernel
theorem dX8_work_31 : decode cX8_work 31 = .ok (.ireturn, 1) := by decide +kernel
theorem dX8_work_32 : decode cX8_work 32 = .ok (.aload_n 0, 1) := by decide +kernel
theorem dX8_work_33 : decode cX8_work 33 = .ok (.getfield 36, 3) := by decide +kernel
theorem dX8_work_36 : decode cX8_work 36 = .ok (.aload_n 0, 1) := by decide +kernel
theorem dX8_work_37 : decode cX8_work 37 = .ok (.getfield 83, 3) := by decide +kernel
theorem dX8_work_40 : decode cX8_work 40 = .ok (.iconst 1, 1) := by decide +kernel
theorem dX8_work_41 : decode cX8_work 41 = .ok (.bastore, 1) := by decide +kernel
theorem dX8_work_42 : decode cX8_work 42 = .ok (.aload_n 0, 1) := by decide +kernel
theorem dX8_work_43 : decode cX8_work 43 = .ok (.getfield 39, 3) := by decide +kernel
theorem dX8_work_46 : decode cX8_work 46 = .ok (.aload_n 0, 1) := by decide +kernel
theorem dX8_work_47 : decode cX8_work 47 = .ok (.getfield 83, 3) := by decide +kernel
theorem dX8_work_50 : decode cX8_work 50 = .ok (.dup2, 1) := by decide +kernel
theorem dX8_work_51 : decode cX8_work 51 = .ok (.iaload, 1) := by decide +kernel
theorem dX8_work_52 : decode cX8_work 52 = .ok (.iconst 1, 1) := by decide +kernel
theorem dX8_work_53 : decode cX8_work 53 = .ok (.iadd, 1) := by decide +kernel
theorem dX8_work_54 : decode cX8_work 54 = .ok (.iastore, 1) := by decide +kernel
theorem dX8_work_55 : decode cX8_work 55 = .ok (.aload_n 0, 1) := by decide +kernel
theorem dX8_work_56 : decode cX8_work 56 = .ok (.getfield 39, 3) := by decide +kernel
theorem dX8_work_59 : decode cX8_work 59 = .ok (.aload_n 0, 1) := by decide +kernel
theorem dX8_work_60 : decode cX8_work 60 = .ok (.getfield 83, 3) := by decide +kernel

theorem dL_cell_0 : decode cL_cell 0 = .ok (.iload_n 1, 1) := by decide +kernel
theorem dL_cell_1 : decode cL_cell 1 = .ok (.aload_n 0, 1) := by decide +kernel
theorem dL_cell_2 : decode cL_cell 2 = .ok (.arraylength, 1) := by decide +kernel
theorem dL_cell_3 : decode cL_cell 3 = .ok (.if_icmp .ge 9, 3) := by decide +kernel
theorem dL_cell_6 : decode cL_cell 6 = .ok (.aload_n 0, 1) := by decide +kernel
theorem dL_cell_7 : decode cL_cell 7 = .ok (.iload_n 1, 1) := by decide +kernel
theorem dL_cell_8 : decode cL_cell 8 = .ok (.iaload, 1) := by decide +kernel
theorem dL_cell_9 : decode cL_cell 9 = .ok (.goto 4, 3) := by decide +kernel
theorem dL_cell_12 : decode cL_cell 12 = .ok (.iconst 0, 1) := by decide +kernel
theorem dL_cell_13 : decode cL_cell 13 = .ok (.ireturn, 1) := by decide +kernel
theorem dL_word_0 : decode cL_word 0 = .ok (.aload 6, 2) := by decide +kernel
theorem dL_word_2 : decode cL_word 2 = .ok (.iconst 0, 1) := by decide +kernel
theorem dL_word_3 : decode cL_word 3 = .ok (.aload_n 0, 1) := by decide +kernel
theorem dL_word_4 : decode cL_word 4 = .ok (.iload_n 1, 1) := by decide +kernel
theorem dL_word_5 : decode cL_word 5 = .ok (.iload_n 2, 1) := by decide +kernel
theorem dL_word_6 : decode cL_word 6 = .ok (.iload_n 3, 1) := by decide +kernel
theorem dL_word_7 : decode cL_word 7 = .ok (.iload 4, 2) := by decide +kernel
theorem dL_word_9 : decode cL_word 9 = .ok (.iload 5, 2) := by decide +kernel
theorem dL_word_11 : decode cL_word 11 = .ok (.invokevirtual 7, 3) := by decide +kernel
theorem dL_word_14 : decode cL_word 14 = .ok (.i2l, 1) := by decide +kernel
theorem dL_word_15 : decode cL_word 15 = .ok (.lastore, 1) := by decide +kernel
theorem dL_word_16 : decode cL_word 16 = .ok (.goto 15, 3) := by decide +kernel
theorem dL_word_19 : decode cL_word 19 = .ok (.astore 7, 2) := by decide +kernel
theorem dL_word_21 : decode cL_word 21 = .ok (.iconst 1, 1) := by decide +kernel
theorem dL_word_22 : decode cL_word 22 = .ok (.ireturn, 1) := by decide +kernel
theorem dL_word_23 : decode cL_word 23 = .ok (.astore 7, 2) := by decide +kernel
theorem dL_word_25 : decode cL_word 25 = .ok (.iconst 2, 1) := by decide +kernel
theorem dL_word_26 : decode cL_word 26 = .ok (.ireturn, 1) := by decide +kernel
theorem dL_word_27 : decode cL_word 27 = .ok (.astore 7, 2) := by decide +kernel
theorem dL_word_29 : decode cL_word 29 = .ok (.iconst 3, 1) := by decide +kernel
theorem dL_word_30 : decode cL_word 30 = .ok (.ireturn, 1) := by decide +kernel
theorem dL_word_31 : decode cL_word 31 = .ok (.iconst 0, 1) := by decide +kernel
theorem dL_word_32 : decode cL_word 32 = .ok (.ireturn, 1) := by decide +kernel
theorem dL_set_0 : decode cL_set 0 = .ok (.aload_n 3, 1) := by decide +kernel
theorem dL_set_1 : decode cL_set 1 = .ok (.iconst 0, 1) := by decide +kernel
theorem dL_set_2 : decode cL_set 2 = .ok (.aload_n 0, 1) := by decide +kernel
theorem dL_set_3 : decode cL_set 3 = .ok (.iload_n 1, 1) := by decide +kernel
theorem dL_set_4 : decode cL_set 4 = .ok (.iload_n 2, 1) := by decide +kernel
theorem dL_set_5 : decode cL_set 5 = .ok (.invokevirtual 19, 3) := by decide +kernel
theorem dL_set_8 : decode cL_set 8 = .ok (.ifCond .eq 7, 3) := by decide +kernel
theorem dL_set_11 : decode cL_set 11 = .ok (.lconst 1, 1) := by decide +kernel
theorem dL_set_12 : decode cL_set 12 = .ok (.goto 4, 3) := by decide +kernel
theorem dL_set_15 : decode cL_set 15 = .ok (.lconst 0, 1) := by decide +kernel
theorem dL_set_16 : decode cL_set 16 = .ok (.lastore, 1) := by decide +kernel
theorem dL_set_17 : decode cL_set 17 = .ok (.goto 11, 3) := by decide +kernel
theorem dL_set_20 : decode cL_set 20 = .ok (.astore 4, 2) := by decide +kernel
theorem dL_set_22 : decode cL_set 22 = .ok (.iconst 1, 1) := by decide +kernel
theorem dL_set_23 : decode cL_set 23 = .ok (.ireturn, 1) := by decide +kernel
theorem dL_set_24 : decode cL_set 24 = .ok (.astore 4, 2) := by decide +kernel
theorem dL_set_26 : decode cL_set 26 = .ok (.iconst 2, 1) := by decide +kernel
theorem dL_set_27 : decode cL_set 27 = .ok (.ireturn, 1) := by decide +kernel
theorem dL_set_28 : decode cL_set 28 = .ok (.iconst 0, 1) := by decide +kernel
theorem dL_set_29 : decode cL_set 29 = .ok (.ireturn, 1) := by decide +kernel
theorem dL_run_0 : decode cL_run 0 = .ok (.aload_n 2, 1) := by decide +kernel
theorem dL_run_1 : decode cL_run 1 = .ok (.iconst 0, 1) := by decide +kernel
theorem dL_run_2 : decode cL_run 2 = .ok (.aload_n 0, 1) := by decide +kernel
theorem dL_run_3 : decode cL_run 3 = .ok (.iload_n 1, 1) := by decide +kernel
theorem dL_run_4 : decode cL_run 4 = .ok (.invokevirtual 23, 3) := by decide +kernel
theorem dL_run_7 : decode cL_run 7 = .ok (.i2l, 1) := by decide +kernel
theorem dL_run_8 : decode cL_run 8 = .ok (.lastore, 1) := by decide +kernel
theorem dL_run_9 : decode cL_run 9 = .ok (.goto 9, 3) := by decide +kernel
theorem dL_run_12 : decode cL_run 12 = .ok (.astore_n 3, 1) := by decide +kernel
theorem dL_run_13 : decode cL_run 13 = .ok (.iconst 1, 1) := by decide +kernel
theorem dL_run_14 : decode cL_run 14 = .ok (.ireturn, 1) := by decide +kernel
theorem dL_run_15 : decode cL_run 15 = .ok (.astore_n 3, 1) := by decide +kernel
theorem dL_run_16 : decode cL_run 16 = .ok (.iconst 2, 1) := by decide +kernel
theorem dL_run_17 : decode cL_run 17 = .ok (.ireturn, 1) := by decide +kernel
theorem dL_run_18 : decode cL_run 18 = .ok (.iconst 0, 1) := by decide +kernel
theorem dL_run_19 : decode cL_run 19 = .ok (.ireturn, 1) := by decide +kernel
theorem dL_stage_0 : decode cL_stage 0 = .ok (.aload_n 3, 1) := by decide +kernel
theorem dL_stage_1 : decode cL_stage 1 = .ok (.iconst 0, 1) := by decide +kernel
theorem dL_stage_2 : decode cL_stage 2 = .ok (.aload_n 0, 1) := by decide +kernel
theorem dL_stage_3 : decode cL_stage 3 = .ok (.iload_n 1, 1) := by decide +kernel
theorem dL_stage_4 : decode cL_stage 4 = .ok (.iload_n 2, 1) := by decide +kernel
theorem dL_stage_5 : decode cL_stage 5 = .ok (.invokevirtual 27, 3) := by decide +kernel
theorem dL_stage_8 : decode cL_stage 8 = .ok (.i2l, 1) := by decide +kernel
theorem dL_stage_9 : decode cL_stage 9 = .ok (.lastore, 1) := by decide +kernel
theorem dL_stage_10 : decode cL_stage 10 = .ok (.goto 7, 3) := by decide +kernel
theorem dL_stage_13 : decode cL_stage 13 = .ok (.astore 4, 2) := by decide +kernel
theorem dL_stage_15 : decode cL_stage 15 = .ok (.iconst 1, 1) := by decide +kernel
theorem dL_stage_16 : decode cL_stage 16 = .ok (.ireturn, 1) := by decide +kernel
theorem dL_stage_17 : decode cL_stage 17 = .ok (.iconst 0, 1) := by decide +kernel
theorem dL_stage_18 : decode cL_stage 18 = .ok (.ireturn, 1) := by decide +kernel
theorem dL_committed_0 : decode cL_committed 0 = .ok (.aload_n 3, 1) := by decide +kernel
theorem dL_committed_1 : decode cL_committed 1 = .ok (.iconst 0, 1) := by decide +kernel
theorem dL_committed_2 : decode cL_committed 2 = .ok (.aload_n 0, 1) := by decide +kernel
theorem dL_committed_3 : decode cL_committed 3 = .ok (.iload_n 1, 1) := by decide +kernel
theorem dL_committed_4 : decode cL_committed 4 = .ok (.iload_n 2, 1) := by decide +kernel
theorem dL_committed_5 : decode cL_committed 5 = .ok (.invokevirtual 33, 3) := by decide +kernel
theorem dL_committed_8 : decode cL_committed 8 = .ok (.i2l, 1) := by decide +kernel
theorem dL_committed_9 : decode cL_committed 9 = .ok (.lastore, 1) := by decide +kernel
theorem dL_committed_10 : decode cL_committed 10 = .ok (.goto 7, 3) := by decide +kernel
theorem dL_committed_13 : decode cL_committed 13 = .ok (.astore 4, 2) := by decide +kernel
theorem dL_committed_15 : decode cL_committed 15 = .ok (.iconst 1, 1) := by decide +kernel
theorem dL_committed_16 : decode cL_committed 16 = .ok (.ireturn, 1) := by decide +kernel
theorem dL_committed_17 : decode cL_committed 17 = .ok (.iconst 0, 1) := by decide +kernel
theorem dL_committed_18 : decode cL_committed 18 = .ok (.ireturn, 1) := by decide +kernel
theorem dL_register_0 : decode cL_register 0 = .ok (.aload_n 2, 1) := by decide +kernel
theorem dL_register_1 : decode cL_register 1 = .ok (.iconst 0, 1) := by decide +kernel
theorem dL_register_2 : decode cL_register 2 = .ok (.aload_n 0, 1) := by decide +kernel
theorem dL_register_3 : decode cL_register 3 = .ok (.iload_n 1, 1) := by decide +kernel
theorem dL_register_4 : decode cL_register 4 = .ok (.invokevirtual 36, 3) := by decide +kernel
theorem dL_register_7 : decode cL_register 7 = .ok (.i2l, 1) := by decide +kernel
theorem dL_register_8 : decode cL_register 8 = .ok (.lastore, 1) := by decide +kernel
theorem dL_register_9 : decode cL_register 9 = .ok (.goto 6, 3) := by decide +kernel
theorem dL_register_12 : decode cL_register 12 = .ok (.astore_n 3, 1) := by decide +kernel
theorem dL_register_13 : decode cL_register 13 = .ok (.iconst 1, 1) := by decide +kernel
theorem dL_register_14 : decode cL_register 14 = .ok (.ireturn, 1) := by decide +kernel
theorem dL_register_15 : decode cL_register 15 = .ok (.iconst 0, 1) := by decide +kernel
theorem dL_register_16 : decode cL_register 16 = .ok (.ireturn, 1) := by decide +kernel
theorem dL_memory_0 : decode cL_memory 0 = .ok (.aload_n 2, 1) := by decide +kernel
theorem dL_memory_1 : decode cL_memory 1 = .ok (.iconst 0, 1) := by decide +kernel
theorem dL_memory_2 : decode cL_memory 2 = .ok (.aload_n 0, 1) := by decide +kernel
theorem dL_memory_3 : decode cL_memory 3 = .ok (.iload_n 1, 1) := by decide +kernel
theorem dL_memory_4 : decode cL_memory 4 = .ok (.invokevirtual 39, 3) := by decide +kernel
theorem dL_memory_7 : decode cL_memory 7 = .ok (.i2l, 1) := by decide +kernel
theorem dL_memory_8 : decode cL_memory 8 = .ok (.lastore, 1) := by decide +kernel
theorem dL_memory_9 : decode cL_memory 9 = .ok (.goto 6, 3) := by decide +kernel
theorem dL_memory_12 : decode cL_memory 12 = .ok (.astore_n 3, 1) := by decide +kernel
theorem dL_memory_13 : decode cL_memory 13 = .ok (.iconst 1, 1) := by decide +kernel
theorem dL_memory_14 : decode cL_memory 14 = .ok (.ireturn, 1) := by decide +kernel
theorem dL_memory_15 : decode cL_memory 15 = .ok (.iconst 0, 1) := by decide +kernel
theorem dL_memory_16 : decode cL_memory 16 = .ok (.ireturn, 1) := by decide +kernel
theorem dL_cause_0 : decode cL_cause 0 = .ok (.aload_n 2, 1) := by decide +kernel
theorem dL_cause_1 : decode cL_cause 1 = .ok (.iconst 0, 1) := by decide +kernel
theorem dL_cause_2 : decode cL_cause 2 = .ok (.aload_n 0, 1) := by decide +kernel
theorem dL_cause_3 : decode cL_cause 3 = .ok (.iload_n 1, 1) := by decide +kernel
theorem dL_cause_4 : decode cL_cause 4 = .ok (.invokevirtual 42, 3) := by decide +kernel
theorem dL_cause_7 : decode cL_cause 7 = .ok (.i2l, 1) := by decide +kernel
theorem dL_cause_8 : decode cL_cause 8 = .ok (.lastore, 1) := by decide +kernel
theorem dL_cause_9 : decode cL_cause 9 = .ok (.goto 6, 3) := by decide +kernel
theorem dL_cause_12 : decode cL_cause 12 = .ok (.astore_n 3, 1) := by decide +kernel
theorem dL_cause_13 : decode cL_cause 13 = .ok (.iconst 1, 1) := by decide +kernel
theorem dL_cause_14 : decode cL_cause 14 = .ok (.ireturn, 1) := by decide +kernel
theorem dL_cause_15 : decode cL_cause 15 = .ok (.iconst 0, 1) := by decide +kernel
theorem dL_cause_16 : decode cL_cause 16 = .ok (.ireturn, 1) := by decide +kernel
theorem dL_law_0 : decode code 0 = .ok (.new 8, 3) := by decide +kernel
theorem dL_law_3 : decode code 3 = .ok (.dup, 1) := by decide +kernel
theorem dL_law_4 : decode code 4 = .ok (.aload_n 0, 1) := by decide +kernel
theorem dL_law_5 : decode code 5 = .ok (.iconst 0, 1) := by decide +kernel
theorem dL_law_6 : decode code 6 = .ok (.invokestatic 45, 3) := by decide +kernel
theorem dL_law_9 : decode code 9 = .ok (.aload_n 0, 1) := by decide +kernel
theorem dL_law_10 : decode code 10 = .ok (.iconst 1, 1) := by decide +kernel
theorem dL_law_11 : decode code 11 = .ok (.invokestatic 45, 3) := by decide +kernel
theorem dL_law_14 : decode code 14 = .ok (.aload_n 0, 1) := by decide +kernel
theorem dL_law_15 : decode code 15 = .ok (.iconst 2, 1) := by decide +kernel
theorem dL_law_16 : decode code 16 = .ok (.invokestatic 45, 3) := by decide +kernel
theorem dL_law_19 : decode code 19 = .ok (.aload_n 0, 1) := by decide +kernel
theorem dL_law_20 : decode code 20 = .ok (.iconst 3, 1) := by decide +kernel
theorem dL_law_21 : decode code 21 = .ok (.invokestatic 45, 3) := by decide +kernel
theorem dL_law_24 : decode code 24 = .ok (.aload_n 0, 1) := by decide +kernel
theorem dL_law_25 : decode code 25 = .ok (.iconst 4, 1) := by decide +kernel
theorem dL_law_26 : decode code 26 = .ok (.invokestatic 45, 3) := by decide +kernel
theorem dL_law_29 : decode code 29 = .ok (.aload_n 0, 1) := by decide +kernel
theorem dL_law_30 : decode code 30 = .ok (.iconst 5, 1) := by decide +kernel
theorem dL_law_31 : decode code 31 = .ok (.invokestatic 45, 3) := by decide +kernel
theorem dL_law_34 : decode code 34 = .ok (.invokespecial 51, 3) := by decide +kernel
theorem dL_law_37 : decode code 37 = .ok (.astore_n 1, 1) := by decide +kernel
theorem dL_law_38 : decode code 38 = .ok (.new 54, 3) := by decide +kernel
theorem dL_law_41 : decode code 41 = .ok (.dup, 1) := by decide +kernel
theorem dL_law_42 : decode code 42 = .ok (.aload_n 0, 1) := by decide +kernel
theorem dL_law_43 : decode code 43 = .ok (.iconst 0, 1) := by decide +kernel
theorem dL_law_44 : decode code 44 = .ok (.invokestatic 45, 3) := by decide +kernel
theorem dL_law_47 : decode code 47 = .ok (.aload_n 0, 1) := by decide +kernel
theorem dL_law_48 : decode code 48 = .ok (.iconst 1, 1) := by decide +kernel
theorem dL_law_49 : decode code 49 = .ok (.invokestatic 45, 3) := by decide +kernel
theorem dL_law_52 : decode code 52 = .ok (.aload_n 0, 1) := by decide +kernel
theorem dL_law_53 : decode code 53 = .ok (.iconst 2, 1) := by decide +kernel
theorem dL_law_54 : decode code 54 = .ok (.invokestatic 45, 3) := by decide +kernel
theorem dL_law_57 : decode code 57 = .ok (.aload_n 0, 1) := by decide +kernel
theorem dL_law_58 : decode code 58 = .ok (.iconst 3, 1) := by decide +kernel
theorem dL_law_59 : decode code 59 = .ok (.invokestatic 45, 3) := by decide +kernel
theorem dL_law_62 : decode code 62 = .ok (.aload_n 0, 1) := by decide +kernel
theorem dL_law_63 : decode code 63 = .ok (.iconst 4, 1) := by decide +kernel
theorem dL_law_64 : decode code 64 = .ok (.invokestatic 45, 3) := by decide +kernel
theorem dL_law_67 : decode code 67 = .ok (.aload_n 0, 1) := by decide +kernel
theorem dL_law_68 : decode code 68 = .ok (.iconst 5, 1) := by decide +kernel
theorem dL_law_69 : decode code 69 = .ok (.invokestatic 45, 3) := by decide +kernel
theorem dL_law_72 : decode code 72 = .ok (.invokespecial 56, 3) := by decide +kernel
theorem dL_law_75 : decode code 75 = .ok (.astore_n 2, 1) := by decide +kernel
theorem dL_law_76 : decode code 76 = .ok (.iconst 1, 1) := by decide +kernel
theorem dL_law_77 : decode code 77 = .ok (.newarray .long, 2) := by decide +kernel
theorem dL_law_79 : decode code 79 = .ok (.astore_n 3, 1) := by decide +kernel
theorem dL_law_80 : decode code 80 = .ok (.bipush 6, 2) := by decide +kernel
theorem dL_law_82 : decode code 82 = .ok (.istore 4, 2) := by decide +kernel
theorem dL_law_84 : decode code 84 = .ok (.iload 4, 2) := by decide +kernel
theorem dL_law_86 : decode code 86 = .ok (.aload_n 0, 1) := by decide +kernel
theorem dL_law_87 : decode code 87 = .ok (.arraylength, 1) := by decide +kernel
theorem dL_law_88 : decode code 88 = .ok (.bipush 6, 2) := by decide +kernel
theorem dL_law_90 : decode code 90 = .ok (.isub, 1) := by decide +kernel
theorem dL_law_91 : decode code 91 = .ok (.if_icmp .gt 664, 3) := by decide +kernel
theorem dL_law_94 : decode code 94 = .ok (.aload_n 0, 1) := by decide +kernel
theorem dL_law_95 : decode code 95 = .ok (.iload 4, 2) := by decide +kernel
theorem dL_law_97 : decode code 97 = .ok (.iaload, 1) := by decide +kernel
theorem dL_law_98 : decode code 98 = .ok (.bipush 15, 2) := by decide +kernel
theorem dL_law_100 : decode code 100 = .ok (.iand, 1) := by decide +kernel
theorem dL_law_101 : decode code 101 = .ok (.tableswitch 648 0 9 #[55, 159, 250, 263, 319, 387, 455, 511, 567, 623], 55) := by decide +kernel
theorem dL_law_156 : decode code 156 = .ok (.aload_n 1, 1) := by decide +kernel
theorem dL_law_157 : decode code 157 = .ok (.aload_n 0, 1) := by decide +kernel
theorem dL_law_158 : decode code 158 = .ok (.iload 4, 2) := by decide +kernel
theorem dL_law_160 : decode code 160 = .ok (.iconst 1, 1) := by decide +kernel
theorem dL_law_161 : decode code 161 = .ok (.iadd, 1) := by decide +kernel
theorem dL_law_162 : decode code 162 = .ok (.iaload, 1) := by decide +kernel
theorem dL_law_163 : decode code 163 = .ok (.aload_n 0, 1) := by decide +kernel
theorem dL_law_164 : decode code 164 = .ok (.iload 4, 2) := by decide +kernel
theorem dL_law_166 : decode code 166 = .ok (.iconst 2, 1) := by decide +kernel
theorem dL_law_167 : decode code 167 = .ok (.iadd, 1) := by decide +kernel
theorem dL_law_168 : decode code 168 = .ok (.iaload, 1) := by decide +kernel
theorem dL_law_169 : decode code 169 = .ok (.aload_n 0, 1) := by decide +kernel
theorem dL_law_170 : decode code 170 = .ok (.iload 4, 2) := by decide +kernel
theorem dL_law_172 : decode code 172 = .ok (.iconst 3, 1) := by decide +kernel
theorem dL_law_173 : decode code 173 = .ok (.iadd, 1) := by decide +kernel
theorem dL_law_174 : decode code 174 = .ok (.iaload, 1) := by decide +kernel
theorem dL_law_175 : decode code 175 = .ok (.aload_n 0, 1) := by decide +kernel
theorem dL_law_176 : decode code 176 = .ok (.iload 4, 2) := by decide +kernel
theorem dL_law_178 : decode code 178 = .ok (.iconst 4, 1) := by decide +kernel
theorem dL_law_179 : decode code 179 = .ok (.iadd, 1) := by decide +kernel
theorem dL_law_180 : decode code 180 = .ok (.iaload, 1) := by decide +kernel
theorem dL_law_181 : decode code 181 = .ok (.aload_n 0, 1) := by decide +kernel
theorem dL_law_182 : decode code 182 = .ok (.iload 4, 2) := by decide +kernel
theorem dL_law_184 : decode code 184 = .ok (.iconst 5, 1) := by decide +kernel
theorem dL_law_185 : decode code 185 = .ok (.iadd, 1) := by decide +kernel
theorem dL_law_186 : decode code 186 = .ok (.iaload, 1) := by decide +kernel
theorem dL_law_187 : decode code 187 = .ok (.aload_n 3, 1) := by decide +kernel
theorem dL_law_188 : decode code 188 = .ok (.invokestatic 57, 3) := by decide +kernel
theorem dL_law_191 : decode code 191 = .ok (.istore 5, 2) := by decide +kernel
theorem dL_law_193 : decode code 193 = .ok (.aload_n 2, 1) := by decide +kernel
theorem dL_law_194 : decode code 194 = .ok (.aload_n 0, 1) := by decide +kernel
theorem dL_law_195 : decode code 195 = .ok (.iload 4, 2) := by decide +kernel
theorem dL_law_197 : decode code 197 = .ok (.iconst 1, 1) := by decide +kernel
theorem dL_law_198 : decode code 198 = .ok (.iadd, 1) := by decide +kernel
theorem dL_law_199 : decode code 199 = .ok (.iaload, 1) := by decide +kernel
theorem dL_law_200 : decode code 200 = .ok (.aload_n 0, 1) := by decide +kernel
theorem dL_law_201 : decode code 201 = .ok (.iload 4, 2) := by decide +kernel
theorem dL_law_203 : decode code 203 = .ok (.iconst 2, 1) := by decide +kernel
theorem dL_law_204 : decode code 204 = .ok (.iadd, 1) := by decide +kernel
theorem dL_law_205 : decode code 205 = .ok (.iaload, 1) := by decide +kernel
theorem dL_law_206 : decode code 206 = .ok (.aload_n 0, 1) := by decide +kernel
theorem dL_law_207 : decode code 207 = .ok (.iload 4, 2) := by decide +kernel
theorem dL_law_209 : decode code 209 = .ok (.iconst 3, 1) := by decide +kernel
theorem dL_law_210 : decode code 210 = .ok (.iadd, 1) := by decide +kernel
theorem dL_law_211 : decode code 211 = .ok (.iaload, 1) := by decide +kernel
theorem dL_law_212 : decode code 212 = .ok (.aload_n 0, 1) := by decide +kernel
theorem dL_law_213 : decode code 213 = .ok (.iload 4, 2) := by decide +kernel
theorem dL_law_215 : decode code 215 = .ok (.iconst 4, 1) := by decide +kernel
theorem dL_law_216 : decode code 216 = .ok (.iadd, 1) := by decide +kernel
theorem dL_law_217 : decode code 217 = .ok (.iaload, 1) := by decide +kernel
theorem dL_law_218 : decode code 218 = .ok (.aload_n 0, 1) := by decide +kernel
theorem dL_law_219 : decode code 219 = .ok (.iload 4, 2) := by decide +kernel
theorem dL_law_221 : decode code 221 = .ok (.iconst 5, 1) := by decide +kernel
theorem dL_law_222 : decode code 222 = .ok (.iadd, 1) := by decide +kernel
theorem dL_law_223 : decode code 223 = .ok (.iaload, 1) := by decide +kernel
theorem dL_law_224 : decode code 224 = .ok (.invokevirtual 60, 3) := by decide +kernel
theorem dL_law_227 : decode code 227 = .ok (.istore 6, 2) := by decide +kernel
theorem dL_law_229 : decode code 229 = .ok (.aload_n 2, 1) := by decide +kernel
theorem dL_law_230 : decode code 230 = .ok (.invokevirtual 61, 3) := by decide +kernel
theorem dL_law_233 : decode code 233 = .ok (.iload 5, 2) := by decide +kernel
theorem dL_law_235 : decode code 235 = .ok (.if_icmp .eq 5, 3) := by decide +kernel
theorem dL_law_238 : decode code 238 = .ok (.iconst 0, 1) := by decide +kernel
theorem dL_law_239 : decode code 239 = .ok (.ireturn, 1) := by decide +kernel
theorem dL_law_240 : decode code 240 = .ok (.iload 5, 2) := by decide +kernel
theorem dL_law_242 : decode code 242 = .ok (.ifCond .ne 15, 3) := by decide +kernel
theorem dL_law_245 : decode code 245 = .ok (.aload_n 3, 1) := by decide +kernel
theorem dL_law_246 : decode code 246 = .ok (.iconst 0, 1) := by decide +kernel
theorem dL_law_247 : decode code 247 = .ok (.laload, 1) := by decide +kernel
theorem dL_law_248 : decode code 248 = .ok (.iload 6, 2) := by decide +kernel
theorem dL_law_250 : decode code 250 = .ok (.i2l, 1) := by decide +kernel
theorem dL_law_251 : decode code 251 = .ok (.lcmp, 1) := by decide +kernel
theorem dL_law_252 : decode code 252 = .ok (.ifCond .eq 5, 3) := by decide +kernel
theorem dL_law_255 : decode code 255 = .ok (.iconst 0, 1) := by decide +kernel
theorem dL_law_256 : decode code 256 = .ok (.ireturn, 1) := by decide +kernel
theorem dL_law_257 : decode code 257 = .ok (.goto 492, 3) := by decide +kernel
theorem dL_law_260 : decode code 260 = .ok (.aload_n 1, 1) := by decide +kernel
theorem dL_law_261 : decode code 261 = .ok (.aload_n 0, 1) := by decide +kernel
theorem dL_law_262 : decode code 262 = .ok (.iload 4, 2) := by decide +kernel
theorem dL_law_264 : decode code 264 = .ok (.iconst 1, 1) := by decide +kernel
theorem dL_law_265 : decode code 265 = .ok (.iadd, 1) := by decide +kernel
theorem dL_law_266 : decode code 266 = .ok (.iaload, 1) := by decide +kernel
theorem dL_law_267 : decode code 267 = .ok (.ifCond .eq 7, 3) := by decide +kernel
theorem dL_law_270 : decode code 270 = .ok (.iconst 1, 1) := by decide +kernel
theorem dL_law_271 : decode code 271 = .ok (.goto 4, 3) := by decide +kernel
theorem dL_law_274 : decode code 274 = .ok (.iconst 0, 1) := by decide +kernel
theorem dL_law_275 : decode code 275 = .ok (.aload_n 0, 1) := by decide +kernel
theorem dL_law_276 : decode code 276 = .ok (.iload 4, 2) := by decide +kernel
theorem dL_law_278 : decode code 278 = .ok (.iconst 2, 1) := by decide +kernel
theorem dL_law_279 : decode code 279 = .ok (.iadd, 1) := by decide +kernel
theorem dL_law_280 : decode code 280 = .ok (.iaload, 1) := by decide +kernel
theorem dL_law_281 : decode code 281 = .ok (.aload_n 3, 1) := by decide +kernel
theorem dL_law_282 : decode code 282 = .ok (.invokestatic 65, 3) := by decide +kernel
theorem dL_law_285 : decode code 285 = .ok (.istore 5, 2) := by decide +kernel
theorem dL_law_287 : decode code 287 = .ok (.aload_n 2, 1) := by decide +kernel
theorem dL_law_288 : decode code 288 = .ok (.aload_n 0, 1) := by decide +kernel
theorem dL_law_289 : decode code 289 = .ok (.iload 4, 2) := by decide +kernel
theorem dL_law_291 : decode code 291 = .ok (.iconst 1, 1) := by decide +kernel
theorem dL_law_292 : decode code 292 = .ok (.iadd, 1) := by decide +kernel
theorem dL_law_293 : decode code 293 = .ok (.iaload, 1) := by decide +kernel
theorem dL_law_294 : decode code 294 = .ok (.ifCond .eq 7, 3) := by decide +kernel
theorem dL_law_297 : decode code 297 = .ok (.iconst 1, 1) := by decide +kernel
theorem dL_law_298 : decode code 298 = .ok (.goto 4, 3) := by decide +kernel
theorem dL_law_301 : decode code 301 = .ok (.iconst 0, 1) := by decide +kernel
theorem dL_law_302 : decode code 302 = .ok (.aload_n 0, 1) := by decide +kernel
theorem dL_law_303 : decode code 303 = .ok (.iload 4, 2) := by decide +kernel
theorem dL_law_305 : decode code 305 = .ok (.iconst 2, 1) := by decide +kernel
theorem dL_law_306 : decode code 306 = .ok (.iadd, 1) := by decide +kernel
theorem dL_law_307 : decode code 307 = .ok (.iaload, 1) := by decide +kernel
theorem dL_law_308 : decode code 308 = .ok (.invokevirtual 68, 3) := by decide +kernel
theorem dL_law_311 : decode code 311 = .ok (.istore 6, 2) := by decide +kernel
theorem dL_law_313 : decode code 313 = .ok (.aload_n 2, 1) := by decide +kernel
theorem dL_law_314 : decode code 314 = .ok (.invokevirtual 61, 3) := by decide +kernel
theorem dL_law_317 : decode code 317 = .ok (.iload 5, 2) := by decide +kernel
theorem dL_law_319 : decode code 319 = .ok (.if_icmp .eq 5, 3) := by decide +kernel
theorem dL_law_322 : decode code 322 = .ok (.iconst 0, 1) := by decide +kernel
theorem dL_law_323 : decode code 323 = .ok (.ireturn, 1) := by decide +kernel
theorem dL_law_324 : decode code 324 = .ok (.iload 5, 2) := by decide +kernel
theorem dL_law_326 : decode code 326 = .ok (.ifCond .ne 22, 3) := by decide +kernel
theorem dL_law_329 : decode code 329 = .ok (.aload_n 3, 1) := by decide +kernel
theorem dL_law_330 : decode code 330 = .ok (.iconst 0, 1) := by decide +kernel
theorem dL_law_331 : decode code 331 = .ok (.laload, 1) := by decide +kernel
theorem dL_law_332 : decode code 332 = .ok (.iload 6, 2) := by decide +kernel
theorem dL_law_334 : decode code 334 = .ok (.ifCond .eq 7, 3) := by decide +kernel
theorem dL_law_337 : decode code 337 = .ok (.lconst 1, 1) := by decide +kernel
theorem dL_law_338 : decode code 338 = .ok (.goto 4, 3) := by decide +kernel
theorem dL_law_341 : decode code 341 = .ok (.lconst 0, 1) := by decide +kernel
theorem dL_law_342 : decode code 342 = .ok (.lcmp, 1) := by decide +kernel
theorem dL_law_343 : decode code 343 = .ok (.ifCond .eq 5, 3) := by decide +kernel
theorem dL_law_346 : decode code 346 = .ok (.iconst 0, 1) := by decide +kernel
theorem dL_law_347 : decode code 347 = .ok (.ireturn, 1) := by decide +kernel
theorem dL_law_348 : decode code 348 = .ok (.goto 401, 3) := by decide +kernel
theorem dL_law_351 : decode code 351 = .ok (.aload_n 1, 1) := by decide +kernel
theorem dL_law_352 : decode code 352 = .ok (.invokevirtual 69, 3) := by decide +kernel
theorem dL_law_355 : decode code 355 = .ok (.aload_n 2, 1) := by decide +kernel
theorem dL_law_356 : decode code 356 = .ok (.invokevirtual 72, 3) := by decide +kernel
theorem dL_law_359 : decode code 359 = .ok (.if_icmp .eq 390, 3) := by decide +kernel
theorem dL_law_362 : decode code 362 = .ok (.iconst 0, 1) := by decide +kernel
theorem dL_law_363 : decode code 363 = .ok (.ireturn, 1) := by decide +kernel
theorem dL_law_364 : decode code 364 = .ok (.aload_n 1, 1) := by decide +kernel
theorem dL_law_365 : decode code 365 = .ok (.aload_n 0, 1) := by decide +kernel
theorem dL_law_366 : decode code 366 = .ok (.iload 4, 2) := by decide +kernel
theorem dL_law_368 : decode code 368 = .ok (.iconst 1, 1) := by decide +kernel
theorem dL_law_369 : decode code 369 = .ok (.iadd, 1) := by decide +kernel
theorem dL_law_370 : decode code 370 = .ok (.iaload, 1) := by decide +kernel
theorem dL_law_371 : decode code 371 = .ok (.aload_n 3, 1) := by decide +kernel
theorem dL_law_372 : decode code 372 = .ok (.invokestatic 73, 3) := by decide +kernel
theorem dL_law_375 : decode code 375 = .ok (.istore 5, 2) := by decide +kernel
theorem dL_law_377 : decode code 377 = .ok (.aload_n 2, 1) := by decide +kernel
theorem dL_law_378 : decode code 378 = .ok (.aload_n 0, 1) := by decide +kernel
theorem dL_law_379 : decode code 379 = .ok (.iload 4, 2) := by decide +kernel
theorem dL_law_381 : decode code 381 = .ok (.iconst 1, 1) := by decide +kernel
theorem dL_law_382 : decode code 382 = .ok (.iadd, 1) := by decide +kernel
theorem dL_law_383 : decode code 383 = .ok (.iaload, 1) := by decide +kernel
theorem dL_law_384 : decode code 384 = .ok (.invokevirtual 76, 3) := by decide +kernel
theorem dL_law_387 : decode code 387 = .ok (.istore 6, 2) := by decide +kernel
theorem dL_law_389 : decode code 389 = .ok (.aload_n 2, 1) := by decide +kernel
theorem dL_law_390 : decode code 390 = .ok (.invokevirtual 61, 3) := by decide +kernel
theorem dL_law_393 : decode code 393 = .ok (.iload 5, 2) := by decide +kernel
theorem dL_law_395 : decode code 395 = .ok (.if_icmp .eq 5, 3) := by decide +kernel
theorem dL_law_398 : decode code 398 = .ok (.iconst 0, 1) := by decide +kernel
theorem dL_law_399 : decode code 399 = .ok (.ireturn, 1) := by decide +kernel
theorem dL_law_400 : decode code 400 = .ok (.iload 5, 2) := by decide +kernel
theorem dL_law_402 : decode code 402 = .ok (.ifCond .ne 15, 3) := by decide +kernel
theorem dL_law_405 : decode code 405 = .ok (.aload_n 3, 1) := by decide +kernel
theorem dL_law_406 : decode code 406 = .ok (.iconst 0, 1) := by decide +kernel
theorem dL_law_407 : decode code 407 = .ok (.laload, 1) := by decide +kernel
theorem dL_law_408 : decode code 408 = .ok (.iload 6, 2) := by decide +kernel
theorem dL_law_410 : decode code 410 = .ok (.i2l, 1) := by decide +kernel
theorem dL_law_411 : decode code 411 = .ok (.lcmp, 1) := by decide +kernel
theorem dL_law_412 : decode code 412 = .ok (.ifCond .eq 5, 3) := by decide +kernel
theorem dL_law_415 : decode code 415 = .ok (.iconst 0, 1) := by decide +kernel
theorem dL_law_416 : decode code 416 = .ok (.ireturn, 1) := by decide +kernel
theorem dL_law_417 : decode code 417 = .ok (.goto 332, 3) := by decide +kernel
theorem dL_law_420 : decode code 420 = .ok (.aload_n 1, 1) := by decide +kernel
theorem dL_law_421 : decode code 421 = .ok (.aload_n 0, 1) := by decide +kernel
theorem dL_law_422 : decode code 422 = .ok (.iload 4, 2) := by decide +kernel
theorem dL_law_424 : decode code 424 = .ok (.iconst 1, 1) := by decide +kernel
theorem dL_law_425 : decode code 425 = .ok (.iadd, 1) := by decide +kernel
theorem dL_law_426 : decode code 426 = .ok (.iaload, 1) := by decide +kernel
theorem dL_law_427 : decode code 427 = .ok (.aload_n 0, 1) := by decide +kernel
theorem dL_law_428 : decode code 428 = .ok (.iload 4, 2) := by decide +kernel
theorem dL_law_430 : decode code 430 = .ok (.iconst 2, 1) := by decide +kernel
theorem dL_law_431 : decode code 431 = .ok (.iadd, 1) := by decide +kernel
theorem dL_law_432 : decode code 432 = .ok (.iaload, 1) := by decide +kernel
theorem dL_law_433 : decode code 433 = .ok (.aload_n 3, 1) := by decide +kernel
theorem dL_law_434 : decode code 434 = .ok (.invokestatic 77, 3) := by decide +kernel
theorem dL_law_437 : decode code 437 = .ok (.istore 5, 2) := by decide +kernel
theorem dL_law_439 : decode code 439 = .ok (.aload_n 2, 1) := by decide +kernel
theorem dL_law_440 : decode code 440 = .ok (.aload_n 0, 1) := by decide +kernel
theorem dL_law_441 : decode code 441 = .ok (.iload 4, 2) := by decide +kernel
theorem dL_law_443 : decode code 443 = .ok (.iconst 1, 1) := by decide +kernel
theorem dL_law_444 : decode code 444 = .ok (.iadd, 1) := by decide +kernel
theorem dL_law_445 : decode code 445 = .ok (.iaload, 1) := by decide +kernel
theorem dL_law_446 : decode code 446 = .ok (.aload_n 0, 1) := by decide +kernel
theorem dL_law_447 : decode code 447 = .ok (.iload 4, 2) := by decide +kernel
theorem dL_law_449 : decode code 449 = .ok (.iconst 2, 1) := by decide +kernel
theorem dL_law_450 : decode code 450 = .ok (.iadd, 1) := by decide +kernel
theorem dL_law_451 : decode code 451 = .ok (.iaload, 1) := by decide +kernel
theorem dL_law_452 : decode code 452 = .ok (.invokevirtual 80, 3) := by decide +kernel
theorem dL_law_455 : decode code 455 = .ok (.istore 6, 2) := by decide +kernel
theorem dL_law_457 : decode code 457 = .ok (.aload_n 2, 1) := by decide +kernel
theorem dL_law_458 : decode code 458 = .ok (.invokevirtual 61, 3) := by decide +kernel
theorem dL_law_461 : decode code 461 = .ok (.iload 5, 2) := by decide +kernel
theorem dL_law_463 : decode code 463 = .ok (.if_icmp .eq 5, 3) := by decide +kernel
theorem dL_law_466 : decode code 466 = .ok (.iconst 0, 1) := by decide +kernel
theorem dL_law_467 : decode code 467 = .ok (.ireturn, 1) := by decide +kernel
theorem dL_law_468 : decode code 468 = .ok (.iload 5, 2) := by decide +kernel
theorem dL_law_470 : decode code 470 = .ok (.ifCond .ne 15, 3) := by decide +kernel
theorem dL_law_473 : decode code 473 = .ok (.aload_n 3, 1) := by decide +kernel
theorem dL_law_474 : decode code 474 = .ok (.iconst 0, 1) := by decide +kernel
theorem dL_law_475 : decode code 475 = .ok (.laload, 1) := by decide +kernel
theorem dL_law_476 : decode code 476 = .ok (.iload 6, 2) := by decide +kernel
theorem dL_law_478 : decode code 478 = .ok (.i2l, 1) := by decide +kernel
theorem dL_law_479 : decode code 479 = .ok (.lcmp, 1) := by decide +kernel
theorem dL_law_480 : decode code 480 = .ok (.ifCond .eq 5, 3) := by decide +kernel
theorem dL_law_483 : decode code 483 = .ok (.iconst 0, 1) := by decide +kernel
theorem dL_law_484 : decode code 484 = .ok (.ireturn, 1) := by decide +kernel
theorem dL_law_485 : decode code 485 = .ok (.goto 264, 3) := by decide +kernel
theorem dL_law_488 : decode code 488 = .ok (.aload_n 1, 1) := by decide +kernel
theorem dL_law_489 : decode code 489 = .ok (.aload_n 0, 1) := by decide +kernel
theorem dL_law_490 : decode code 490 = .ok (.iload 4, 2) := by decide +kernel
theorem dL_law_492 : decode code 492 = .ok (.iconst 1, 1) := by decide +kernel
theorem dL_law_493 : decode code 493 = .ok (.iadd, 1) := by decide +kernel
theorem dL_law_494 : decode code 494 = .ok (.iaload, 1) := by decide +kernel
theorem dL_law_495 : decode code 495 = .ok (.aload_n 0, 1) := by decide +kernel
theorem dL_law_496 : decode code 496 = .ok (.iload 4, 2) := by decide +kernel
theorem dL_law_498 : decode code 498 = .ok (.iconst 2, 1) := by decide +kernel
theorem dL_law_499 : decode code 499 = .ok (.iadd, 1) := by decide +kernel
theorem dL_law_500 : decode code 500 = .ok (.iaload, 1) := by decide +kernel
theorem dL_law_501 : decode code 501 = .ok (.aload_n 3, 1) := by decide +kernel
theorem dL_law_502 : decode code 502 = .ok (.invokestatic 81, 3) := by decide +kernel
theorem dL_law_505 : decode code 505 = .ok (.istore 5, 2) := by decide +kernel
theorem dL_law_507 : decode code 507 = .ok (.aload_n 2, 1) := by decide +kernel
theorem dL_law_508 : decode code 508 = .ok (.aload_n 0, 1) := by decide +kernel
theorem dL_law_509 : decode code 509 = .ok (.iload 4, 2) := by decide +kernel
theorem dL_law_511 : decode code 511 = .ok (.iconst 1, 1) := by decide +kernel
theorem dL_law_512 : decode code 512 = .ok (.iadd, 1) := by decide +kernel
theorem dL_law_513 : decode code 513 = .ok (.iaload, 1) := by decide +kernel
theorem dL_law_514 : decode code 514 = .ok (.aload_n 0, 1) := by decide +kernel
theorem dL_law_515 : decode code 515 = .ok (.iload 4, 2) := by decide +kernel
theorem dL_law_517 : decode code 517 = .ok (.iconst 2, 1) := by decide +kernel
theorem dL_law_518 : decode code 518 = .ok (.iadd, 1) := by decide +kernel
theorem dL_law_519 : decode code 519 = .ok (.iaload, 1) := by decide +kernel
theorem dL_law_520 : decode code 520 = .ok (.invokevirtual 83, 3) := by decide +kernel
theorem dL_law_523 : decode code 523 = .ok (.istore 6, 2) := by decide +kernel
theorem dL_law_525 : decode code 525 = .ok (.aload_n 2, 1) := by decide +kernel
theorem dL_law_526 : decode code 526 = .ok (.invokevirtual 61, 3) := by decide +kernel
theorem dL_law_529 : decode code 529 = .ok (.iload 5, 2) := by decide +kernel
theorem dL_law_531 : decode code 531 = .ok (.if_icmp .eq 5, 3) := by decide +kernel
theorem dL_law_534 : decode code 534 = .ok (.iconst 0, 1) := by decide +kernel
theorem dL_law_535 : decode code 535 = .ok (.ireturn, 1) := by decide +kernel
theorem dL_law_536 : decode code 536 = .ok (.iload 5, 2) := by decide +kernel
theorem dL_law_538 : decode code 538 = .ok (.ifCond .ne 15, 3) := by decide +kernel
theorem dL_law_541 : decode code 541 = .ok (.aload_n 3, 1) := by decide +kernel
theorem dL_law_542 : decode code 542 = .ok (.iconst 0, 1) := by decide +kernel
theorem dL_law_543 : decode code 543 = .ok (.laload, 1) := by decide +kernel
theorem dL_law_544 : decode code 544 = .ok (.iload 6, 2) := by decide +kernel
theorem dL_law_546 : decode code 546 = .ok (.i2l, 1) := by decide +kernel
theorem dL_law_547 : decode code 547 = .ok (.lcmp, 1) := by decide +kernel
theorem dL_law_548 : decode code 548 = .ok (.ifCond .eq 5, 3) := by decide +kernel
theorem dL_law_551 : decode code 551 = .ok (.iconst 0, 1) := by decide +kernel
theorem dL_law_552 : decode code 552 = .ok (.ireturn, 1) := by decide +kernel
theorem dL_law_553 : decode code 553 = .ok (.goto 196, 3) := by decide +kernel
theorem dL_law_556 : decode code 556 = .ok (.aload_n 1, 1) := by decide +kernel
theorem dL_law_557 : decode code 557 = .ok (.aload_n 0, 1) := by decide +kernel
theorem dL_law_558 : decode code 558 = .ok (.iload 4, 2) := by decide +kernel
theorem dL_law_560 : decode code 560 = .ok (.iconst 1, 1) := by decide +kernel
theorem dL_law_561 : decode code 561 = .ok (.iadd, 1) := by decide +kernel
theorem dL_law_562 : decode code 562 = .ok (.iaload, 1) := by decide +kernel
theorem dL_law_563 : decode code 563 = .ok (.aload_n 3, 1) := by decide +kernel
theorem dL_law_564 : decode code 564 = .ok (.invokestatic 84, 3) := by decide +kernel
theorem dL_law_567 : decode code 567 = .ok (.istore 5, 2) := by decide +kernel
theorem dL_law_569 : decode code 569 = .ok (.aload_n 2, 1) := by decide +kernel
theorem dL_law_570 : decode code 570 = .ok (.aload_n 0, 1) := by decide +kernel
theorem dL_law_571 : decode code 571 = .ok (.iload 4, 2) := by decide +kernel
theorem dL_law_573 : decode code 573 = .ok (.iconst 1, 1) := by decide +kernel
theorem dL_law_574 : decode code 574 = .ok (.iadd, 1) := by decide +kernel
theorem dL_law_575 : decode code 575 = .ok (.iaload, 1) := by decide +kernel
theorem dL_law_576 : decode code 576 = .ok (.invokevirtual 86, 3) := by decide +kernel
theorem dL_law_579 : decode code 579 = .ok (.istore 6, 2) := by decide +kernel
theorem dL_law_581 : decode code 581 = .ok (.aload_n 2, 1) := by decide +kernel
theorem dL_law_582 : decode code 582 = .ok (.invokevirtual 61, 3) := by decide +kernel
theorem dL_law_585 : decode code 585 = .ok (.iload 5, 2) := by decide +kernel
theorem dL_law_587 : decode code 587 = .ok (.if_icmp .eq 5, 3) := by decide +kernel
theorem dL_law_590 : decode code 590 = .ok (.iconst 0, 1) := by decide +kernel
theorem dL_law_591 : decode code 591 = .ok (.ireturn, 1) := by decide +kernel
theorem dL_law_592 : decode code 592 = .ok (.iload 5, 2) := by decide +kernel
theorem dL_law_594 : decode code 594 = .ok (.ifCond .ne 15, 3) := by decide +kernel
theorem dL_law_597 : decode code 597 = .ok (.aload_n 3, 1) := by decide +kernel
theorem dL_law_598 : decode code 598 = .ok (.iconst 0, 1) := by decide +kernel
theorem dL_law_599 : decode code 599 = .ok (.laload, 1) := by decide +kernel
theorem dL_law_600 : decode code 600 = .ok (.iload 6, 2) := by decide +kernel
theorem dL_law_602 : decode code 602 = .ok (.i2l, 1) := by decide +kernel
theorem dL_law_603 : decode code 603 = .ok (.lcmp, 1) := by decide +kernel
theorem dL_law_604 : decode code 604 = .ok (.ifCond .eq 5, 3) := by decide +kernel
theorem dL_law_607 : decode code 607 = .ok (.iconst 0, 1) := by decide +kernel
theorem dL_law_608 : decode code 608 = .ok (.ireturn, 1) := by decide +kernel
theorem dL_law_609 : decode code 609 = .ok (.goto 140, 3) := by decide +kernel
theorem dL_law_612 : decode code 612 = .ok (.aload_n 1, 1) := by decide +kernel
theorem dL_law_613 : decode code 613 = .ok (.aload_n 0, 1) := by decide +kernel
theorem dL_law_614 : decode code 614 = .ok (.iload 4, 2) := by decide +kernel
theorem dL_law_616 : decode code 616 = .ok (.iconst 1, 1) := by decide +kernel
theorem dL_law_617 : decode code 617 = .ok (.iadd, 1) := by decide +kernel
theorem dL_law_618 : decode code 618 = .ok (.iaload, 1) := by decide +kernel
theorem dL_law_619 : decode code 619 = .ok (.aload_n 3, 1) := by decide +kernel
theorem dL_law_620 : decode code 620 = .ok (.invokestatic 87, 3) := by decide +kernel
theorem dL_law_623 : decode code 623 = .ok (.istore 5, 2) := by decide +kernel
theorem dL_law_625 : decode code 625 = .ok (.aload_n 2, 1) := by decide +kernel
theorem dL_law_626 : decode code 626 = .ok (.aload_n 0, 1) := by decide +kernel
theorem dL_law_627 : decode code 627 = .ok (.iload 4, 2) := by decide +kernel
theorem dL_law_629 : decode code 629 = .ok (.iconst 1, 1) := by decide +kernel
theorem dL_law_630 : decode code 630 = .ok (.iadd, 1) := by decide +kernel
theorem dL_law_631 : decode code 631 = .ok (.iaload, 1) := by decide +kernel
theorem dL_law_632 : decode code 632 = .ok (.invokevirtual 89, 3) := by decide +kernel
theorem dL_law_635 : decode code 635 = .ok (.istore 6, 2) := by decide +kernel
theorem dL_law_637 : decode code 637 = .ok (.aload_n 2, 1) := by decide +kernel
theorem dL_law_638 : decode code 638 = .ok (.invokevirtual 61, 3) := by decide +kernel
theorem dL_law_641 : decode code 641 = .ok (.iload 5, 2) := by decide +kernel
theorem dL_law_643 : decode code 643 = .ok (.if_icmp .eq 5, 3) := by decide +kernel
theorem dL_law_646 : decode code 646 = .ok (.iconst 0, 1) := by decide +kernel
theorem dL_law_647 : decode code 647 = .ok (.ireturn, 1) := by decide +kernel
theorem dL_law_648 : decode code 648 = .ok (.iload 5, 2) := by decide +kernel
theorem dL_law_650 : decode code 650 = .ok (.ifCond .ne 15, 3) := by decide +kernel
theorem dL_law_653 : decode code 653 = .ok (.aload_n 3, 1) := by decide +kernel
theorem dL_law_654 : decode code 654 = .ok (.iconst 0, 1) := by decide +kernel
theorem dL_law_655 : decode code 655 = .ok (.laload, 1) := by decide +kernel
theorem dL_law_656 : decode code 656 = .ok (.iload 6, 2) := by decide +kernel
theorem dL_law_658 : decode code 658 = .ok (.i2l, 1) := by decide +kernel
theorem dL_law_659 : decode code 659 = .ok (.lcmp, 1) := by decide +kernel
theorem dL_law_660 : decode code 660 = .ok (.ifCond .eq 5, 3) := by decide +kernel
theorem dL_law_663 : decode code 663 = .ok (.iconst 0, 1) := by decide +kernel
theorem dL_law_664 : decode code 664 = .ok (.ireturn, 1) := by decide +kernel
theorem dL_law_665 : decode code 665 = .ok (.goto 84, 3) := by decide +kernel
theorem dL_law_668 : decode code 668 = .ok (.aload_n 1, 1) := by decide +kernel
theorem dL_law_669 : decode code 669 = .ok (.aload_n 0, 1) := by decide +kernel
theorem dL_law_670 : decode code 670 = .ok (.iload 4, 2) := by decide +kernel
theorem dL_law_672 : decode code 672 = .ok (.iconst 1, 1) := by decide +kernel
theorem dL_law_673 : decode code 673 = .ok (.iadd, 1) := by decide +kernel
theorem dL_law_674 : decode code 674 = .ok (.iaload, 1) := by decide +kernel
theorem dL_law_675 : decode code 675 = .ok (.aload_n 3, 1) := by decide +kernel
theorem dL_law_676 : decode code 676 = .ok (.invokestatic 90, 3) := by decide +kernel
theorem dL_law_679 : decode code 679 = .ok (.istore 5, 2) := by decide +kernel
theorem dL_law_681 : decode code 681 = .ok (.aload_n 2, 1) := by decide +kernel
theorem dL_law_682 : decode code 682 = .ok (.aload_n 0, 1) := by decide +kernel
theorem dL_law_683 : decode code 683 = .ok (.iload 4, 2) := by decide +kernel
theorem dL_law_685 : decode code 685 = .ok (.iconst 1, 1) := by decide +kernel
theorem dL_law_686 : decode code 686 = .ok (.iadd, 1) := by decide +kernel
theorem dL_law_687 : decode code 687 = .ok (.iaload, 1) := by decide +kernel
theorem dL_law_688 : decode code 688 = .ok (.invokevirtual 92, 3) := by decide +kernel
theorem dL_law_691 : decode code 691 = .ok (.istore 6, 2) := by decide +kernel
theorem dL_law_693 : decode code 693 = .ok (.aload_n 2, 1) := by decide +kernel
theorem dL_law_694 : decode code 694 = .ok (.invokevirtual 61, 3) := by decide +kernel
theorem dL_law_697 : decode code 697 = .ok (.iload 5, 2) := by decide +kernel
theorem dL_law_699 : decode code 699 = .ok (.if_icmp .eq 5, 3) := by decide +kernel
theorem dL_law_702 : decode code 702 = .ok (.iconst 0, 1) := by decide +kernel
theorem dL_law_703 : decode code 703 = .ok (.ireturn, 1) := by decide +kernel
theorem dL_law_704 : decode code 704 = .ok (.iload 5, 2) := by decide +kernel
theorem dL_law_706 : decode code 706 = .ok (.ifCond .ne 15, 3) := by decide +kernel
theorem dL_law_709 : decode code 709 = .ok (.aload_n 3, 1) := by decide +kernel
theorem dL_law_710 : decode code 710 = .ok (.iconst 0, 1) := by decide +kernel
theorem dL_law_711 : decode code 711 = .ok (.laload, 1) := by decide +kernel
theorem dL_law_712 : decode code 712 = .ok (.iload 6, 2) := by decide +kernel
theorem dL_law_714 : decode code 714 = .ok (.i2l, 1) := by decide +kernel
theorem dL_law_715 : decode code 715 = .ok (.lcmp, 1) := by decide +kernel
theorem dL_law_716 : decode code 716 = .ok (.ifCond .eq 5, 3) := by decide +kernel
theorem dL_law_719 : decode code 719 = .ok (.iconst 0, 1) := by decide +kernel
theorem dL_law_720 : decode code 720 = .ok (.ireturn, 1) := by decide +kernel
theorem dL_law_721 : decode code 721 = .ok (.goto 28, 3) := by decide +kernel
theorem dL_law_724 : decode code 724 = .ok (.aload_n 1, 1) := by decide +kernel
theorem dL_law_725 : decode code 725 = .ok (.aload_n 0, 1) := by decide +kernel
theorem dL_law_726 : decode code 726 = .ok (.iload 4, 2) := by decide +kernel
theorem dL_law_728 : decode code 728 = .ok (.iconst 1, 1) := by decide +kernel
theorem dL_law_729 : decode code 729 = .ok (.iadd, 1) := by decide +kernel
theorem dL_law_730 : decode code 730 = .ok (.iaload, 1) := by decide +kernel
theorem dL_law_731 : decode code 731 = .ok (.invokevirtual 93, 3) := by decide +kernel
theorem dL_law_734 : decode code 734 = .ok (.aload_n 2, 1) := by decide +kernel
theorem dL_law_735 : decode code 735 = .ok (.aload_n 0, 1) := by decide +kernel
theorem dL_law_736 : decode code 736 = .ok (.iload 4, 2) := by decide +kernel
theorem dL_law_738 : decode code 738 = .ok (.iconst 1, 1) := by decide +kernel
theorem dL_law_739 : decode code 739 = .ok (.iadd, 1) := by decide +kernel
theorem dL_law_740 : decode code 740 = .ok (.iaload, 1) := by decide +kernel
theorem dL_law_741 : decode code 741 = .ok (.invokevirtual 96, 3) := by decide +kernel
theorem dL_law_744 : decode code 744 = .ok (.if_icmp .eq 5, 3) := by decide +kernel
theorem dL_law_747 : decode code 747 = .ok (.iconst 0, 1) := by decide +kernel
theorem dL_law_748 : decode code 748 = .ok (.ireturn, 1) := by decide +kernel
theorem dL_law_749 : decode code 749 = .ok (.iinc 4 6, 3) := by decide +kernel
theorem dL_law_752 : decode code 752 = .ok (.goto (-668), 3) := by decide +kernel
theorem dL_law_755 : decode code 755 = .ok (.iconst 1, 1) := by decide +kernel
theorem dL_law_756 : decode code 756 = .ok (.ireturn, 1) := by decide +kernel

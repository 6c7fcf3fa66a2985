theorem dX7_init_0 : decode cX7_init 0 = .ok (.aload_n 0, 1) := by decide +kernel
theorem dX7_init_1 : decode cX7_init 1 = .ok (.invokespecial 1, 3) := by decide +kernel
theorem dX7_init_4 : decode cX7_init 4 = .ok (.aload_n 0, 1) := by decide +kernel
theorem dX7_init_5 : decode cX7_init 5 = .ok (.new 7, 3) := by decide +kernel
theorem dX7_init_8 : decode cX7_init 8 = .ok (.dup, 1) := by decide +kernel
theorem dX7_init_9 : decode cX7_init 9 = .ok (.iload_n 1, 1) := by decide +kernel
theorem dX7_init_10 : decode cX7_init 10 = .ok (.iload_n 2, 1) := by decide +kernel
theorem dX7_init_11 : decode cX7_init 11 = .ok (.iload_n 3, 1) := by decide +kernel
theorem dX7_init_12 : decode cX7_init 12 = .ok (.iload 4, 2) := by decide +kernel
theorem dX7_init_14 : decode cX7_init 14 = .ok (.iload 5, 2) := by decide +kernel
theorem dX7_init_16 : decode cX7_init 16 = .ok (.iload 6, 2) := by decide +kernel
theorem dX7_init_18 : decode cX7_init 18 = .ok (.invokespecial 9, 3) := by decide +kernel
theorem dX7_init_21 : decode cX7_init 21 = .ok (.putfield 12, 3) := by decide +kernel
theorem dX7_init_24 : decode cX7_init 24 = .ok (.aload_n 0, 1) := by decide +kernel
theorem dX7_init_25 : decode cX7_init 25 = .ok (.new 18, 3) := by decide +kernel
theorem dX7_init_28 : decode cX7_init 28 = .ok (.dup, 1) := by decide +kernel
theorem dX7_init_29 : decode cX7_init 29 = .ok (.invokespecial 20, 3) := by decide +kernel
theorem dX7_init_32 : decode cX7_init 32 = .ok (.putfield 21, 3) := by decide +kernel
theorem dX7_init_35 : decode cX7_init 35 = .ok (.aload_n 0, 1) := by decide +kernel
theorem dX7_init_36 : decode cX7_init 36 = .ok (.new 25, 3) := by decide +kernel
theorem dX7_init_39 : decode cX7_init 39 = .ok (.dup, 1) := by decide +kernel
theorem dX7_init_40 : decode cX7_init 40 = .ok (.aload_n 0, 1) := by decide +kernel
theorem dX7_init_41 : decode cX7_init 41 = .ok (.getfield 12, 3) := by decide +kernel
theorem dX7_init_44 : decode cX7_init 44 = .ok (.aload_n 0, 1) := by decide +kernel
theorem dX7_init_45 : decode cX7_init 45 = .ok (.getfield 21, 3) := by decide +kernel
theorem dX7_init_48 : decode cX7_init 48 = .ok (.invokespecial 27, 3) := by decide +kernel
theorem dX7_init_51 : decode cX7_init 51 = .ok (.putfield 30, 3) := by decide +kernel
theorem dX7_init_54 : decode cX7_init 54 = .ok (.return_, 1) := by decide +kernel
theorem dX7_word_0 : decode cX7_word 0 = .ok (.iload_n 1, 1) := by decide +kernel
theorem dX7_word_1 : decode cX7_word 1 = .ok (.bipush 8, 2) := by decide +kernel
theorem dX7_word_3 : decode cX7_word 3 = .ok (.invokestatic 34, 3) := by decide +kernel
theorem dX7_word_6 : decode cX7_word 6 = .ok (.ifCond .ne 13, 3) := by decide +kernel
theorem dX7_word_9 : decode cX7_word 9 = .ok (.new 38, 3) := by decide +kernel
theorem dX7_word_12 : decode cX7_word 12 = .ok (.dup, 1) := by decide +kernel
theorem dX7_word_13 : decode cX7_word 13 = .ok (.ldc 40, 2) := by decide +kernel
theorem dX7_word_15 : decode cX7_word 15 = .ok (.invokespecial 42, 3) := by decide +kernel
theorem dX7_word_18 : decode cX7_word 18 = .ok (.athrow, 1) := by decide +kernel
theorem dX7_word_19 : decode cX7_word 19 = .ok (.iload_n 2, 1) := by decide +kernel
theorem dX7_word_20 : decode cX7_word 20 = .ok (.bipush 8, 2) := by decide +kernel
theorem dX7_word_22 : decode cX7_word 22 = .ok (.invokestatic 34, 3) := by decide +kernel
theorem dX7_word_25 : decode cX7_word 25 = .ok (.ifCond .eq 22, 3) := by decide +kernel
theorem dX7_word_28 : decode cX7_word 28 = .ok (.iload_n 3, 1) := by decide +kernel
theorem dX7_word_29 : decode cX7_word 29 = .ok (.bipush 8, 2) := by decide +kernel
theorem dX7_word_31 : decode cX7_word 31 = .ok (.invokestatic 34, 3) := by decide +kernel
theorem dX7_word_34 : decode cX7_word 34 = .ok (.ifCond .eq 13, 3) := by decide +kernel
theorem dX7_word_37 : decode cX7_word 37 = .ok (.iload 4, 2) := by decide +kernel
theorem dX7_word_39 : decode cX7_word 39 = .ok (.bipush 8, 2) := by decide +kernel
theorem dX7_word_41 : decode cX7_word 41 = .ok (.invokestatic 34, 3) := by decide +kernel
theorem dX7_word_44 : decode cX7_word 44 = .ok (.ifCond .ne 13, 3) := by decide +kernel
theorem dX7_word_47 : decode cX7_word 47 = .ok (.new 38, 3) := by decide +kernel
theorem dX7_word_50 : decode cX7_word 50 = .ok (.dup, 1) := by decide +kernel
theorem dX7_word_51 : decode cX7_word 51 = .ok (.ldc 45, 2) := by decide +kernel
theorem dX7_word_53 : decode cX7_word 53 = .ok (.invokespecial 42, 3) := by decide +kernel
theorem dX7_word_56 : decode cX7_word 56 = .ok (.athrow, 1) := by decide +kernel
theorem dX7_word_57 : decode cX7_word 57 = .ok (.aload_n 0, 1) := by decide +kernel
theorem dX7_word_58 : decode cX7_word 58 = .ok (.getfield 30, 3) := by decide +kernel
theorem dX7_word_61 : decode cX7_word 61 = .ok (.getfield 47, 3) := by decide +kernel
theorem dX7_word_64 : decode cX7_word 64 = .ok (.getfield 51, 3) := by decide +kernel
theorem dX7_word_67 : decode cX7_word 67 = .ok (.ifCond .eq 13, 3) := by decide +kernel
theorem dX7_word_70 : decode cX7_word 70 = .ok (.new 57, 3) := by decide +kernel
theorem dX7_word_73 : decode cX7_word 73 = .ok (.dup, 1) := by decide +kernel
theorem dX7_word_74 : decode cX7_word 74 = .ok (.ldc 59, 2) := by decide +kernel
theorem dX7_word_76 : decode cX7_word 76 = .ok (.invokespecial 61, 3) := by decide +kernel
theorem dX7_word_79 : decode cX7_word 79 = .ok (.athrow, 1) := by decide +kernel
theorem dX7_word_80 : decode cX7_word 80 = .ok (.aload_n 0, 1) := by decide +kernel
theorem dX7_word_81 : decode cX7_word 81 = .ok (.getfield 21, 3) := by decide +kernel
theorem dX7_word_84 : decode cX7_word 84 = .ok (.invokevirtual 62, 3) := by decide +kernel
theorem dX7_word_87 : decode cX7_word 87 = .ok (.bipush 64, 2) := by decide +kernel
theorem dX7_word_89 : decode cX7_word 89 = .ok (.if_icmp .lt 13, 3) := by decide +kernel
theorem dX7_word_92 : decode cX7_word 92 = .ok (.new 66, 3) := by decide +kernel
theorem dX7_word_95 : decode cX7_word 95 = .ok (.dup, 1) := by decide +kernel
theorem dX7_word_96 : decode cX7_word 96 = .ok (.ldc 68, 2) := by decide +kernel
theorem dX7_word_98 : decode cX7_word 98 = .ok (.invokespecial 70, 3) := by decide +kernel
theorem dX7_word_101 : decode cX7_word 101 = .ok (.athrow, 1) := by decide +kernel
theorem dX7_word_102 : decode cX7_word 102 = .ok (.aload_n 0, 1) := by decide +kernel
theorem dX7_word_103 : decode cX7_word 103 = .ok (.getfield 21, 3) := by decide +kernel
theorem dX7_word_106 : decode cX7_word 106 = .ok (.iload_n 1, 1) := by decide +kernel
theorem dX7_word_107 : decode cX7_word 107 = .ok (.iload_n 2, 1) := by decide +kernel
theorem dX7_word_108 : decode cX7_word 108 = .ok (.iload_n 3, 1) := by decide +kernel
theorem dX7_word_109 : decode cX7_word 109 = .ok (.iload 4, 2) := by decide +kernel
theorem dX7_word_111 : decode cX7_word 111 = .ok (.iload 5, 2) := by decide +kernel
theorem dX7_word_113 : decode cX7_word 113 = .ok (.invokevirtual 71, 3) := by decide +kernel
theorem dX7_word_116 : decode cX7_word 116 = .ok (.ireturn, 1) := by decide +kernel
theorem dX7_set_0 : decode cX7_set 0 = .ok (.iload_n 2, 1) := by decide +kernel
theorem dX7_set_1 : decode cX7_set 1 = .ok (.bipush 64, 2) := by decide +kernel
theorem dX7_set_3 : decode cX7_set 3 = .ok (.invokestatic 34, 3) := by decide +kernel
theorem dX7_set_6 : decode cX7_set 6 = .ok (.ifCond .ne 13, 3) := by decide +kernel
theorem dX7_set_9 : decode cX7_set 9 = .ok (.new 38, 3) := by decide +kernel
theorem dX7_set_12 : decode cX7_set 12 = .ok (.dup, 1) := by decide +kernel
theorem dX7_set_13 : decode cX7_set 13 = .ok (.ldc 75, 2) := by decide +kernel
theorem dX7_set_15 : decode cX7_set 15 = .ok (.invokespecial 42, 3) := by decide +kernel
theorem dX7_set_18 : decode cX7_set 18 = .ok (.athrow, 1) := by decide +kernel
theorem dX7_set_19 : decode cX7_set 19 = .ok (.aload_n 0, 1) := by decide +kernel
theorem dX7_set_20 : decode cX7_set 20 = .ok (.getfield 30, 3) := by decide +kernel
theorem dX7_set_23 : decode cX7_set 23 = .ok (.getfield 47, 3) := by decide +kernel
theorem dX7_set_26 : decode cX7_set 26 = .ok (.getfield 51, 3) := by decide +kernel
theorem dX7_set_29 : decode cX7_set 29 = .ok (.ifCond .eq 13, 3) := by decide +kernel
theorem dX7_set_32 : decode cX7_set 32 = .ok (.new 57, 3) := by decide +kernel
theorem dX7_set_35 : decode cX7_set 35 = .ok (.dup, 1) := by decide +kernel
theorem dX7_set_36 : decode cX7_set 36 = .ok (.ldc 59, 2) := by decide +kernel
theorem dX7_set_38 : decode cX7_set 38 = .ok (.invokespecial 61, 3) := by decide +kernel
theorem dX7_set_41 : decode cX7_set 41 = .ok (.athrow, 1) := by decide +kernel
theorem dX7_set_42 : decode cX7_set 42 = .ok (.aload_n 0, 1) := by decide +kernel
theorem dX7_set_43 : decode cX7_set 43 = .ok (.getfield 30, 3) := by decide +kernel
theorem dX7_set_46 : decode cX7_set 46 = .ok (.getfield 77, 3) := by decide +kernel
theorem dX7_set_49 : decode cX7_set 49 = .ok (.istore_n 3, 1) := by decide +kernel
theorem dX7_set_50 : decode cX7_set 50 = .ok (.aload_n 0, 1) := by decide +kernel
theorem dX7_set_51 : decode cX7_set 51 = .ok (.getfield 30, 3) := by decide +kernel
theorem dX7_set_54 : decode cX7_set 54 = .ok (.iload_n 1, 1) := by decide +kernel
theorem dX7_set_55 : decode cX7_set 55 = .ok (.putfield 77, 3) := by decide +kernel
theorem dX7_set_58 : decode cX7_set 58 = .ok (.aload_n 0, 1) := by decide +kernel
theorem dX7_set_59 : decode cX7_set 59 = .ok (.getfield 30, 3) := by decide +kernel
theorem dX7_set_62 : decode cX7_set 62 = .ok (.iload_n 2, 1) := by decide +kernel
theorem dX7_set_63 : decode cX7_set 63 = .ok (.putfield 81, 3) := by decide +kernel
theorem dX7_set_66 : decode cX7_set 66 = .ok (.iload_n 3, 1) := by decide +kernel
theorem dX7_set_67 : decode cX7_set 67 = .ok (.ireturn, 1) := by decide +kernel
theorem dX7_clear_0 : decode cX7_clear 0 = .ok (.aload_n 0, 1) := by decide +kernel
theorem dX7_clear_1 : decode cX7_clear 1 = .ok (.getfield 30, 3) := by decide +kernel
theorem dX7_clear_4 : decode cX7_clear 4 = .ok (.getfield 47, 3) := by decide +kernel
theorem dX7_clear_7 : decode cX7_clear 7 = .ok (.getfield 51, 3) := by decide +kernel
theorem dX7_clear_10 : decode cX7_clear 10 = .ok (.istore_n 1, 1) := by decide +kernel
theorem dX7_clear_11 : decode cX7_clear 11 = .ok (.aload_n 0, 1) := by decide +kernel
theorem dX7_clear_12 : decode cX7_clear 12 = .ok (.getfield 21, 3) := by decide +kernel
theorem dX7_clear_15 : decode cX7_clear 15 = .ok (.invokevirtual 84, 3) := by decide +kernel
theorem dX7_clear_18 : decode cX7_clear 18 = .ok (.aload_n 0, 1) := by decide +kernel
theorem dX7_clear_19 : decode cX7_clear 19 = .ok (.getfield 30, 3) := by decide +kernel
theorem dX7_clear_22 : decode cX7_clear 22 = .ok (.invokevirtual 87, 3) := by decide +kernel
theorem dX7_clear_25 : decode cX7_clear 25 = .ok (.iload_n 1, 1) := by decide +kernel
theorem dX7_clear_26 : decode cX7_clear 26 = .ok (.ireturn, 1) := by decide +kernel
theorem dX7_run_0 : decode cX7_run 0 = .ok (.iload_n 1, 1) := by decide +kernel
theorem dX7_run_1 : decode cX7_run 1 = .ok (.iconst 1, 1) := by decide +kernel
theorem dX7_run_2 : decode cX7_run 2 = .ok (.if_icmp .lt 10, 3) := by decide +kernel
theorem dX7_run_5 : decode cX7_run 5 = .ok (.iload_n 1, 1) := by decide +kernel
theorem dX7_run_6 : decode cX7_run 6 = .ok (.sipush 2000, 3) := by decide +kernel
theorem dX7_run_9 : decode cX7_run 9 = .ok (.if_icmp .le 13, 3) := by decide +kernel
theorem dX7_run_12 : decode cX7_run 12 = .ok (.new 38, 3) := by decide +kernel
theorem dX7_run_15 : decode cX7_run 15 = .ok (.dup, 1) := by decide +kernel
theorem dX7_run_16 : decode cX7_run 16 = .ok (.ldc 90, 2) := by decide +kernel
theorem dX7_run_18 : decode cX7_run 18 = .ok (.invokespecial 42, 3) := by decide +kernel
theorem dX7_run_21 : decode cX7_run 21 = .ok (.athrow, 1) := by decide +kernel
theorem dX7_run_22 : decode cX7_run 22 = .ok (.aload_n 0, 1) := by decide +kernel
theorem dX7_run_23 : decode cX7_run 23 = .ok (.getfield 21, 3) := by decide +kernel
theorem dX7_run_26 : decode cX7_run 26 = .ok (.invokevirtual 62, 3) := by decide +kernel
theorem dX7_run_29 : decode cX7_run 29 = .ok (.ifCond .ne 13, 3) := by decide +kernel
theorem dX7_run_32 : decode cX7_run 32 = .ok (.new 57, 3) := by decide +kernel
theorem dX7_run_35 : decode cX7_run 35 = .ok (.dup, 1) := by decide +kernel
theorem dX7_run_36 : decode cX7_run 36 = .ok (.ldc 92, 2) := by decide +kernel
theorem dX7_run_38 : decode cX7_run 38 = .ok (.invokespecial 61, 3) := by decide +kernel
theorem dX7_run_41 : decode cX7_run 41 = .ok (.athrow, 1) := by decide +kernel
theorem dX7_run_42 : decode cX7_run 42 = .ok (.iconst 0, 1) := by decide +kernel
theorem dX7_run_43 : decode cX7_run 43 = .ok (.istore_n 2, 1) := by decide +kernel
theorem dX7_run_44 : decode cX7_run 44 = .ok (.iload_n 2, 1) := by decide +kernel
theorem dX7_run_45 : decode cX7_run 45 = .ok (.iload_n 1, 1) := by decide +kernel
theorem dX7_run_46 : decode cX7_run 46 = .ok (.if_icmp .ge 29, 3) := by decide +kernel
theorem dX7_run_49 : decode cX7_run 49 = .ok (.aload_n 0, 1) := by decide +kernel
theorem dX7_run_50 : decode cX7_run 50 = .ok (.getfield 30, 3) := by decide +kernel
theorem dX7_run_53 : decode cX7_run 53 = .ok (.getfield 47, 3) := by decide +kernel
theorem dX7_run_56 : decode cX7_run 56 = .ok (.getfield 94, 3) := by decide +kernel
theorem dX7_run_59 : decode cX7_run 59 = .ok (.ifCond .ne 16, 3) := by decide +kernel
theorem dX7_run_62 : decode cX7_run 62 = .ok (.aload_n 0, 1) := by decide +kernel
theorem dX7_run_63 : decode cX7_run 63 = .ok (.getfield 30, 3) := by decide +kernel
theorem dX7_run_66 : decode cX7_run 66 = .ok (.invokevirtual 97, 3) := by decide +kernel
theorem dX7_run_69 : decode cX7_run 69 = .ok (.iinc 2 1, 3) := by decide +kernel
theorem dX7_run_72 : decode cX7_run 72 = .ok (.goto (-28), 3) := by decide +kernel
theorem dX7_run_75 : decode cX7_run 75 = .ok (.iload_n 2, 1) := by decide +kernel
theorem dX7_run_76 : decode cX7_run 76 = .ok (.ireturn, 1) := by decide +kernel
theorem dX7_stage_0 : decode cX7_stage 0 = .ok (.iload_n 1, 1) := by decide +kernel
theorem dX7_stage_1 : decode cX7_stage 1 = .ok (.aload_n 0, 1) := by decide +kernel
theorem dX7_stage_2 : decode cX7_stage 2 = .ok (.getfield 12, 3) := by decide +kernel
theorem dX7_stage_5 : decode cX7_stage 5 = .ok (.getfield 100, 3) := by decide +kernel
theorem dX7_stage_8 : decode cX7_stage 8 = .ok (.invokestatic 34, 3) := by decide +kernel
theorem dX7_stage_11 : decode cX7_stage 11 = .ok (.ifCond .eq 11, 3) := by decide +kernel
theorem dX7_stage_14 : decode cX7_stage 14 = .ok (.iload_n 2, 1) := by decide +kernel
theorem dX7_stage_15 : decode cX7_stage 15 = .ok (.iconst 2, 1) := by decide +kernel
theorem dX7_stage_16 : decode cX7_stage 16 = .ok (.invokestatic 34, 3) := by decide +kernel
theorem dX7_stage_19 : decode cX7_stage 19 = .ok (.ifCond .ne 13, 3) := by decide +kernel
theorem dX7_stage_22 : decode cX7_stage 22 = .ok (.new 103, 3) := by decide +kernel
theorem dX7_stage_25 : decode cX7_stage 25 = .ok (.dup, 1) := by decide +kernel
theorem dX7_stage_26 : decode cX7_stage 26 = .ok (.ldc 105, 2) := by decide +kernel
theorem dX7_stage_28 : decode cX7_stage 28 = .ok (.invokespecial 107, 3) := by decide +kernel
theorem dX7_stage_31 : decode cX7_stage 31 = .ok (.athrow, 1) := by decide +kernel
theorem dX7_stage_32 : decode cX7_stage 32 = .ok (.iload_n 2, 1) := by decide +kernel
theorem dX7_stage_33 : decode cX7_stage 33 = .ok (.ifCond .ne 15, 3) := by decide +kernel
theorem dX7_stage_36 : decode cX7_stage 36 = .ok (.aload_n 0, 1) := by decide +kernel
theorem dX7_stage_37 : decode cX7_stage 37 = .ok (.getfield 30, 3) := by decide +kernel
theorem dX7_stage_40 : decode cX7_stage 40 = .ok (.getfield 108, 3) := by decide +kernel
theorem dX7_stage_43 : decode cX7_stage 43 = .ok (.iload_n 1, 1) := by decide +kernel
theorem dX7_stage_44 : decode cX7_stage 44 = .ok (.invokevirtual 112, 3) := by decide +kernel
theorem dX7_stage_47 : decode cX7_stage 47 = .ok (.ireturn, 1) := by decide +kernel
theorem dX7_stage_48 : decode cX7_stage 48 = .ok (.aload_n 0, 1) := by decide +kernel
theorem dX7_stage_49 : decode cX7_stage 49 = .ok (.getfield 30, 3) := by decide +kernel
theorem dX7_stage_52 : decode cX7_stage 52 = .ok (.getfield 108, 3) := by decide +kernel
theorem dX7_stage_55 : decode cX7_stage 55 = .ok (.iload_n 1, 1) := by decide +kernel
theorem dX7_stage_56 : decode cX7_stage 56 = .ok (.invokevirtual 118, 3) := by decide +kernel
theorem dX7_stage_59 : decode cX7_stage 59 = .ok (.ifCond .eq 7, 3) := by decide +kernel
theorem dX7_stage_62 : decode cX7_stage 62 = .ok (.iconst 1, 1) := by decide +kernel
theorem dX7_stage_63 : decode cX7_stage 63 = .ok (.goto 4, 3) := by decide +kernel
theorem dX7_stage_66 : decode cX7_stage 66 = .ok (.iconst 0, 1) := by decide +kernel
theorem dX7_stage_67 : decode cX7_stage 67 = .ok (.ireturn, 1) := by decide +kernel
theorem dX7_committed_0 : decode cX7_committed 0 = .ok (.iload_n 1, 1) := by decide +kernel
theorem dX7_committed_1 : decode cX7_committed 1 = .ok (.aload_n 0, 1) := by decide +kernel
theorem dX7_committed_2 : decode cX7_committed 2 = .ok (.getfield 30, 3) := by decide +kernel
theorem dX7_committed_5 : decode cX7_committed 5 = .ok (.getfield 122, 3) := by decide +kernel
theorem dX7_committed_8 : decode cX7_committed 8 = .ok (.invokevirtual 126, 3) := by decide +kernel
theorem dX7_committed_11 : decode cX7_committed 11 = .ok (.invokestatic 34, 3) := by decide +kernel
theorem dX7_committed_14 : decode cX7_committed 14 = .ok (.ifCond .eq 11, 3) := by decide +kernel
theorem dX7_committed_17 : decode cX7_committed 17 = .ok (.iload_n 2, 1) := by decide +kernel
theorem dX7_committed_18 : decode cX7_committed 18 = .ok (.iconst 3, 1) := by decide +kernel
theorem dX7_committed_19 : decode cX7_committed 19 = .ok (.invokestatic 34, 3) := by decide +kernel
theorem dX7_committed_22 : decode cX7_committed 22 = .ok (.ifCond .ne 13, 3) := by decide +kernel
theorem dX7_committed_25 : decode cX7_committed 25 = .ok (.new 103, 3) := by decide +kernel
theorem dX7_committed_28 : decode cX7_committed 28 = .ok (.dup, 1) := by decide +kernel
theorem dX7_committed_29 : decode cX7_committed 29 = .ok (.ldc 129, 2) := by decide +kernel
theorem dX7_committed_31 : decode cX7_committed 31 = .ok (.invokespecial 107, 3) := by decide +kernel
theorem dX7_committed_34 : decode cX7_committed 34 = .ok (.athrow, 1) := by decide +kernel
theorem dX7_committed_35 : decode cX7_committed 35 = .ok (.aload_n 0, 1) := by decide +kernel
theorem dX7_committed_36 : decode cX7_committed 36 = .ok (.getfield 30, 3) := by decide +kernel
theorem dX7_committed_39 : decode cX7_committed 39 = .ok (.getfield 122, 3) := by decide +kernel
theorem dX7_committed_42 : decode cX7_committed 42 = .ok (.iload_n 1, 1) := by decide +kernel
theorem dX7_committed_43 : decode cX7_committed 43 = .ok (.iload_n 2, 1) := by decide +kernel
theorem dX7_committed_44 : decode cX7_committed 44 = .ok (.invokevirtual 131, 3) := by decide +kernel
theorem dX7_committed_47 : decode cX7_committed 47 = .ok (.ireturn, 1) := by decide +kernel
theorem dX7_register_0 : decode cX7_register 0 = .ok (.iload_n 1, 1) := by decide +kernel
theorem dX7_register_1 : decode cX7_register 1 = .ok (.bipush 8, 2) := by decide +kernel
theorem dX7_register_3 : decode cX7_register 3 = .ok (.invokestatic 34, 3) := by decide +kernel
theorem dX7_register_6 : decode cX7_register 6 = .ok (.ifCond .ne 13, 3) := by decide +kernel
theorem dX7_register_9 : decode cX7_register 9 = .ok (.new 103, 3) := by decide +kernel
theorem dX7_register_12 : decode cX7_register 12 = .ok (.dup, 1) := by decide +kernel
theorem dX7_register_13 : decode cX7_register 13 = .ok (.ldc 45, 2) := by decide +kernel
theorem dX7_register_15 : decode cX7_register 15 = .ok (.invokespecial 107, 3) := by decide +kernel
theorem dX7_register_18 : decode cX7_register 18 = .ok (.athrow, 1) := by decide +kernel
theorem dX7_register_19 : decode cX7_register 19 = .ok (.aload_n 0, 1) := by decide +kernel
theorem dX7_register_20 : decode cX7_register 20 = .ok (.getfield 30, 3) := by decide +kernel
theorem dX7_register_23 : decode cX7_register 23 = .ok (.getfield 135, 3) := by decide +kernel
theorem dX7_register_26 : decode cX7_register 26 = .ok (.iload_n 1, 1) := by decide +kernel
theorem dX7_register_27 : decode cX7_register 27 = .ok (.invokevirtual 139, 3) := by decide +kernel
theorem dX7_register_30 : decode cX7_register 30 = .ok (.ireturn, 1) := by decide +kernel
theorem dX7_memory_0 : decode cX7_memory 0 = .ok (.iload_n 1, 1) := by decide +kernel
theorem dX7_memory_1 : decode cX7_memory 1 = .ok (.bipush 64, 2) := by decide +kernel
theorem dX7_memory_3 : decode cX7_memory 3 = .ok (.invokestatic 34, 3) := by decide +kernel
theorem dX7_memory_6 : decode cX7_memory 6 = .ok (.ifCond .ne 13, 3) := by decide +kernel
theorem dX7_memory_9 : decode cX7_memory 9 = .ok (.new 103, 3) := by decide +kernel
theorem dX7_memory_12 : decode cX7_memory 12 = .ok (.dup, 1) := by decide +kernel
theorem dX7_memory_13 : decode cX7_memory 13 = .ok (.ldc 144, 2) := by decide +kernel
theorem dX7_memory_15 : decode cX7_memory 15 = .ok (.invokespecial 107, 3) := by decide +kernel
theorem dX7_memory_18 : decode cX7_memory 18 = .ok (.athrow, 1) := by decide +kernel
theorem dX7_memory_19 : decode cX7_memory 19 = .ok (.aload_n 0, 1) := by decide +kernel
theorem dX7_memory_20 : decode cX7_memory 20 = .ok (.getfield 30, 3) := by decide +kernel
theorem dX7_memory_23 : decode cX7_memory 23 = .ok (.getfield 135, 3) := by decide +kernel
theorem dX7_memory_26 : decode cX7_memory 26 = .ok (.iload_n 1, 1) := by decide +kernel
theorem dX7_memory_27 : decode cX7_memory 27 = .ok (.invokevirtual 146, 3) := by decide +kernel
theorem dX7_memory_30 : decode cX7_memory 30 = .ok (.ireturn, 1) := by decide +kernel
theorem dX7_cause_0 : decode cX7_cause 0 = .ok (.iload_n 1, 1) := by decide +kernel
theorem dX7_cause_1 : decode cX7_cause 1 = .ok (.iconst 5, 1) := by decide +kernel
theorem dX7_cause_2 : decode cX7_cause 2 = .ok (.invokestatic 34, 3) := by decide +kernel
theorem dX7_cause_5 : decode cX7_cause 5 = .ok (.ifCond .ne 13, 3) := by decide +kernel
theorem dX7_cause_8 : decode cX7_cause 8 = .ok (.new 103, 3) := by decide +kernel
theorem dX7_cause_11 : decode cX7_cause 11 = .ok (.dup, 1) := by decide +kernel
theorem dX7_cause_12 : decode cX7_cause 12 = .ok (.ldc 149, 2) := by decide +kernel
theorem dX7_cause_14 : decode cX7_cause 14 = .ok (.invokespecial 107, 3) := by decide +kernel
theorem dX7_cause_17 : decode cX7_cause 17 = .ok (.athrow, 1) := by decide +kernel
theorem dX7_cause_18 : decode cX7_cause 18 = .ok (.aload_n 0, 1) := by decide +kernel
theorem dX7_cause_19 : decode cX7_cause 19 = .ok (.getfield 30, 3) := by decide +kernel
theorem dX7_cause_22 : decode cX7_cause 22 = .ok (.getfield 47, 3) := by decide +kernel
theorem dX7_cause_25 : decode cX7_cause 25 = .ok (.iload_n 1, 1) := by decide +kernel
theorem dX7_cause_26 : decode cX7_cause 26 = .ok (.invokevirtual 151, 3) := by decide +kernel
theorem dX7_cause_29 : decode cX7_cause 29 = .ok (.ireturn, 1) := by decide +kernel
theorem dX7_count_0 : decode cX7_count 0 = .ok (.iload_n 1, 1) := by decide +kernel
theorem dX7_count_1 : decode cX7_count 1 = .ok (.tableswitch 212 0 13 #[71, 82, 93, 104, 115, 126, 145, 153, 161, 169, 177, 185, 193, 201], 71) := by decide +kernel
theorem dX7_count_72 : decode cX7_count 72 = .ok (.aload_n 0, 1) := by decide +kernel
theorem dX7_count_73 : decode cX7_count 73 = .ok (.getfield 30, 3) := by decide +kernel
theorem dX7_count_76 : decode cX7_count 76 = .ok (.getfield 47, 3) := by decide +kernel
theorem dX7_count_79 : decode cX7_count 79 = .ok (.getfield 51, 3) := by decide +kernel
theorem dX7_count_82 : decode cX7_count 82 = .ok (.ireturn, 1) := by decide +kernel
theorem dX7_count_83 : decode cX7_count 83 = .ok (.aload_n 0, 1) := by decide +kernel
theorem dX7_count_84 : decode cX7_count 84 = .ok (.getfield 30, 3) := by decide +kernel
theorem dX7_count_87 : decode cX7_count 87 = .ok (.getfield 47, 3) := by decide +kernel
theorem dX7_count_90 : decode cX7_count 90 = .ok (.getfield 154, 3) := by decide +kernel
theorem dX7_count_93 : decode cX7_count 93 = .ok (.ireturn, 1) := by decide +kernel
theorem dX7_count_94 : decode cX7_count 94 = .ok (.aload_n 0, 1) := by decide +kernel
theorem dX7_count_95 : decode cX7_count 95 = .ok (.getfield 30, 3) := by decide +kernel
theorem dX7_count_98 : decode cX7_count 98 = .ok (.getfield 47, 3) := by decide +kernel
theorem dX7_count_101 : decode cX7_count 101 = .ok (.getfield 157, 3) := by decide +kernel
theorem dX7_count_104 : decode cX7_count 104 = .ok (.ireturn, 1) := by decide +kernel
theorem dX7_count_105 : decode cX7_count 105 = .ok (.aload_n 0, 1) := by decide +kernel
theorem dX7_count_106 : decode cX7_count 106 = .ok (.getfield 30, 3) := by decide +kernel
theorem dX7_count_109 : decode cX7_count 109 = .ok (.getfield 47, 3) := by decide +kernel
theorem dX7_count_112 : decode cX7_count 112 = .ok (.getfield 160, 3) := by decide +kernel
theorem dX7_count_115 : decode cX7_count 115 = .ok (.ireturn, 1) := by decide +kernel
theorem dX7_count_116 : decode cX7_count 116 = .ok (.aload_n 0, 1) := by decide +kernel
theorem dX7_count_117 : decode cX7_count 117 = .ok (.getfield 30, 3) := by decide +kernel
theorem dX7_count_120 : decode cX7_count 120 = .ok (.getfield 47, 3) := by decide +kernel
theorem dX7_count_123 : decode cX7_count 123 = .ok (.getfield 163, 3) := by decide +kernel
theorem dX7_count_126 : decode cX7_count 126 = .ok (.ireturn, 1) := by decide +kernel
theorem dX7_count_127 : decode cX7_count 127 = .ok (.aload_n 0, 1) := by decide +kernel
theorem dX7_count_128 : decode cX7_count 128 = .ok (.getfield 30, 3) := by decide +kernel
theorem dX7_count_131 : decode cX7_count 131 = .ok (.getfield 47, 3) := by decide +kernel
theorem dX7_count_134 : decode cX7_count 134 = .ok (.getfield 94, 3) := by decide +kernel
theorem dX7_count_137 : decode cX7_count 137 = .ok (.ifCond .eq 7, 3) := by decide +kernel
theorem dX7_count_140 : decode cX7_count 140 = .ok (.iconst 1, 1) := by decide +kernel
theorem dX7_count_141 : decode cX7_count 141 = .ok (.goto 4, 3) := by decide +kernel
theorem dX7_count_144 : decode cX7_count 144 = .ok (.iconst 0, 1) := by decide +kernel
theorem dX7_count_145 : decode cX7_count 145 = .ok (.ireturn, 1) := by decide +kernel
theorem dX7_count_146 : decode cX7_count 146 = .ok (.aload_n 0, 1) := by decide +kernel
theorem dX7_count_147 : decode cX7_count 147 = .ok (.getfield 12, 3) := by decide +kernel
theorem dX7_count_150 : decode cX7_count 150 = .ok (.getfield 100, 3) := by decide +kernel
theorem dX7_count_153 : decode cX7_count 153 = .ok (.ireturn, 1) := by decide +kernel
theorem dX7_count_154 : decode cX7_count 154 = .ok (.aload_n 0, 1) := by decide +kernel
theorem dX7_count_155 : decode cX7_count 155 = .ok (.getfield 12, 3) := by decide +kernel
theorem dX7_count_158 : decode cX7_count 158 = .ok (.getfield 166, 3) := by decide +kernel
theorem dX7_count_161 : decode cX7_count 161 = .ok (.ireturn, 1) := by decide +kernel
theorem dX7_count_162 : decode cX7_count 162 = .ok (.aload_n 0, 1) := by decide +kernel
theorem dX7_count_163 : decode cX7_count 163 = .ok (.getfield 12, 3) := by decide +kernel
theorem dX7_count_166 : decode cX7_count 166 = .ok (.getfield 169, 3) := by decide +kernel
theorem dX7_count_169 : decode cX7_count 169 = .ok (.ireturn, 1) := by decide +kernel
theorem dX7_count_170 : decode cX7_count 170 = .ok (.aload_n 0, 1) := by decide +kernel
theorem dX7_count_171 : decode cX7_count 171 = .ok (.getfield 12, 3) := by decide +kernel
theorem dX7_count_174 : decode cX7_count 174 = .ok (.getfield 172, 3) := by decide +kernel
theorem dX7_count_177 : decode cX7_count 177 = .ok (.ireturn, 1) := by decide +kernel
theorem dX7_count_178 : decode cX7_count 178 = .ok (.aload_n 0, 1) := by decide +kernel
theorem dX7_count_179 : decode cX7_count 179 = .ok (.getfield 12, 3) := by decide +kernel
theorem dX7_count_182 : decode cX7_count 182 = .ok (.getfield 175, 3) := by decide +kernel
theorem dX7_count_185 : decode cX7_count 185 = .ok (.ireturn, 1) := by decide +kernel
theorem dX7_count_186 : decode cX7_count 186 = .ok (.aload_n 0, 1) := by decide +kernel
theorem dX7_count_187 : decode cX7_count 187 = .ok (.getfield 12, 3) := by decide +kernel
theorem dX7_count_190 : decode cX7_count 190 = .ok (.getfield 178, 3) := by decide +kernel
theorem dX7_count_193 : decode cX7_count 193 = .ok (.ireturn, 1) := by decide +kernel
theorem dX7_count_194 : decode cX7_count 194 = .ok (.aload_n 0, 1) := by decide +kernel
theorem dX7_count_195 : decode cX7_count 195 = .ok (.getfield 21, 3) := by decide +kernel
theorem dX7_count_198 : decode cX7_count 198 = .ok (.invokevirtual 62, 3) := by decide +kernel
theorem dX7_count_201 : decode cX7_count 201 = .ok (.ireturn, 1) := by decide +kernel
theorem dX7_count_202 : decode cX7_count 202 = .ok (.aload_n 0, 1) := by decide +kernel
theorem dX7_count_203 : decode cX7_count 203 = .ok (.getfield 30, 3) := by decide +kernel
theorem dX7_count_206 : decode cX7_count 206 = .ok (.getfield 47, 3) := by decide +kernel
theorem dX7_count_209 : decode cX7_count 209 = .ok (.getfield 181, 3) := by decide +kernel
theorem dX7_count_212 : decode cX7_count 212 = .ok (.ireturn, 1) := by decide +kernel
theorem dX7_count_213 : decode cX7_count 213 = .ok (.iconst (-1), 1) := by decide +kernel
theorem dX7_count_214 : decode cX7_count 214 = .ok (.ireturn, 1) := by decide +kernel
theorem dX7_isBelow_0 : decode cX7_isBelow 0 = .ok (.iload_n 0, 1) := by decide +kernel
theorem dX7_isBelow_1 : decode cX7_isBelow 1 = .ok (.ifCond .lt 12, 3) := by decide +kernel
theorem dX7_isBelow_4 : decode cX7_isBelow 4 = .ok (.iload_n 0, 1) := by decide +kernel
theorem dX7_isBelow_5 : decode cX7_isBelow 5 = .ok (.iload_n 1, 1) := by decide +kernel
theorem dX7_isBelow_6 : decode cX7_isBelow 6 = .ok (.if_icmp .ge 7, 3) := by decide +kernel
theorem dX7_isBelow_9 : decode cX7_isBelow 9 = .ok (.iconst 1, 1) := by decide +kernel
theorem dX7_isBelow_10 : decode cX7_isBelow 10 = .ok (.goto 4, 3) := by decide +kernel
theorem dX7_isBelow_13 : decode cX7_isBelow 13 = .ok (.iconst 0, 1) := by decide +kernel
theorem dX7_isBelow_14 : decode cX7_isBelow 14 = .ok (.ireturn, 1) := by decide +kernel
theorem dX0_init_0 : decode cX0_init 0 = .ok (.aload_n 0, 1) := by decide +kernel
theorem dX0_init_1 : decode cX0_init 1 = .ok (.invokespecial 3, 3) := by decide +kernel
theorem dX0_init_4 : decode cX0_init 4 = .ok (.aload_n 0, 1) := by decide +kernel
theorem dX0_init_5 : decode cX0_init 5 = .ok (.sipush 400, 3) := by decide +kernel
theorem dX0_init_8 : decode cX0_init 8 = .ok (.newarray .int, 2) := by decide +kernel
theorem dX0_init_10 : decode cX0_init 10 = .ok (.putfield 9, 3) := by decide +kernel
theorem dX0_init_13 : decode cX0_init 13 = .ok (.aload_n 0, 1) := by decide +kernel
theorem dX0_init_14 : decode cX0_init 14 = .ok (.sipush 400, 3) := by decide +kernel
theorem dX0_init_17 : decode cX0_init 17 = .ok (.newarray .int, 2) := by decide +kernel
theorem dX0_init_19 : decode cX0_init 19 = .ok (.putfield 15, 3) := by decide +kernel
theorem dX0_init_22 : decode cX0_init 22 = .ok (.aload_n 0, 1) := by decide +kernel
theorem dX0_init_23 : decode cX0_init 23 = .ok (.sipush 400, 3) := by decide +kernel
theorem dX0_init_26 : decode cX0_init 26 = .ok (.newarray .int, 2) := by decide +kernel
theorem dX0_init_28 : decode cX0_init 28 = .ok (.putfield 18, 3) := by decide +kernel
theorem dX0_init_31 : decode cX0_init 31 = .ok (.return_, 1) := by decide +kernel
theorem dX0_beginAnew_0 : decode cX0_beginAnew 0 = .ok (.aload_n 0, 1) := by decide +kernel
theorem dX0_beginAnew_1 : decode cX0_beginAnew 1 = .ok (.iconst 0, 1) := by decide +kernel
theorem dX0_beginAnew_2 : decode cX0_beginAnew 2 = .ok (.putfield 21, 3) := by decide +kernel
theorem dX0_beginAnew_5 : decode cX0_beginAnew 5 = .ok (.aload_n 0, 1) := by decide +kernel
theorem dX0_beginAnew_6 : decode cX0_beginAnew 6 = .ok (.iconst 0, 1) := by decide +kernel
theorem dX0_beginAnew_7 : decode cX0_beginAnew 7 = .ok (.putfield 25, 3) := by decide +kernel
theorem dX0_beginAnew_10 : decode cX0_beginAnew 10 = .ok (.return_, 1) := by decide +kernel
theorem dX0_size_0 : decode cX0_size 0 = .ok (.aload_n 0, 1) := by decide +kernel
theorem dX0_size_1 : decode cX0_size 1 = .ok (.getfield 25, 3) := by decide +kernel
theorem dX0_size_4 : decode cX0_size 4 = .ok (.ireturn, 1) := by decide +kernel
theorem dX0_append_0 : decode cX0_append 0 = .ok (.aload_n 0, 1) := by decide +kernel
theorem dX0_append_1 : decode cX0_append 1 = .ok (.getfield 21, 3) := by decide +kernel
theorem dX0_append_4 : decode cX0_append 4 = .ok (.aload_n 0, 1) := by decide +kernel
theorem dX0_append_5 : decode cX0_append 5 = .ok (.getfield 25, 3) := by decide +kernel
theorem dX0_append_8 : decode cX0_append 8 = .ok (.iadd, 1) := by decide +kernel
theorem dX0_append_9 : decode cX0_append 9 = .ok (.sipush 400, 3) := by decide +kernel
theorem dX0_append_12 : decode cX0_append 12 = .ok (.invokestatic 28, 3) := by decide +kernel
theorem dX0_append_15 : decode cX0_append 15 = .ok (.istore 4, 2) := by decide +kernel
theorem dX0_append_17 : decode cX0_append 17 = .ok (.aload_n 0, 1) := by decide +kernel
theorem dX0_append_18 : decode cX0_append 18 = .ok (.getfield 9, 3) := by decide +kernel
theorem dX0_append_21 : decode cX0_append 21 = .ok (.iload 4, 2) := by decide +kernel
theorem dX0_append_23 : decode cX0_append 23 = .ok (.iload_n 1, 1) := by decide +kernel
theorem dX0_append_24 : decode cX0_append 24 = .ok (.iastore, 1) := by decide +kernel
theorem dX0_append_25 : decode cX0_append 25 = .ok (.aload_n 0, 1) := by decide +kernel
theorem dX0_append_26 : decode cX0_append 26 = .ok (.getfield 15, 3) := by decide +kernel
theorem dX0_append_29 : decode cX0_append 29 = .ok (.iload 4, 2) := by decide +kernel
theorem dX0_append_31 : decode cX0_append 31 = .ok (.iload_n 2, 1) := by decide +kernel
theorem dX0_append_32 : decode cX0_append 32 = .ok (.iastore, 1) := by decide +kernel
theorem dX0_append_33 : decode cX0_append 33 = .ok (.aload_n 0, 1) := by decide +kernel
theorem dX0_append_34 : decode cX0_append 34 = .ok (.getfield 18, 3) := by decide +kernel
theorem dX0_append_37 : decode cX0_append 37 = .ok (.iload 4, 2) := by decide +kernel
theorem dX0_append_39 : decode cX0_append 39 = .ok (.iload_n 3, 1) := by decide +kernel
theorem dX0_append_40 : decode cX0_append 40 = .ok (.iastore, 1) := by decide +kernel
theorem dX0_append_41 : decode cX0_append 41 = .ok (.aload_n 0, 1) := by decide +kernel
theorem dX0_append_42 : decode cX0_append 42 = .ok (.getfield 25, 3) := by decide +kernel
theorem dX0_append_45 : decode cX0_append 45 = .ok (.sipush 400, 3) := by decide +kernel
theorem dX0_append_48 : decode cX0_append 48 = .ok (.if_icmp .ge 16, 3) := by decide +kernel
theorem dX0_append_51 : decode cX0_append 51 = .ok (.aload_n 0, 1) := by decide +kernel
theorem dX0_append_52 : decode cX0_append 52 = .ok (.dup, 1) := by decide +kernel
theorem dX0_append_53 : decode cX0_append 53 = .ok (.getfield 25, 3) := by decide +kernel
theorem dX0_append_56 : decode cX0_append 56 = .ok (.iconst 1, 1) := by decide +kernel
theorem dX0_append_57 : decode cX0_append 57 = .ok (.iadd, 1) := by decide +kernel
theorem dX0_append_58 : decode cX0_append 58 = .ok (.putfield 25, 3) := by decide +kernel
theorem dX0_append_61 : decode cX0_append 61 = .ok (.goto 19, 3) := by decide +kernel
theorem dX0_append_64 : decode cX0_append 64 = .ok (.aload_n 0, 1) := by decide +kernel
theorem dX0_append_65 : decode cX0_append 65 = .ok (.aload_n 0, 1) := by decide +kernel
theorem dX0_append_66 : decode cX0_append 66 = .ok (.getfield 21, 3) := by decide +kernel
theorem dX0_append_69 : decode cX0_append 69 = .ok (.iconst 1, 1) := by decide +kernel
theorem dX0_append_70 : decode cX0_append 70 = .ok (.iadd, 1) := by decide +kernel
theorem dX0_append_71 : decode cX0_append 71 = .ok (.sipush 400, 3) := by decide +kernel
theorem dX0_append_74 : decode cX0_append 74 = .ok (.invokestatic 28, 3) := by decide +kernel
theorem dX0_append_77 : decode cX0_append 77 = .ok (.putfield 21, 3) := by decide +kernel
theorem dX0_append_80 : decode cX0_append 80 = .ok (.return_, 1) := by decide +kernel
theorem dX0_entry_0 : decode cX0_entry 0 = .ok (.aload_n 0, 1) := by decide +kernel
theorem dX0_entry_1 : decode cX0_entry 1 = .ok (.getfield 21, 3) := by decide +kernel
theorem dX0_entry_4 : decode cX0_entry 4 = .ok (.iload_n 1, 1) := by decide +kernel
theorem dX0_entry_5 : decode cX0_entry 5 = .ok (.iadd, 1) := by decide +kernel
theorem dX0_entry_6 : decode cX0_entry 6 = .ok (.sipush 400, 3) := by decide +kernel
theorem dX0_entry_9 : decode cX0_entry 9 = .ok (.invokestatic 28, 3) := by decide +kernel
theorem dX0_entry_12 : decode cX0_entry 12 = .ok (.istore_n 3, 1) := by decide +kernel
theorem dX0_entry_13 : decode cX0_entry 13 = .ok (.iload_n 2, 1) := by decide +kernel
theorem dX0_entry_14 : decode cX0_entry 14 = .ok (.lookupswitch 40 #[(0, 26), (1, 33)], 26) := by decide +kernel
theorem dX0_entry_40 : decode cX0_entry 40 = .ok (.aload_n 0, 1) := by decide +kernel
theorem dX0_entry_41 : decode cX0_entry 41 = .ok (.getfield 9, 3) := by decide +kernel
theorem dX0_entry_44 : decode cX0_entry 44 = .ok (.iload_n 3, 1) := by decide +kernel
theorem dX0_entry_45 : decode cX0_entry 45 = .ok (.iaload, 1) := by decide +kernel
theorem dX0_entry_46 : decode cX0_entry 46 = .ok (.ireturn, 1) := by decide +kernel
theorem dX0_entry_47 : decode cX0_entry 47 = .ok (.aload_n 0, 1) := by decide +kernel
theorem dX0_entry_48 : decode cX0_entry 48 = .ok (.getfield 15, 3) := by decide +kernel
theorem dX0_entry_51 : decode cX0_entry 51 = .ok (.iload_n 3, 1) := by decide +kernel
theorem dX0_entry_52 : decode cX0_entry 52 = .ok (.iaload, 1) := by decide +kernel
theorem dX0_entry_53 : decode cX0_entry 53 = .ok (.ireturn, 1) := by decide +kernel
theorem dX0_entry_54 : decode cX0_entry 54 = .ok (.aload_n 0, 1) := by decide +kernel
theorem dX0_entry_55 : decode cX0_entry 55 = .ok (.getfield 18, 3) := by decide +kernel
theorem dX0_entry_58 : decode cX0_entry 58 = .ok (.iload_n 3, 1) := by decide +kernel
theorem dX0_entry_59 : decode cX0_entry 59 = .ok (.iaload, 1) := by decide +kernel
theorem dX0_entry_60 : decode cX0_entry 60 = .ok (.ireturn, 1) := by decide +kernel
theorem dX1_init_0 : decode cX1_init 0 = .ok (.aload_n 0, 1) := by decide +kernel
theorem dX1_init_1 : decode cX1_init 1 = .ok (.invokespecial 3, 3) := by decide +kernel
theorem dX1_init_4 : decode cX1_init 4 = .ok (.aload_n 0, 1) := by decide +kernel
theorem dX1_init_5 : decode cX1_init 5 = .ok (.new 9, 3) := by decide +kernel
theorem dX1_init_8 : decode cX1_init 8 = .ok (.dup, 1) := by decide +kernel
theorem dX1_init_9 : decode cX1_init 9 = .ok (.invokespecial 11, 3) := by decide +kernel
theorem dX1_init_12 : decode cX1_init 12 = .ok (.putfield 12, 3) := by decide +kernel
theorem dX1_init_15 : decode cX1_init 15 = .ok (.aload_n 0, 1) := by decide +kernel
theorem dX1_init_16 : decode cX1_init 16 = .ok (.new 18, 3) := by decide +kernel
theorem dX1_init_19 : decode cX1_init 19 = .ok (.dup, 1) := by decide +kernel
theorem dX1_init_20 : decode cX1_init 20 = .ok (.invokespecial 20, 3) := by decide +kernel
theorem dX1_init_23 : decode cX1_init 23 = .ok (.putfield 21, 3) := by decide +kernel
theorem dX1_init_26 : decode cX1_init 26 = .ok (.aload_n 0, 1) := by decide +kernel
theorem dX1_init_27 : decode cX1_init 27 = .ok (.new 25, 3) := by decide +kernel
theorem dX1_init_30 : decode cX1_init 30 = .ok (.dup, 1) := by decide +kernel
theorem dX1_init_31 : decode cX1_init 31 = .ok (.invokespecial 27, 3) := by decide +kernel
theorem dX1_init_34 : decode cX1_init 34 = .ok (.putfield 28, 3) := by decide +kernel
theorem dX1_init_37 : decode cX1_init 37 = .ok (.aload_n 0, 1) := by decide +kernel
theorem dX1_init_38 : decode cX1_init 38 = .ok (.iconst 1, 1) := by decide +kernel
theorem dX1_init_39 : decode cX1_init 39 = .ok (.putfield 32, 3) := by decide +kernel
theorem dX1_init_42 : decode cX1_init 42 = .ok (.aload_n 0, 1) := by decide +kernel
theorem dX1_init_43 : decode cX1_init 43 = .ok (.aload_n 1, 1) := by decide +kernel
theorem dX1_init_44 : decode cX1_init 44 = .ok (.putfield 36, 3) := by decide +kernel
theorem dX1_init_47 : decode cX1_init 47 = .ok (.aload_n 0, 1) := by decide +kernel
theorem dX1_init_48 : decode cX1_init 48 = .ok (.aload_n 2, 1) := by decide +kernel
theorem dX1_init_49 : decode cX1_init 49 = .ok (.putfield 40, 3) := by decide +kernel
theorem dX1_init_52 : decode cX1_init 52 = .ok (.aload_n 0, 1) := by decide +kernel
theorem dX1_init_53 : decode cX1_init 53 = .ok (.new 44, 3) := by decide +kernel
theorem dX1_init_56 : decode cX1_init 56 = .ok (.dup, 1) := by decide +kernel
theorem dX1_init_57 : decode cX1_init 57 = .ok (.aload_n 2, 1) := by decide +kernel
theorem dX1_init_58 : decode cX1_init 58 = .ok (.invokespecial 46, 3) := by decide +kernel
theorem dX1_init_61 : decode cX1_init 61 = .ok (.putfield 49, 3) := by decide +kernel
theorem dX1_init_64 : decode cX1_init 64 = .ok (.aload_n 0, 1) := by decide +kernel
theorem dX1_init_65 : decode cX1_init 65 = .ok (.new 44, 3) := by decide +kernel
theorem dX1_init_68 : decode cX1_init 68 = .ok (.dup, 1) := by decide +kernel
theorem dX1_init_69 : decode cX1_init 69 = .ok (.aload_n 2, 1) := by decide +kernel
theorem dX1_init_70 : decode cX1_init 70 = .ok (.invokespecial 46, 3) := by decide +kernel
theorem dX1_init_73 : decode cX1_init 73 = .ok (.putfield 53, 3) := by decide +kernel
theorem dX1_init_76 : decode cX1_init 76 = .ok (.return_, 1) := by decide +kernel
theorem dX1_beginAnew_0 : decode cX1_beginAnew 0 = .ok (.aload_n 0, 1) := by decide +kernel
theorem dX1_beginAnew_1 : decode cX1_beginAnew 1 = .ok (.getfield 12, 3) := by decide +kernel
theorem dX1_beginAnew_4 : decode cX1_beginAnew 4 = .ok (.invokevirtual 56, 3) := by decide +kernel
theorem dX1_beginAnew_7 : decode cX1_beginAnew 7 = .ok (.aload_n 0, 1) := by decide +kernel
theorem dX1_beginAnew_8 : decode cX1_beginAnew 8 = .ok (.getfield 21, 3) := by decide +kernel
theorem dX1_beginAnew_11 : decode cX1_beginAnew 11 = .ok (.invokevirtual 59, 3) := by decide +kernel
theorem dX1_beginAnew_14 : decode cX1_beginAnew 14 = .ok (.aload_n 0, 1) := by decide +kernel
theorem dX1_beginAnew_15 : decode cX1_beginAnew 15 = .ok (.getfield 28, 3) := by decide +kernel
theorem dX1_beginAnew_18 : decode cX1_beginAnew 18 = .ok (.invokevirtual 60, 3) := by decide +kernel
theorem dX1_beginAnew_21 : decode cX1_beginAnew 21 = .ok (.aload_n 0, 1) := by decide +kernel
theorem dX1_beginAnew_22 : decode cX1_beginAnew 22 = .ok (.getfield 49, 3) := by decide +kernel
theorem dX1_beginAnew_25 : decode cX1_beginAnew 25 = .ok (.invokevirtual 61, 3) := by decide +kernel
theorem dX1_beginAnew_28 : decode cX1_beginAnew 28 = .ok (.aload_n 0, 1) := by decide +kernel
theorem dX1_beginAnew_29 : decode cX1_beginAnew 29 = .ok (.getfield 53, 3) := by decide +kernel
theorem dX1_beginAnew_32 : decode cX1_beginAnew 32 = .ok (.invokevirtual 61, 3) := by decide +kernel
theorem dX1_beginAnew_35 : decode cX1_beginAnew 35 = .ok (.aload_n 0, 1) := by decide +kernel
theorem dX1_beginAnew_36 : decode cX1_beginAnew 36 = .ok (.iconst 0, 1) := by decide +kernel
theorem dX1_beginAnew_37 : decode cX1_beginAnew 37 = .ok (.putfield 62, 3) := by decide +kernel
theorem dX1_beginAnew_40 : decode cX1_beginAnew 40 = .ok (.aload_n 0, 1) := by decide +kernel
theorem dX1_beginAnew_41 : decode cX1_beginAnew 41 = .ok (.iconst 0, 1) := by decide +kernel
theorem dX1_beginAnew_42 : decode cX1_beginAnew 42 = .ok (.putfield 66, 3) := by decide +kernel
theorem dX1_beginAnew_45 : decode cX1_beginAnew 45 = .ok (.aload_n 0, 1) := by decide +kernel
theorem dX1_beginAnew_46 : decode cX1_beginAnew 46 = .ok (.iconst 0, 1) := by decide +kernel
theorem dX1_beginAnew_47 : decode cX1_beginAnew 47 = .ok (.putfield 69, 3) := by decide +kernel
theorem dX1_beginAnew_50 : decode cX1_beginAnew 50 = .ok (.aload_n 0, 1) := by decide +kernel
theorem dX1_beginAnew_51 : decode cX1_beginAnew 51 = .ok (.iconst 0, 1) := by decide +kernel
theorem dX1_beginAnew_52 : decode cX1_beginAnew 52 = .ok (.putfield 72, 3) := by decide +kernel
theorem dX1_beginAnew_55 : decode cX1_beginAnew 55 = .ok (.aload_n 0, 1) := by decide +kernel
theorem dX1_beginAnew_56 : decode cX1_beginAnew 56 = .ok (.iconst 0, 1) := by decide +kernel
theorem dX1_beginAnew_57 : decode cX1_beginAnew 57 = .ok (.putfield 75, 3) := by decide +kernel
theorem dX1_beginAnew_60 : decode cX1_beginAnew 60 = .ok (.return_, 1) := by decide +kernel
theorem dX1_doCycle_0 : decode cX1_doCycle 0 = .ok (.aload_n 0, 1) := by decide +kernel
theorem dX1_doCycle_1 : decode cX1_doCycle 1 = .ok (.getfield 28, 3) := by decide +kernel
theorem dX1_doCycle_4 : decode cX1_doCycle 4 = .ok (.dup, 1) := by decide +kernel
theorem dX1_doCycle_5 : decode cX1_doCycle 5 = .ok (.getfield 78, 3) := by decide +kernel
theorem dX1_doCycle_8 : decode cX1_doCycle 8 = .ok (.iconst 1, 1) := by decide +kernel
theorem dX1_doCycle_9 : decode cX1_doCycle 9 = .ok (.iadd, 1) := by decide +kernel
theorem dX1_doCycle_10 : decode cX1_doCycle 10 = .ok (.putfield 78, 3) := by decide +kernel
theorem dX1_doCycle_13 : decode cX1_doCycle 13 = .ok (.aload_n 0, 1) := by decide +kernel
theorem dX1_doCycle_14 : decode cX1_doCycle 14 = .ok (.iconst 0, 1) := by decide +kernel
theorem dX1_doCycle_15 : decode cX1_doCycle 15 = .ok (.putfield 72, 3) := by decide +kernel
theorem dX1_doCycle_18 : decode cX1_doCycle 18 = .ok (.aload_n 0, 1) := by decide +kernel
theorem dX1_doCycle_19 : decode cX1_doCycle 19 = .ok (.invokevirtual 81, 3) := by decide +kernel
theorem dX1_doCycle_22 : decode cX1_doCycle 22 = .ok (.istore_n 1, 1) := by decide +kernel
theorem dX1_doCycle_23 : decode cX1_doCycle 23 = .ok (.aload_n 0, 1) := by decide +kernel
theorem dX1_doCycle_24 : decode cX1_doCycle 24 = .ok (.getfield 28, 3) := by decide +kernel
theorem dX1_doCycle_27 : decode cX1_doCycle 27 = .ok (.getfield 85, 3) := by decide +kernel
theorem dX1_doCycle_30 : decode cX1_doCycle 30 = .ok (.ifCond .ne 23, 3) := by decide +kernel
theorem dX1_doCycle_33 : decode cX1_doCycle 33 = .ok (.aload_n 0, 1) := by decide +kernel
theorem dX1_doCycle_34 : decode cX1_doCycle 34 = .ok (.invokevirtual 88, 3) := by decide +kernel
theorem dX1_doCycle_37 : decode cX1_doCycle 37 = .ok (.istore_n 2, 1) := by decide +kernel
theorem dX1_doCycle_38 : decode cX1_doCycle 38 = .ok (.iload_n 1, 1) := by decide +kernel
theorem dX1_doCycle_39 : decode cX1_doCycle 39 = .ok (.iconst 4, 1) := by decide +kernel
theorem dX1_doCycle_40 : decode cX1_doCycle 40 = .ok (.if_icmp .ne 7, 3) := by decide +kernel
theorem dX1_doCycle_43 : decode cX1_doCycle 43 = .ok (.iload_n 2, 1) := by decide +kernel
theorem dX1_doCycle_44 : decode cX1_doCycle 44 = .ok (.goto 4, 3) := by decide +kernel
theorem dX1_doCycle_47 : decode cX1_doCycle 47 = .ok (.iload_n 1, 1) := by decide +kernel
theorem dX1_doCycle_48 : decode cX1_doCycle 48 = .ok (.istore_n 1, 1) := by decide +kernel
theorem dX1_doCycle_49 : decode cX1_doCycle 49 = .ok (.aload_n 0, 1) := by decide +kernel
theorem dX1_doCycle_50 : decode cX1_doCycle 50 = .ok (.invokevirtual 91, 3) := by decide +kernel
theorem dX1_doCycle_53 : decode cX1_doCycle 53 = .ok (.aload_n 0, 1) := by decide +kernel
theorem dX1_doCycle_54 : decode cX1_doCycle 54 = .ok (.getfield 28, 3) := by decide +kernel
theorem dX1_doCycle_57 : decode cX1_doCycle 57 = .ok (.iload_n 1, 1) := by decide +kernel
theorem dX1_doCycle_58 : decode cX1_doCycle 58 = .ok (.invokevirtual 94, 3) := by decide +kernel
theorem dX1_doCycle_61 : decode cX1_doCycle 61 = .ok (.return_, 1) := by decide +kernel
theorem dX1_leave_0 : decode cX1_leave 0 = .ok (.aload_n 0, 1) := by decide +kernel
theorem dX1_leave_1 : decode cX1_leave 1 = .ok (.getfield 36, 3) := by decide +kernel
theorem dX1_leave_4 : decode cX1_leave 4 = .ok (.invokevirtual 98, 3) := by decide +kernel
theorem dX1_leave_7 : decode cX1_leave 7 = .ok (.istore_n 1, 1) := by decide +kernel
theorem dX1_leave_8 : decode cX1_leave 8 = .ok (.aload_n 0, 1) := by decide +kernel
theorem dX1_leave_9 : decode cX1_leave 9 = .ok (.getfield 12, 3) := by decide +kernel
theorem dX1_leave_12 : decode cX1_leave 12 = .ok (.iload_n 1, 1) := by decide +kernel
theorem dX1_leave_13 : decode cX1_leave 13 = .ok (.invokevirtual 103, 3) := by decide +kernel
theorem dX1_leave_16 : decode cX1_leave 16 = .ok (.istore_n 2, 1) := by decide +kernel
theorem dX1_leave_17 : decode cX1_leave 17 = .ok (.iload_n 2, 1) := by decide +kernel
theorem dX1_leave_18 : decode cX1_leave 18 = .ok (.iconst (-1), 1) := by decide +kernel
theorem dX1_leave_19 : decode cX1_leave 19 = .ok (.if_icmp .ne 5, 3) := by decide +kernel
theorem dX1_leave_22 : decode cX1_leave 22 = .ok (.iconst 4, 1) := by decide +kernel
theorem dX1_leave_23 : decode cX1_leave 23 = .ok (.ireturn, 1) := by decide +kernel
theorem dX1_leave_24 : decode cX1_leave 24 = .ok (.aload_n 0, 1) := by decide +kernel
theorem dX1_leave_25 : decode cX1_leave 25 = .ok (.getfield 12, 3) := by decide +kernel
theorem dX1_leave_28 : decode cX1_leave 28 = .ok (.iload_n 1, 1) := by decide +kernel
theorem dX1_leave_29 : decode cX1_leave 29 = .ok (.invokevirtual 107, 3) := by decide +kernel
theorem dX1_leave_32 : decode cX1_leave 32 = .ok (.istore_n 3, 1) := by decide +kernel
theorem dX1_leave_33 : decode cX1_leave 33 = .ok (.aload_n 0, 1) := by decide +kernel
theorem dX1_leave_34 : decode cX1_leave 34 = .ok (.getfield 12, 3) := by decide +kernel
theorem dX1_leave_37 : decode cX1_leave 37 = .ok (.iload_n 1, 1) := by decide +kernel
theorem dX1_leave_38 : decode cX1_leave 38 = .ok (.invokevirtual 111, 3) := by decide +kernel
theorem dX1_leave_41 : decode cX1_leave 41 = .ok (.aload_n 0, 1) := by decide +kernel
theorem dX1_leave_42 : decode cX1_leave 42 = .ok (.getfield 40, 3) := by decide +kernel
theorem dX1_leave_45 : decode cX1_leave 45 = .ok (.iload_n 2, 1) := by decide +kernel
theorem dX1_leave_46 : decode cX1_leave 46 = .ok (.invokevirtual 114, 3) := by decide +kernel
theorem dX1_leave_49 : decode cX1_leave 49 = .ok (.iconst 5, 1) := by decide +kernel
theorem dX1_leave_50 : decode cX1_leave 50 = .ok (.if_icmp .ne 27, 3) := by decide +kernel
theorem dX1_leave_53 : decode cX1_leave 53 = .ok (.aload_n 0, 1) := by decide +kernel
theorem dX1_leave_54 : decode cX1_leave 54 = .ok (.getfield 28, 3) := by decide +kernel
theorem dX1_leave_57 : decode cX1_leave 57 = .ok (.dup, 1) := by decide +kernel
theorem dX1_leave_58 : decode cX1_leave 58 = .ok (.getfield 119, 3) := by decide +kernel
theorem dX1_leave_61 : decode cX1_leave 61 = .ok (.iconst 1, 1) := by decide +kernel
theorem dX1_leave_62 : decode cX1_leave 62 = .ok (.iadd, 1) := by decide +kernel
theorem dX1_leave_63 : decode cX1_leave 63 = .ok (.putfield 119, 3) := by decide +kernel
theorem dX1_leave_66 : decode cX1_leave 66 = .ok (.aload_n 0, 1) := by decide +kernel
theorem dX1_leave_67 : decode cX1_leave 67 = .ok (.iload_n 1, 1) := by decide +kernel
theorem dX1_leave_68 : decode cX1_leave 68 = .ok (.aload_n 0, 1) := by decide +kernel
theorem dX1_leave_69 : decode cX1_leave 69 = .ok (.getfield 122, 3) := by decide +kernel
theorem dX1_leave_72 : decode cX1_leave 72 = .ok (.invokevirtual 125, 3) := by decide +kernel
theorem dX1_leave_75 : decode cX1_leave 75 = .ok (.iconst 1, 1) := by decide +kernel
theorem dX1_leave_76 : decode cX1_leave 76 = .ok (.ireturn, 1) := by decide +kernel
theorem dX1_leave_77 : decode cX1_leave 77 = .ok (.aload_n 0, 1) := by decide +kernel
theorem dX1_leave_78 : decode cX1_leave 78 = .ok (.iload_n 2, 1) := by decide +kernel
theorem dX1_leave_79 : decode cX1_leave 79 = .ok (.invokevirtual 129, 3) := by decide +kernel
theorem dX1_leave_82 : decode cX1_leave 82 = .ok (.iload_n 3, 1) := by decide +kernel
theorem dX1_leave_83 : decode cX1_leave 83 = .ok (.ifCond .eq 20, 3) := by decide +kernel
theorem dX1_leave_86 : decode cX1_leave 86 = .ok (.aload_n 0, 1) := by decide +kernel
theorem dX1_leave_87 : decode cX1_leave 87 = .ok (.getfield 36, 3) := by decide +kernel
theorem dX1_leave_90 : decode cX1_leave 90 = .ok (.getfield 132, 3) := by decide +kernel
theorem dX1_leave_93 : decode cX1_leave 93 = .ok (.iload_n 1, 1) := by decide +kernel
theorem dX1_leave_94 : decode cX1_leave 94 = .ok (.if_icmp .ne 9, 3) := by decide +kernel
theorem dX1_leave_97 : decode cX1_leave 97 = .ok (.aload_n 0, 1) := by decide +kernel
theorem dX1_leave_98 : decode cX1_leave 98 = .ok (.iload_n 1, 1) := by decide +kernel
theorem dX1_leave_99 : decode cX1_leave 99 = .ok (.iload_n 2, 1) := by decide +kernel
theorem dX1_leave_100 : decode cX1_leave 100 = .ok (.invokevirtual 135, 3) := by decide +kernel
theorem dX1_leave_103 : decode cX1_leave 103 = .ok (.iconst 0, 1) := by decide +kernel
theorem dX1_leave_104 : decode cX1_leave 104 = .ok (.ireturn, 1) := by decide +kernel
theorem dX1_commit_0 : decode cX1_commit 0 = .ok (.aload_n 0, 1) := by decide +kernel
theorem dX1_commit_1 : decode cX1_commit 1 = .ok (.getfield 53, 3) := by decide +kernel
theorem dX1_commit_4 : decode cX1_commit 4 = .ok (.iload_n 1, 1) := by decide +kernel
theorem dX1_commit_5 : decode cX1_commit 5 = .ok (.invokevirtual 138, 3) := by decide +kernel
theorem dX1_commit_8 : decode cX1_commit 8 = .ok (.istore_n 2, 1) := by decide +kernel
theorem dX1_commit_9 : decode cX1_commit 9 = .ok (.aload_n 0, 1) := by decide +kernel
theorem dX1_commit_10 : decode cX1_commit 10 = .ok (.getfield 28, 3) := by decide +kernel
theorem dX1_commit_13 : decode cX1_commit 13 = .ok (.dup, 1) := by decide +kernel
theorem dX1_commit_14 : decode cX1_commit 14 = .ok (.getfield 141, 3) := by decide +kernel
theorem dX1_commit_17 : decode cX1_commit 17 = .ok (.iconst 1, 1) := by decide +kernel
theorem dX1_commit_18 : decode cX1_commit 18 = .ok (.iadd, 1) := by decide +kernel
theorem dX1_commit_19 : decode cX1_commit 19 = .ok (.putfield 141, 3) := by decide +kernel
theorem dX1_commit_22 : decode cX1_commit 22 = .ok (.aload_n 0, 1) := by decide +kernel
theorem dX1_commit_23 : decode cX1_commit 23 = .ok (.getfield 21, 3) := by decide +kernel
theorem dX1_commit_26 : decode cX1_commit 26 = .ok (.iload_n 1, 1) := by decide +kernel
theorem dX1_commit_27 : decode cX1_commit 27 = .ok (.aload_n 0, 1) := by decide +kernel
theorem dX1_commit_28 : decode cX1_commit 28 = .ok (.getfield 28, 3) := by decide +kernel
theorem dX1_commit_31 : decode cX1_commit 31 = .ok (.getfield 78, 3) := by decide +kernel
theorem dX1_commit_34 : decode cX1_commit 34 = .ok (.iload_n 2, 1) := by decide +kernel
theorem dX1_commit_35 : decode cX1_commit 35 = .ok (.invokevirtual 144, 3) := by decide +kernel
theorem dX1_commit_38 : decode cX1_commit 38 = .ok (.aload_n 0, 1) := by decide +kernel
theorem dX1_commit_39 : decode cX1_commit 39 = .ok (.getfield 40, 3) := by decide +kernel
theorem dX1_commit_42 : decode cX1_commit 42 = .ok (.iload_n 1, 1) := by decide +kernel
theorem dX1_commit_43 : decode cX1_commit 43 = .ok (.invokevirtual 114, 3) := by decide +kernel
theorem dX1_commit_46 : decode cX1_commit 46 = .ok (.bipush 6, 2) := by decide +kernel
theorem dX1_commit_48 : decode cX1_commit 48 = .ok (.if_icmp .ne 11, 3) := by decide +kernel
theorem dX1_commit_51 : decode cX1_commit 51 = .ok (.aload_n 0, 1) := by decide +kernel
theorem dX1_commit_52 : decode cX1_commit 52 = .ok (.getfield 28, 3) := by decide +kernel
theorem dX1_commit_55 : decode cX1_commit 55 = .ok (.iconst 1, 1) := by decide +kernel
theorem dX1_commit_56 : decode cX1_commit 56 = .ok (.putfield 85, 3) := by decide +kernel
theorem dX1_commit_59 : decode cX1_commit 59 = .ok (.return_, 1) := by decide +kernel
theorem dX1_takeBranch_0 : decode cX1_takeBranch 0 = .ok (.aload_n 0, 1) := by decide +kernel
theorem dX1_takeBranch_1 : decode cX1_takeBranch 1 = .ok (.getfield 28, 3) := by decide +kernel
theorem dX1_takeBranch_4 : decode cX1_takeBranch 4 = .ok (.dup, 1) := by decide +kernel
theorem dX1_takeBranch_5 : decode cX1_takeBranch 5 = .ok (.getfield 148, 3) := by decide +kernel
theorem dX1_takeBranch_8 : decode cX1_takeBranch 8 = .ok (.iconst 1, 1) := by decide +kernel
theorem dX1_takeBranch_9 : decode cX1_takeBranch 9 = .ok (.iadd, 1) := by decide +kernel
theorem dX1_takeBranch_10 : decode cX1_takeBranch 10 = .ok (.putfield 148, 3) := by decide +kernel
theorem dX1_takeBranch_13 : decode cX1_takeBranch 13 = .ok (.aload_n 0, 1) := by decide +kernel
theorem dX1_takeBranch_14 : decode cX1_takeBranch 14 = .ok (.iload_n 1, 1) := by decide +kernel
theorem dX1_takeBranch_15 : decode cX1_takeBranch 15 = .ok (.aload_n 0, 1) := by decide +kernel
theorem dX1_takeBranch_16 : decode cX1_takeBranch 16 = .ok (.getfield 40, 3) := by decide +kernel
theorem dX1_takeBranch_19 : decode cX1_takeBranch 19 = .ok (.iload_n 2, 1) := by decide +kernel
theorem dX1_takeBranch_20 : decode cX1_takeBranch 20 = .ok (.invokevirtual 151, 3) := by decide +kernel
theorem dX1_takeBranch_23 : decode cX1_takeBranch 23 = .ok (.invokevirtual 125, 3) := by decide +kernel
theorem dX1_takeBranch_26 : decode cX1_takeBranch 26 = .ok (.return_, 1) := by decide +kernel
theorem dX1_squashAndGoTo_0 : decode cX1_squashAndGoTo 0 = .ok (.aload_n 0, 1) := by decide +kernel
theorem dX1_squashAndGoTo_1 : decode cX1_squashAndGoTo 1 = .ok (.getfield 28, 3) := by decide +kernel
theorem dX1_squashAndGoTo_4 : decode cX1_squashAndGoTo 4 = .ok (.dup, 1) := by decide +kernel
theorem dX1_squashAndGoTo_5 : decode cX1_squashAndGoTo 5 = .ok (.getfield 154, 3) := by decide +kernel
theorem dX1_squashAndGoTo_8 : decode cX1_squashAndGoTo 8 = .ok (.aload_n 0, 1) := by decide +kernel
theorem dX1_squashAndGoTo_9 : decode cX1_squashAndGoTo 9 = .ok (.getfield 12, 3) := by decide +kernel
theorem dX1_squashAndGoTo_12 : decode cX1_squashAndGoTo 12 = .ok (.iload_n 1, 1) := by decide +kernel
theorem dX1_squashAndGoTo_13 : decode cX1_squashAndGoTo 13 = .ok (.invokevirtual 157, 3) := by decide +kernel
theorem dX1_squashAndGoTo_16 : decode cX1_squashAndGoTo 16 = .ok (.iadd, 1) := by decide +kernel
theorem dX1_squashAndGoTo_17 : decode cX1_squashAndGoTo 17 = .ok (.putfield 154, 3) := by decide +kernel
theorem dX1_squashAndGoTo_20 : decode cX1_squashAndGoTo 20 = .ok (.aload_n 0, 1) := by decide +kernel
theorem dX1_squashAndGoTo_21 : decode cX1_squashAndGoTo 21 = .ok (.aload_n 0, 1) := by decide +kernel
theorem dX1_squashAndGoTo_22 : decode cX1_squashAndGoTo 22 = .ok (.getfield 40, 3) := by decide +kernel
theorem dX1_squashAndGoTo_25 : decode cX1_squashAndGoTo 25 = .ok (.iload_n 2, 1) := by decide +kernel
theorem dX1_squashAndGoTo_26 : decode cX1_squashAndGoTo 26 = .ok (.invokevirtual 160, 3) := by decide +kernel
theorem dX1_squashAndGoTo_29 : decode cX1_squashAndGoTo 29 = .ok (.putfield 62, 3) := by decide +kernel
theorem dX1_squashAndGoTo_32 : decode cX1_squashAndGoTo 32 = .ok (.aload_n 0, 1) := by decide +kernel
theorem dX1_squashAndGoTo_33 : decode cX1_squashAndGoTo 33 = .ok (.iconst 0, 1) := by decide +kernel
theorem dX1_squashAndGoTo_34 : decode cX1_squashAndGoTo 34 = .ok (.putfield 66, 3) := by decide +kernel
theorem dX1_squashAndGoTo_37 : decode cX1_squashAndGoTo 37 = .ok (.aload_n 0, 1) := by decide +kernel
theorem dX1_squashAndGoTo_38 : decode cX1_squashAndGoTo 38 = .ok (.iconst 1, 1) := by decide +kernel
theorem dX1_squashAndGoTo_39 : decode cX1_squashAndGoTo 39 = .ok (.putfield 72, 3) := by decide +kernel
theorem dX1_squashAndGoTo_42 : decode cX1_squashAndGoTo 42 = .ok (.return_, 1) := by decide +kernel
theorem dX1_goOn_0 : decode cX1_goOn 0 = .ok (.iconst 4, 1) := by decide +kernel
theorem dX1_goOn_1 : decode cX1_goOn 1 = .ok (.istore_n 1, 1) := by decide +kernel
theorem dX1_goOn_2 : decode cX1_goOn 2 = .ok (.aload_n 0, 1) := by decide +kernel
theorem dX1_goOn_3 : decode cX1_goOn 3 = .ok (.getfield 36, 3) := by decide +kernel
theorem dX1_goOn_6 : decode cX1_goOn 6 = .ok (.invokevirtual 98, 3) := by decide +kernel
theorem dX1_goOn_9 : decode cX1_goOn 9 = .ok (.iconst 1, 1) := by decide +kernel
theorem dX1_goOn_10 : decode cX1_goOn 10 = .ok (.isub, 1) := by decide +kernel
theorem dX1_goOn_11 : decode cX1_goOn 11 = .ok (.istore_n 2, 1) := by decide +kernel
theorem dX1_goOn_12 : decode cX1_goOn 12 = .ok (.iload_n 2, 1) := by decide +kernel
theorem dX1_goOn_13 : decode cX1_goOn 13 = .ok (.ifCond .lt 139, 3) := by decide +kernel
theorem dX1_goOn_16 : decode cX1_goOn 16 = .ok (.aload_n 0, 1) := by decide +kernel
theorem dX1_goOn_17 : decode cX1_goOn 17 = .ok (.getfield 12, 3) := by decide +kernel
theorem dX1_goOn_20 : decode cX1_goOn 20 = .ok (.iload_n 2, 1) := by decide +kernel
theorem dX1_goOn_21 : decode cX1_goOn 21 = .ok (.invokevirtual 103, 3) := by decide +kernel
theorem dX1_goOn_24 : decode cX1_goOn 24 = .ok (.istore_n 3, 1) := by decide +kernel
theorem dX1_goOn_25 : decode cX1_goOn 25 = .ok (.iload_n 3, 1) := by decide +kernel
theorem dX1_goOn_26 : decode cX1_goOn 26 = .ok (.iconst (-1), 1) := by decide +kernel
theorem dX1_goOn_27 : decode cX1_goOn 27 = .ok (.if_icmp .eq 22, 3) := by decide +kernel
theorem dX1_goOn_30 : decode cX1_goOn 30 = .ok (.iload_n 2, 1) := by decide +kernel
theorem dX1_goOn_31 : decode cX1_goOn 31 = .ok (.aload_n 0, 1) := by decide +kernel
theorem dX1_goOn_32 : decode cX1_goOn 32 = .ok (.getfield 36, 3) := by decide +kernel
theorem dX1_goOn_35 : decode cX1_goOn 35 = .ok (.getfield 163, 3) := by decide +kernel
theorem dX1_goOn_38 : decode cX1_goOn 38 = .ok (.if_icmp .ne 11, 3) := by decide +kernel
theorem dX1_goOn_41 : decode cX1_goOn 41 = .ok (.aload_n 0, 1) := by decide +kernel
theorem dX1_goOn_42 : decode cX1_goOn 42 = .ok (.iload_n 3, 1) := by decide +kernel
theorem dX1_goOn_43 : decode cX1_goOn 43 = .ok (.invokevirtual 166, 3) := by decide +kernel
theorem dX1_goOn_46 : decode cX1_goOn 46 = .ok (.goto 4, 3) := by decide +kernel
theorem dX1_goOn_49 : decode cX1_goOn 49 = .ok (.iconst 4, 1) := by decide +kernel
theorem dX1_goOn_50 : decode cX1_goOn 50 = .ok (.istore 4, 2) := by decide +kernel
theorem dX1_goOn_52 : decode cX1_goOn 52 = .ok (.iload 4, 2) := by decide +kernel
theorem dX1_goOn_54 : decode cX1_goOn 54 = .ok (.iconst 4, 1) := by decide +kernel
theorem dX1_goOn_55 : decode cX1_goOn 55 = .ok (.if_icmp .eq 9, 3) := by decide +kernel
theorem dX1_goOn_58 : decode cX1_goOn 58 = .ok (.iload 4, 2) := by decide +kernel
theorem dX1_goOn_60 : decode cX1_goOn 60 = .ok (.istore_n 1, 1) := by decide +kernel
theorem dX1_goOn_61 : decode cX1_goOn 61 = .ok (.goto 85, 3) := by decide +kernel
theorem dX1_goOn_64 : decode cX1_goOn 64 = .ok (.iload_n 3, 1) := by decide +kernel
theorem dX1_goOn_65 : decode cX1_goOn 65 = .ok (.iconst (-1), 1) := by decide +kernel
theorem dX1_goOn_66 : decode cX1_goOn 66 = .ok (.if_icmp .eq 80, 3) := by decide +kernel
theorem dX1_goOn_69 : decode cX1_goOn 69 = .ok (.aload_n 0, 1) := by decide +kernel
theorem dX1_goOn_70 : decode cX1_goOn 70 = .ok (.getfield 12, 3) := by decide +kernel
theorem dX1_goOn_73 : decode cX1_goOn 73 = .ok (.iload_n 2, 1) := by decide +kernel
theorem dX1_goOn_74 : decode cX1_goOn 74 = .ok (.iconst 1, 1) := by decide +kernel
theorem dX1_goOn_75 : decode cX1_goOn 75 = .ok (.iadd, 1) := by decide +kernel
theorem dX1_goOn_76 : decode cX1_goOn 76 = .ok (.invokevirtual 103, 3) := by decide +kernel
theorem dX1_goOn_79 : decode cX1_goOn 79 = .ok (.iconst (-1), 1) := by decide +kernel
theorem dX1_goOn_80 : decode cX1_goOn 80 = .ok (.if_icmp .ne 66, 3) := by decide +kernel
theorem dX1_goOn_83 : decode cX1_goOn 83 = .ok (.aload_n 0, 1) := by decide +kernel
theorem dX1_goOn_84 : decode cX1_goOn 84 = .ok (.getfield 12, 3) := by decide +kernel
theorem dX1_goOn_87 : decode cX1_goOn 87 = .ok (.iload_n 2, 1) := by decide +kernel
theorem dX1_goOn_88 : decode cX1_goOn 88 = .ok (.invokevirtual 169, 3) := by decide +kernel
theorem dX1_goOn_91 : decode cX1_goOn 91 = .ok (.aload_n 0, 1) := by decide +kernel
theorem dX1_goOn_92 : decode cX1_goOn 92 = .ok (.iload_n 2, 1) := by decide +kernel
theorem dX1_goOn_93 : decode cX1_goOn 93 = .ok (.iconst 1, 1) := by decide +kernel
theorem dX1_goOn_94 : decode cX1_goOn 94 = .ok (.iadd, 1) := by decide +kernel
theorem dX1_goOn_95 : decode cX1_goOn 95 = .ok (.aload_n 0, 1) := by decide +kernel
theorem dX1_goOn_96 : decode cX1_goOn 96 = .ok (.getfield 36, 3) := by decide +kernel
theorem dX1_goOn_99 : decode cX1_goOn 99 = .ok (.getfield 163, 3) := by decide +kernel
theorem dX1_goOn_102 : decode cX1_goOn 102 = .ok (.if_icmp .ne 7, 3) := by decide +kernel
theorem dX1_goOn_105 : decode cX1_goOn 105 = .ok (.iconst 0, 1) := by decide +kernel
theorem dX1_goOn_106 : decode cX1_goOn 106 = .ok (.goto 7, 3) := by decide +kernel
theorem dX1_goOn_109 : decode cX1_goOn 109 = .ok (.aload_n 0, 1) := by decide +kernel
theorem dX1_goOn_110 : decode cX1_goOn 110 = .ok (.getfield 75, 3) := by decide +kernel
theorem dX1_goOn_113 : decode cX1_goOn 113 = .ok (.putfield 75, 3) := by decide +kernel
theorem dX1_goOn_116 : decode cX1_goOn 116 = .ok (.iload_n 2, 1) := by decide +kernel
theorem dX1_goOn_117 : decode cX1_goOn 117 = .ok (.aload_n 0, 1) := by decide +kernel
theorem dX1_goOn_118 : decode cX1_goOn 118 = .ok (.getfield 36, 3) := by decide +kernel
theorem dX1_goOn_121 : decode cX1_goOn 121 = .ok (.getfield 132, 3) := by decide +kernel
theorem dX1_goOn_124 : decode cX1_goOn 124 = .ok (.if_icmp .ne 22, 3) := by decide +kernel
theorem dX1_goOn_127 : decode cX1_goOn 127 = .ok (.aload_n 0, 1) := by decide +kernel
theorem dX1_goOn_128 : decode cX1_goOn 128 = .ok (.getfield 12, 3) := by decide +kernel
theorem dX1_goOn_131 : decode cX1_goOn 131 = .ok (.iload_n 2, 1) := by decide +kernel
theorem dX1_goOn_132 : decode cX1_goOn 132 = .ok (.iconst 1, 1) := by decide +kernel
theorem dX1_goOn_133 : decode cX1_goOn 133 = .ok (.iadd, 1) := by decide +kernel
theorem dX1_goOn_134 : decode cX1_goOn 134 = .ok (.invokevirtual 107, 3) := by decide +kernel
theorem dX1_goOn_137 : decode cX1_goOn 137 = .ok (.ifCond .eq 9, 3) := by decide +kernel
theorem dX1_goOn_140 : decode cX1_goOn 140 = .ok (.aload_n 0, 1) := by decide +kernel
theorem dX1_goOn_141 : decode cX1_goOn 141 = .ok (.iload_n 2, 1) := by decide +kernel
theorem dX1_goOn_142 : decode cX1_goOn 142 = .ok (.iload_n 3, 1) := by decide +kernel
theorem dX1_goOn_143 : decode cX1_goOn 143 = .ok (.invokevirtual 135, 3) := by decide +kernel
theorem dX1_goOn_146 : decode cX1_goOn 146 = .ok (.iinc 2 (-1), 3) := by decide +kernel
theorem dX1_goOn_149 : decode cX1_goOn 149 = .ok (.goto (-137), 3) := by decide +kernel
theorem dX1_goOn_152 : decode cX1_goOn 152 = .ok (.iload_n 1, 1) := by decide +kernel
theorem dX1_goOn_153 : decode cX1_goOn 153 = .ok (.ireturn, 1) := by decide +kernel
theorem dX1_work_0 : decode cX1_work 0 = .ok (.aload_n 0, 1) := by decide +kernel
theorem dX1_work_1 : decode cX1_work 1 = .ok (.getfield 75, 3) := by decide +kernel
theorem dX1_work_4 : decode cX1_work 4 = .ok (.ifCond .ne 13, 3) := by decide +kernel
theorem dX1_work_7 : decode cX1_work 7 = .ok (.aload_n 0, 1) := by decide +kernel
theorem dX1_work_8 : decode cX1_work 8 = .ok (.iload_n 1, 1) := by decide +kernel
theorem dX1_work_9 : decode cX1_work 9 = .ok (.invokevirtual 172, 3) := by decide +kernel
theorem dX1_work_12 : decode cX1_work 12 = .ok (.ifCond .ne 5, 3) := by decide +kernel
theorem dX1_work_15 : decode cX1_work 15 = .ok (.iconst 2, 1) := by decide +kernel
theorem dX1_work_16 : decode cX1_work 16 = .ok (.ireturn, 1) := by decide +kernel
theorem dX1_work_17 : decode cX1_work 17 = .ok (.aload_n 0, 1) := by decide +kernel
theorem dX1_work_18 : decode cX1_work 18 = .ok (.getfield 36, 3) := by decide +kernel
theorem dX1_work_21 : decode cX1_work 21 = .ok (.aload_n 0, 1) := by decide +kernel
theorem dX1_work_22 : decode cX1_work 22 = .ok (.getfield 40, 3) := by decide +kernel
theorem dX1_work_25 : decode cX1_work 25 = .ok (.iload_n 1, 1) := by decide +kernel
theorem dX1_work_26 : decode cX1_work 26 = .ok (.invokevirtual 114, 3) := by decide +kernel
theorem dX1_work_29 : decode cX1_work 29 = .ok (.invokevirtual 175, 3) := by decide +kernel
theorem dX1_work_32 : decode cX1_work 32 = .ok (.istore_n 2, 1) := by decide +kernel
theorem dX1_work_33 : decode cX1_work 33 = .ok (.aload_n 0, 1) := by decide +kernel
theorem dX1_work_34 : decode cX1_work 34 = .ok (.getfield 75, 3) := by decide +kernel
theorem dX1_work_37 : decode cX1_work 37 = .ok (.iload_n 2, 1) := by decide +kernel
theorem dX1_work_38 : decode cX1_work 38 = .ok (.if_icmp .ge 13, 3) := by decide +kernel
theorem dX1_work_41 : decode cX1_work 41 = .ok (.aload_n 0, 1) := by decide +kernel
theorem dX1_work_42 : decode cX1_work 42 = .ok (.dup, 1) := by decide +kernel
theorem dX1_work_43 : decode cX1_work 43 = .ok (.getfield 75, 3) := by decide +kernel
theorem dX1_work_46 : decode cX1_work 46 = .ok (.iconst 1, 1) := by decide +kernel
theorem dX1_work_47 : decode cX1_work 47 = .ok (.iadd, 1) := by decide +kernel
theorem dX1_work_48 : decode cX1_work 48 = .ok (.putfield 75, 3) := by decide +kernel
theorem dX1_work_51 : decode cX1_work 51 = .ok (.aload_n 0, 1) := by decide +kernel
theorem dX1_work_52 : decode cX1_work 52 = .ok (.getfield 75, 3) := by decide +kernel
theorem dX1_work_55 : decode cX1_work 55 = .ok (.iload_n 2, 1) := by decide +kernel
theorem dX1_work_56 : decode cX1_work 56 = .ok (.if_icmp .ge 7, 3) := by decide +kernel
theorem dX1_work_59 : decode cX1_work 59 = .ok (.iconst 3, 1) := by decide +kernel
theorem dX1_work_60 : decode cX1_work 60 = .ok (.goto 4, 3) := by decide +kernel
theorem dX1_work_63 : decode cX1_work 63 = .ok (.iconst 4, 1) := by decide +kernel
theorem dX1_work_64 : decode cX1_work 64 = .ok (.ireturn, 1) := by decide +kernel
theorem dX1_isReady_0 : decode cX1_isReady 0 = .ok (.aload_n 0, 1) := by decide +kernel
theorem dX1_isReady_1 : decode cX1_isReady 1 = .ok (.aload_n 0, 1) := by decide +kernel
theorem dX1_isReady_2 : decode cX1_isReady 2 = .ok (.getfield 40, 3) := by decide +kernel
theorem dX1_isReady_5 : decode cX1_isReady 5 = .ok (.iload_n 1, 1) := by decide +kernel
theorem dX1_isReady_6 : decode cX1_isReady 6 = .ok (.invokevirtual 178, 3) := by decide +kernel
theorem dX1_isReady_9 : decode cX1_isReady 9 = .ok (.invokevirtual 181, 3) := by decide +kernel
theorem dX1_isReady_12 : decode cX1_isReady 12 = .ok (.ifCond .eq 22, 3) := by decide +kernel
theorem dX1_isReady_15 : decode cX1_isReady 15 = .ok (.aload_n 0, 1) := by decide +kernel
theorem dX1_isReady_16 : decode cX1_isReady 16 = .ok (.aload_n 0, 1) := by decide +kernel
theorem dX1_isReady_17 : decode cX1_isReady 17 = .ok (.getfield 40, 3) := by decide +kernel
theorem dX1_isReady_20 : decode cX1_isReady 20 = .ok (.iload_n 1, 1) := by decide +kernel
theorem dX1_isReady_21 : decode cX1_isReady 21 = .ok (.invokevirtual 184, 3) := by decide +kernel
theorem dX1_isReady_24 : decode cX1_isReady 24 = .ok (.invokevirtual 181, 3) := by decide +kernel
theorem dX1_isReady_27 : decode cX1_isReady 27 = .ok (.ifCond .eq 7, 3) := by decide +kernel
theorem dX1_isReady_30 : decode cX1_isReady 30 = .ok (.iconst 1, 1) := by decide +kernel
theorem dX1_isReady_31 : decode cX1_isReady 31 = .ok (.goto 4, 3) := by decide +kernel
theorem dX1_isReady_34 : decode cX1_isReady 34 = .ok (.iconst 0, 1) := by decide +kernel
theorem dX1_isReady_35 : decode cX1_isReady 35 = .ok (.ireturn, 1) := by decide +kernel
theorem dX1_isThere_0 : decode cX1_isThere 0 = .ok (.iload_n 1, 1) := by decide +kernel
theorem dX1_isThere_1 : decode cX1_isThere 1 = .ok (.iconst (-1), 1) := by decide +kernel
theorem dX1_isThere_2 : decode cX1_isThere 2 = .ok (.if_icmp .ne 5, 3) := by decide +kernel
theorem dX1_isThere_5 : decode cX1_isThere 5 = .ok (.iconst 1, 1) := by decide +kernel
theorem dX1_isThere_6 : decode cX1_isThere 6 = .ok (.ireturn, 1) := by decide +kernel
theorem dX1_isThere_7 : decode cX1_isThere 7 = .ok (.aload_n 0, 1) := by decide +kernel
theorem dX1_isThere_8 : decode cX1_isThere 8 = .ok (.getfield 36, 3) := by decide +kernel
theorem dX1_isThere_11 : decode cX1_isThere 11 = .ok (.getfield 163, 3) := by decide +kernel
theorem dX1_isThere_14 : decode cX1_isThere 14 = .ok (.iconst 1, 1) := by decide +kernel
theorem dX1_isThere_15 : decode cX1_isThere 15 = .ok (.iadd, 1) := by decide +kernel
theorem dX1_isThere_16 : decode cX1_isThere 16 = .ok (.istore_n 2, 1) := by decide +kernel
theorem dX1_isThere_17 : decode cX1_isThere 17 = .ok (.iload_n 2, 1) := by decide +kernel
theorem dX1_isThere_18 : decode cX1_isThere 18 = .ok (.aload_n 0, 1) := by decide +kernel
theorem dX1_isThere_19 : decode cX1_isThere 19 = .ok (.getfield 36, 3) := by decide +kernel
theorem dX1_isThere_22 : decode cX1_isThere 22 = .ok (.getfield 187, 3) := by decide +kernel
theorem dX1_isThere_25 : decode cX1_isThere 25 = .ok (.if_icmp .ge 62, 3) := by decide +kernel
theorem dX1_isThere_28 : decode cX1_isThere 28 = .ok (.aload_n 0, 1) := by decide +kernel
theorem dX1_isThere_29 : decode cX1_isThere 29 = .ok (.getfield 12, 3) := by decide +kernel
theorem dX1_isThere_32 : decode cX1_isThere 32 = .ok (.iload_n 2, 1) := by decide +kernel
theorem dX1_isThere_33 : decode cX1_isThere 33 = .ok (.invokevirtual 103, 3) := by decide +kernel
theorem dX1_isThere_36 : decode cX1_isThere 36 = .ok (.istore_n 3, 1) := by decide +kernel
theorem dX1_isThere_37 : decode cX1_isThere 37 = .ok (.aload_n 0, 1) := by decide +kernel
theorem dX1_isThere_38 : decode cX1_isThere 38 = .ok (.getfield 40, 3) := by decide +kernel
theorem dX1_isThere_41 : decode cX1_isThere 41 = .ok (.iload_n 3, 1) := by decide +kernel
theorem dX1_isThere_42 : decode cX1_isThere 42 = .ok (.invokevirtual 190, 3) := by decide +kernel
theorem dX1_isThere_45 : decode cX1_isThere 45 = .ok (.iload_n 1, 1) := by decide +kernel
theorem dX1_isThere_46 : decode cX1_isThere 46 = .ok (.if_icmp .ne 35, 3) := by decide +kernel
theorem dX1_isThere_49 : decode cX1_isThere 49 = .ok (.aload_n 0, 1) := by decide +kernel
theorem dX1_isThere_50 : decode cX1_isThere 50 = .ok (.getfield 32, 3) := by decide +kernel
theorem dX1_isThere_53 : decode cX1_isThere 53 = .ok (.ifCond .eq 26, 3) := by decide +kernel
theorem dX1_isThere_56 : decode cX1_isThere 56 = .ok (.iload_n 2, 1) := by decide +kernel
theorem dX1_isThere_57 : decode cX1_isThere 57 = .ok (.aload_n 0, 1) := by decide +kernel
theorem dX1_isThere_58 : decode cX1_isThere 58 = .ok (.getfield 36, 3) := by decide +kernel
theorem dX1_isThere_61 : decode cX1_isThere 61 = .ok (.aload_n 0, 1) := by decide +kernel
theorem dX1_isThere_62 : decode cX1_isThere 62 = .ok (.getfield 40, 3) := by decide +kernel
theorem dX1_isThere_65 : decode cX1_isThere 65 = .ok (.iload_n 3, 1) := by decide +kernel
theorem dX1_isThere_66 : decode cX1_isThere 66 = .ok (.invokevirtual 114, 3) := by decide +kernel
theorem dX1_isThere_69 : decode cX1_isThere 69 = .ok (.invokevirtual 193, 3) := by decide +kernel
theorem dX1_isThere_72 : decode cX1_isThere 72 = .ok (.if_icmp .le 7, 3) := by decide +kernel
theorem dX1_isThere_75 : decode cX1_isThere 75 = .ok (.iconst 1, 1) := by decide +kernel
theorem dX1_isThere_76 : decode cX1_isThere 76 = .ok (.goto 4, 3) := by decide +kernel
theorem dX1_isThere_79 : decode cX1_isThere 79 = .ok (.iconst 0, 1) := by decide +kernel
theorem dX1_isThere_80 : decode cX1_isThere 80 = .ok (.ireturn, 1) := by decide +kernel

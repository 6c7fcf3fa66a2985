theorem dX8_work_63 : decode cX8_work 63 = .ok (.iaload, 1) := by decide +kernel
theorem dX8_work_64 : decode cX8_work 64 = .ok (.aload_n 0, 1) := by decide +kernel
theorem dX8_work_65 : decode cX8_work 65 = .ok (.iload_n 1, 1) := by decide +kernel
theorem dX8_work_66 : decode cX8_work 66 = .ok (.invokevirtual 181, 3) := by decide +kernel
theorem dX8_work_69 : decode cX8_work 69 = .ok (.if_icmp .ge 7, 3) := by decide +kernel
theorem dX8_work_72 : decode cX8_work 72 = .ok (.iconst 3, 1) := by decide +kernel
theorem dX8_work_73 : decode cX8_work 73 = .ok (.goto 4, 3) := by decide +kernel
theorem dX8_work_76 : decode cX8_work 76 = .ok (.iconst 4, 1) := by decide +kernel
theorem dX8_work_77 : decode cX8_work 77 = .ok (.ireturn, 1) := by decide +kernel
theorem dX8_mayGo_0 : decode cX8_mayGo 0 = .ok (.aload_n 0, 1) := by decide +kernel
theorem dX8_mayGo_1 : decode cX8_mayGo 1 = .ok (.getfield 29, 3) := by decide +kernel
theorem dX8_mayGo_4 : decode cX8_mayGo 4 = .ok (.iload_n 1, 1) := by decide +kernel
theorem dX8_mayGo_5 : decode cX8_mayGo 5 = .ok (.iaload, 1) := by decide +kernel
theorem dX8_mayGo_6 : decode cX8_mayGo 6 = .ok (.ifCond .lt 14, 3) := by decide +kernel
theorem dX8_mayGo_9 : decode cX8_mayGo 9 = .ok (.aload_n 0, 1) := by decide +kernel
theorem dX8_mayGo_10 : decode cX8_mayGo 10 = .ok (.getfield 29, 3) := by decide +kernel
theorem dX8_mayGo_13 : decode cX8_mayGo 13 = .ok (.iload_n 1, 1) := by decide +kernel
theorem dX8_mayGo_14 : decode cX8_mayGo 14 = .ok (.iconst 1, 1) := by decide +kernel
theorem dX8_mayGo_15 : decode cX8_mayGo 15 = .ok (.iadd, 1) := by decide +kernel
theorem dX8_mayGo_16 : decode cX8_mayGo 16 = .ok (.iaload, 1) := by decide +kernel
theorem dX8_mayGo_17 : decode cX8_mayGo 17 = .ok (.ifCond .lt 5, 3) := by decide +kernel
theorem dX8_mayGo_20 : decode cX8_mayGo 20 = .ok (.iconst 0, 1) := by decide +kernel
theorem dX8_mayGo_21 : decode cX8_mayGo 21 = .ok (.ireturn, 1) := by decide +kernel
theorem dX8_mayGo_22 : decode cX8_mayGo 22 = .ok (.iload_n 1, 1) := by decide +kernel
theorem dX8_mayGo_23 : decode cX8_mayGo 23 = .ok (.aload_n 0, 1) := by decide +kernel
theorem dX8_mayGo_24 : decode cX8_mayGo 24 = .ok (.getfield 83, 3) := by decide +kernel
theorem dX8_mayGo_27 : decode cX8_mayGo 27 = .ok (.if_icmp .ne 31, 3) := by decide +kernel
theorem dX8_mayGo_30 : decode cX8_mayGo 30 = .ok (.aload_n 0, 1) := by decide +kernel
theorem dX8_mayGo_31 : decode cX8_mayGo 31 = .ok (.getfield 36, 3) := by decide +kernel
theorem dX8_mayGo_34 : decode cX8_mayGo 34 = .ok (.iload_n 1, 1) := by decide +kernel
theorem dX8_mayGo_35 : decode cX8_mayGo 35 = .ok (.baload, 1) := by decide +kernel
theorem dX8_mayGo_36 : decode cX8_mayGo 36 = .ok (.ifCond .eq 26, 3) := by decide +kernel
theorem dX8_mayGo_39 : decode cX8_mayGo 39 = .ok (.aload_n 0, 1) := by decide +kernel
theorem dX8_mayGo_40 : decode cX8_mayGo 40 = .ok (.getfield 39, 3) := by decide +kernel
theorem dX8_mayGo_43 : decode cX8_mayGo 43 = .ok (.iload_n 1, 1) := by decide +kernel
theorem dX8_mayGo_44 : decode cX8_mayGo 44 = .ok (.iaload, 1) := by decide +kernel
theorem dX8_mayGo_45 : decode cX8_mayGo 45 = .ok (.aload_n 0, 1) := by decide +kernel
theorem dX8_mayGo_46 : decode cX8_mayGo 46 = .ok (.aload_n 0, 1) := by decide +kernel
theorem dX8_mayGo_47 : decode cX8_mayGo 47 = .ok (.getfield 29, 3) := by decide +kernel
theorem dX8_mayGo_50 : decode cX8_mayGo 50 = .ok (.iload_n 1, 1) := by decide +kernel
theorem dX8_mayGo_51 : decode cX8_mayGo 51 = .ok (.iaload, 1) := by decide +kernel
theorem dX8_mayGo_52 : decode cX8_mayGo 52 = .ok (.invokevirtual 181, 3) := by decide +kernel
theorem dX8_mayGo_55 : decode cX8_mayGo 55 = .ok (.if_icmp .lt 7, 3) := by decide +kernel
theorem dX8_mayGo_58 : decode cX8_mayGo 58 = .ok (.iconst 1, 1) := by decide +kernel
theorem dX8_mayGo_59 : decode cX8_mayGo 59 = .ok (.goto 4, 3) := by decide +kernel
theorem dX8_mayGo_62 : decode cX8_mayGo 62 = .ok (.iconst 0, 1) := by decide +kernel
theorem dX8_mayGo_63 : decode cX8_mayGo 63 = .ok (.ireturn, 1) := by decide +kernel
theorem dX8_goOn_0 : decode cX8_goOn 0 = .ok (.iconst 4, 1) := by decide +kernel
theorem dX8_goOn_1 : decode cX8_goOn 1 = .ok (.istore_n 1, 1) := by decide +kernel
theorem dX8_goOn_2 : decode cX8_goOn 2 = .ok (.aload_n 0, 1) := by decide +kernel
theorem dX8_goOn_3 : decode cX8_goOn 3 = .ok (.getfield 29, 3) := by decide +kernel
theorem dX8_goOn_6 : decode cX8_goOn 6 = .ok (.aload_n 0, 1) := by decide +kernel
theorem dX8_goOn_7 : decode cX8_goOn 7 = .ok (.getfield 83, 3) := by decide +kernel
theorem dX8_goOn_10 : decode cX8_goOn 10 = .ok (.iaload, 1) := by decide +kernel
theorem dX8_goOn_11 : decode cX8_goOn 11 = .ok (.ifCond .lt 7, 3) := by decide +kernel
theorem dX8_goOn_14 : decode cX8_goOn 14 = .ok (.iconst 1, 1) := by decide +kernel
theorem dX8_goOn_15 : decode cX8_goOn 15 = .ok (.goto 4, 3) := by decide +kernel
theorem dX8_goOn_18 : decode cX8_goOn 18 = .ok (.iconst 0, 1) := by decide +kernel
theorem dX8_goOn_19 : decode cX8_goOn 19 = .ok (.istore_n 2, 1) := by decide +kernel
theorem dX8_goOn_20 : decode cX8_goOn 20 = .ok (.aload_n 0, 1) := by decide +kernel
theorem dX8_goOn_21 : decode cX8_goOn 21 = .ok (.getfield 79, 3) := by decide +kernel
theorem dX8_goOn_24 : decode cX8_goOn 24 = .ok (.iconst 2, 1) := by decide +kernel
theorem dX8_goOn_25 : decode cX8_goOn 25 = .ok (.isub, 1) := by decide +kernel
theorem dX8_goOn_26 : decode cX8_goOn 26 = .ok (.istore_n 3, 1) := by decide +kernel
theorem dX8_goOn_27 : decode cX8_goOn 27 = .ok (.iload_n 3, 1) := by decide +kernel
theorem dX8_goOn_28 : decode cX8_goOn 28 = .ok (.ifCond .lt 105, 3) := by decide +kernel
theorem dX8_goOn_31 : decode cX8_goOn 31 = .ok (.iload_n 3, 1) := by decide +kernel
theorem dX8_goOn_32 : decode cX8_goOn 32 = .ok (.aload_n 0, 1) := by decide +kernel
theorem dX8_goOn_33 : decode cX8_goOn 33 = .ok (.getfield 83, 3) := by decide +kernel
theorem dX8_goOn_36 : decode cX8_goOn 36 = .ok (.if_icmp .ne 21, 3) := by decide +kernel
theorem dX8_goOn_39 : decode cX8_goOn 39 = .ok (.iload_n 2, 1) := by decide +kernel
theorem dX8_goOn_40 : decode cX8_goOn 40 = .ok (.ifCond .eq 17, 3) := by decide +kernel
theorem dX8_goOn_43 : decode cX8_goOn 43 = .ok (.aload_n 0, 1) := by decide +kernel
theorem dX8_goOn_44 : decode cX8_goOn 44 = .ok (.getfield 29, 3) := by decide +kernel
theorem dX8_goOn_47 : decode cX8_goOn 47 = .ok (.iload_n 3, 1) := by decide +kernel
theorem dX8_goOn_48 : decode cX8_goOn 48 = .ok (.iaload, 1) := by decide +kernel
theorem dX8_goOn_49 : decode cX8_goOn 49 = .ok (.ifCond .lt 8, 3) := by decide +kernel
theorem dX8_goOn_52 : decode cX8_goOn 52 = .ok (.aload_n 0, 1) := by decide +kernel
theorem dX8_goOn_53 : decode cX8_goOn 53 = .ok (.invokevirtual 184, 3) := by decide +kernel
theorem dX8_goOn_56 : decode cX8_goOn 56 = .ok (.istore_n 1, 1) := by decide +kernel
theorem dX8_goOn_57 : decode cX8_goOn 57 = .ok (.aload_n 0, 1) := by decide +kernel
theorem dX8_goOn_58 : decode cX8_goOn 58 = .ok (.iload_n 3, 1) := by decide +kernel
theorem dX8_goOn_59 : decode cX8_goOn 59 = .ok (.invokevirtual 188, 3) := by decide +kernel
theorem dX8_goOn_62 : decode cX8_goOn 62 = .ok (.ifCond .eq 65, 3) := by decide +kernel
theorem dX8_goOn_65 : decode cX8_goOn 65 = .ok (.iload_n 3, 1) := by decide +kernel
theorem dX8_goOn_66 : decode cX8_goOn 66 = .ok (.aload_n 0, 1) := by decide +kernel
theorem dX8_goOn_67 : decode cX8_goOn 67 = .ok (.getfield 92, 3) := by decide +kernel
theorem dX8_goOn_70 : decode cX8_goOn 70 = .ok (.if_icmp .ne 31, 3) := by decide +kernel
theorem dX8_goOn_73 : decode cX8_goOn 73 = .ok (.aload_n 0, 1) := by decide +kernel
theorem dX8_goOn_74 : decode cX8_goOn 74 = .ok (.getfield 32, 3) := by decide +kernel
theorem dX8_goOn_77 : decode cX8_goOn 77 = .ok (.iload_n 3, 1) := by decide +kernel
theorem dX8_goOn_78 : decode cX8_goOn 78 = .ok (.baload, 1) := by decide +kernel
theorem dX8_goOn_79 : decode cX8_goOn 79 = .ok (.ifCond .eq 22, 3) := by decide +kernel
theorem dX8_goOn_82 : decode cX8_goOn 82 = .ok (.aload_n 0, 1) := by decide +kernel
theorem dX8_goOn_83 : decode cX8_goOn 83 = .ok (.getfield 13, 3) := by decide +kernel
theorem dX8_goOn_86 : decode cX8_goOn 86 = .ok (.aload_n 0, 1) := by decide +kernel
theorem dX8_goOn_87 : decode cX8_goOn 87 = .ok (.getfield 29, 3) := by decide +kernel
theorem dX8_goOn_90 : decode cX8_goOn 90 = .ok (.iload_n 3, 1) := by decide +kernel
theorem dX8_goOn_91 : decode cX8_goOn 91 = .ok (.iaload, 1) := by decide +kernel
theorem dX8_goOn_92 : decode cX8_goOn 92 = .ok (.iaload, 1) := by decide +kernel
theorem dX8_goOn_93 : decode cX8_goOn 93 = .ok (.iconst 4, 1) := by decide +kernel
theorem dX8_goOn_94 : decode cX8_goOn 94 = .ok (.if_icmp .ne 7, 3) := by decide +kernel
theorem dX8_goOn_97 : decode cX8_goOn 97 = .ok (.iconst 1, 1) := by decide +kernel
theorem dX8_goOn_98 : decode cX8_goOn 98 = .ok (.goto 4, 3) := by decide +kernel
theorem dX8_goOn_101 : decode cX8_goOn 101 = .ok (.iconst 0, 1) := by decide +kernel
theorem dX8_goOn_102 : decode cX8_goOn 102 = .ok (.istore 4, 2) := by decide +kernel
theorem dX8_goOn_104 : decode cX8_goOn 104 = .ok (.aload_n 0, 1) := by decide +kernel
theorem dX8_goOn_105 : decode cX8_goOn 105 = .ok (.iload_n 3, 1) := by decide +kernel
theorem dX8_goOn_106 : decode cX8_goOn 106 = .ok (.invokevirtual 191, 3) := by decide +kernel
theorem dX8_goOn_109 : decode cX8_goOn 109 = .ok (.iload 4, 2) := by decide +kernel
theorem dX8_goOn_111 : decode cX8_goOn 111 = .ok (.ifCond .eq 16, 3) := by decide +kernel
theorem dX8_goOn_114 : decode cX8_goOn 114 = .ok (.aload_n 0, 1) := by decide +kernel
theorem dX8_goOn_115 : decode cX8_goOn 115 = .ok (.iload_n 3, 1) := by decide +kernel
theorem dX8_goOn_116 : decode cX8_goOn 116 = .ok (.aload_n 0, 1) := by decide +kernel
theorem dX8_goOn_117 : decode cX8_goOn 117 = .ok (.getfield 48, 3) := by decide +kernel
theorem dX8_goOn_120 : decode cX8_goOn 120 = .ok (.iload_n 3, 1) := by decide +kernel
theorem dX8_goOn_121 : decode cX8_goOn 121 = .ok (.iconst 1, 1) := by decide +kernel
theorem dX8_goOn_122 : decode cX8_goOn 122 = .ok (.iadd, 1) := by decide +kernel
theorem dX8_goOn_123 : decode cX8_goOn 123 = .ok (.iaload, 1) := by decide +kernel
theorem dX8_goOn_124 : decode cX8_goOn 124 = .ok (.invokevirtual 175, 3) := by decide +kernel
theorem dX8_goOn_127 : decode cX8_goOn 127 = .ok (.iinc 3 (-1), 3) := by decide +kernel
theorem dX8_goOn_130 : decode cX8_goOn 130 = .ok (.goto (-103), 3) := by decide +kernel
theorem dX8_goOn_133 : decode cX8_goOn 133 = .ok (.iload_n 1, 1) := by decide +kernel
theorem dX8_goOn_134 : decode cX8_goOn 134 = .ok (.ireturn, 1) := by decide +kernel
theorem dX8_plainRun_0 : decode cX8_plainRun 0 = .ok (.aload_n 0, 1) := by decide +kernel
theorem dX8_plainRun_1 : decode cX8_plainRun 1 = .ok (.getfield 51, 3) := by decide +kernel
theorem dX8_plainRun_4 : decode cX8_plainRun 4 = .ok (.aload_n 0, 1) := by decide +kernel
theorem dX8_plainRun_5 : decode cX8_plainRun 5 = .ok (.getfield 20, 3) := by decide +kernel
theorem dX8_plainRun_8 : decode cX8_plainRun 8 = .ok (.iload_n 1, 1) := by decide +kernel
theorem dX8_plainRun_9 : decode cX8_plainRun 9 = .ok (.iaload, 1) := by decide +kernel
theorem dX8_plainRun_10 : decode cX8_plainRun 10 = .ok (.iaload, 1) := by decide +kernel
theorem dX8_plainRun_11 : decode cX8_plainRun 11 = .ok (.istore_n 2, 1) := by decide +kernel
theorem dX8_plainRun_12 : decode cX8_plainRun 12 = .ok (.aload_n 0, 1) := by decide +kernel
theorem dX8_plainRun_13 : decode cX8_plainRun 13 = .ok (.getfield 51, 3) := by decide +kernel
theorem dX8_plainRun_16 : decode cX8_plainRun 16 = .ok (.aload_n 0, 1) := by decide +kernel
theorem dX8_plainRun_17 : decode cX8_plainRun 17 = .ok (.getfield 23, 3) := by decide +kernel
theorem dX8_plainRun_20 : decode cX8_plainRun 20 = .ok (.iload_n 1, 1) := by decide +kernel
theorem dX8_plainRun_21 : decode cX8_plainRun 21 = .ok (.iaload, 1) := by decide +kernel
theorem dX8_plainRun_22 : decode cX8_plainRun 22 = .ok (.iaload, 1) := by decide +kernel
theorem dX8_plainRun_23 : decode cX8_plainRun 23 = .ok (.istore_n 3, 1) := by decide +kernel
theorem dX8_plainRun_24 : decode cX8_plainRun 24 = .ok (.aload_n 0, 1) := by decide +kernel
theorem dX8_plainRun_25 : decode cX8_plainRun 25 = .ok (.getfield 42, 3) := by decide +kernel
theorem dX8_plainRun_28 : decode cX8_plainRun 28 = .ok (.iconst 0, 1) := by decide +kernel
theorem dX8_plainRun_29 : decode cX8_plainRun 29 = .ok (.iconst 0, 1) := by decide +kernel
theorem dX8_plainRun_30 : decode cX8_plainRun 30 = .ok (.iastore, 1) := by decide +kernel
theorem dX8_plainRun_31 : decode cX8_plainRun 31 = .ok (.aload_n 0, 1) := by decide +kernel
theorem dX8_plainRun_32 : decode cX8_plainRun 32 = .ok (.getfield 45, 3) := by decide +kernel
theorem dX8_plainRun_35 : decode cX8_plainRun 35 = .ok (.iconst 0, 1) := by decide +kernel
theorem dX8_plainRun_36 : decode cX8_plainRun 36 = .ok (.iload_n 2, 1) := by decide +kernel
theorem dX8_plainRun_37 : decode cX8_plainRun 37 = .ok (.bipush 64, 2) := by decide +kernel
theorem dX8_plainRun_39 : decode cX8_plainRun 39 = .ok (.invokestatic 75, 3) := by decide +kernel
theorem dX8_plainRun_42 : decode cX8_plainRun 42 = .ok (.iastore, 1) := by decide +kernel
theorem dX8_plainRun_43 : decode cX8_plainRun 43 = .ok (.aload_n 0, 1) := by decide +kernel
theorem dX8_plainRun_44 : decode cX8_plainRun 44 = .ok (.getfield 48, 3) := by decide +kernel
theorem dX8_plainRun_47 : decode cX8_plainRun 47 = .ok (.iconst 0, 1) := by decide +kernel
theorem dX8_plainRun_48 : decode cX8_plainRun 48 = .ok (.iconst (-1), 1) := by decide +kernel
theorem dX8_plainRun_49 : decode cX8_plainRun 49 = .ok (.iastore, 1) := by decide +kernel
theorem dX8_plainRun_50 : decode cX8_plainRun 50 = .ok (.aload_n 0, 1) := by decide +kernel
theorem dX8_plainRun_51 : decode cX8_plainRun 51 = .ok (.getfield 13, 3) := by decide +kernel
theorem dX8_plainRun_54 : decode cX8_plainRun 54 = .ok (.iload_n 1, 1) := by decide +kernel
theorem dX8_plainRun_55 : decode cX8_plainRun 55 = .ok (.iaload, 1) := by decide +kernel
theorem dX8_plainRun_56 : decode cX8_plainRun 56 = .ok (.ifCond .ne 19, 3) := by decide +kernel
theorem dX8_plainRun_59 : decode cX8_plainRun 59 = .ok (.aload_n 0, 1) := by decide +kernel
theorem dX8_plainRun_60 : decode cX8_plainRun 60 = .ok (.getfield 42, 3) := by decide +kernel
theorem dX8_plainRun_63 : decode cX8_plainRun 63 = .ok (.iconst 0, 1) := by decide +kernel
theorem dX8_plainRun_64 : decode cX8_plainRun 64 = .ok (.iload_n 2, 1) := by decide +kernel
theorem dX8_plainRun_65 : decode cX8_plainRun 65 = .ok (.iload_n 3, 1) := by decide +kernel
theorem dX8_plainRun_66 : decode cX8_plainRun 66 = .ok (.iadd, 1) := by decide +kernel
theorem dX8_plainRun_67 : decode cX8_plainRun 67 = .ok (.aload_n 0, 1) := by decide +kernel
theorem dX8_plainRun_68 : decode cX8_plainRun 68 = .ok (.getfield 26, 3) := by decide +kernel
theorem dX8_plainRun_71 : decode cX8_plainRun 71 = .ok (.iload_n 1, 1) := by decide +kernel
theorem dX8_plainRun_72 : decode cX8_plainRun 72 = .ok (.iaload, 1) := by decide +kernel
theorem dX8_plainRun_73 : decode cX8_plainRun 73 = .ok (.iadd, 1) := by decide +kernel
theorem dX8_plainRun_74 : decode cX8_plainRun 74 = .ok (.iastore, 1) := by decide +kernel
theorem dX8_plainRun_75 : decode cX8_plainRun 75 = .ok (.aload_n 0, 1) := by decide +kernel
theorem dX8_plainRun_76 : decode cX8_plainRun 76 = .ok (.getfield 13, 3) := by decide +kernel
theorem dX8_plainRun_79 : decode cX8_plainRun 79 = .ok (.iload_n 1, 1) := by decide +kernel
theorem dX8_plainRun_80 : decode cX8_plainRun 80 = .ok (.iaload, 1) := by decide +kernel
theorem dX8_plainRun_81 : decode cX8_plainRun 81 = .ok (.iconst 1, 1) := by decide +kernel
theorem dX8_plainRun_82 : decode cX8_plainRun 82 = .ok (.if_icmp .ne 20, 3) := by decide +kernel
theorem dX8_plainRun_85 : decode cX8_plainRun 85 = .ok (.aload_n 0, 1) := by decide +kernel
theorem dX8_plainRun_86 : decode cX8_plainRun 86 = .ok (.getfield 42, 3) := by decide +kernel
theorem dX8_plainRun_89 : decode cX8_plainRun 89 = .ok (.iconst 0, 1) := by decide +kernel
theorem dX8_plainRun_90 : decode cX8_plainRun 90 = .ok (.aload_n 0, 1) := by decide +kernel
theorem dX8_plainRun_91 : decode cX8_plainRun 91 = .ok (.getfield 54, 3) := by decide +kernel
theorem dX8_plainRun_94 : decode cX8_plainRun 94 = .ok (.aload_n 0, 1) := by decide +kernel
theorem dX8_plainRun_95 : decode cX8_plainRun 95 = .ok (.getfield 45, 3) := by decide +kernel
theorem dX8_plainRun_98 : decode cX8_plainRun 98 = .ok (.iconst 0, 1) := by decide +kernel
theorem dX8_plainRun_99 : decode cX8_plainRun 99 = .ok (.iaload, 1) := by decide +kernel
theorem dX8_plainRun_100 : decode cX8_plainRun 100 = .ok (.iaload, 1) := by decide +kernel
theorem dX8_plainRun_101 : decode cX8_plainRun 101 = .ok (.iastore, 1) := by decide +kernel
theorem dX8_plainRun_102 : decode cX8_plainRun 102 = .ok (.aload_n 0, 1) := by decide +kernel
theorem dX8_plainRun_103 : decode cX8_plainRun 103 = .ok (.getfield 13, 3) := by decide +kernel
theorem dX8_plainRun_106 : decode cX8_plainRun 106 = .ok (.iload_n 1, 1) := by decide +kernel
theorem dX8_plainRun_107 : decode cX8_plainRun 107 = .ok (.iaload, 1) := by decide +kernel
theorem dX8_plainRun_108 : decode cX8_plainRun 108 = .ok (.iconst 3, 1) := by decide +kernel
theorem dX8_plainRun_109 : decode cX8_plainRun 109 = .ok (.if_icmp .ne 12, 3) := by decide +kernel
theorem dX8_plainRun_112 : decode cX8_plainRun 112 = .ok (.aload_n 0, 1) := by decide +kernel
theorem dX8_plainRun_113 : decode cX8_plainRun 113 = .ok (.getfield 42, 3) := by decide +kernel
theorem dX8_plainRun_116 : decode cX8_plainRun 116 = .ok (.iconst 0, 1) := by decide +kernel
theorem dX8_plainRun_117 : decode cX8_plainRun 117 = .ok (.iload_n 2, 1) := by decide +kernel
theorem dX8_plainRun_118 : decode cX8_plainRun 118 = .ok (.iload_n 3, 1) := by decide +kernel
theorem dX8_plainRun_119 : decode cX8_plainRun 119 = .ok (.imul, 1) := by decide +kernel
theorem dX8_plainRun_120 : decode cX8_plainRun 120 = .ok (.iastore, 1) := by decide +kernel
theorem dX8_plainRun_121 : decode cX8_plainRun 121 = .ok (.aload_n 0, 1) := by decide +kernel
theorem dX8_plainRun_122 : decode cX8_plainRun 122 = .ok (.getfield 13, 3) := by decide +kernel
theorem dX8_plainRun_125 : decode cX8_plainRun 125 = .ok (.iload_n 1, 1) := by decide +kernel
theorem dX8_plainRun_126 : decode cX8_plainRun 126 = .ok (.iaload, 1) := by decide +kernel
theorem dX8_plainRun_127 : decode cX8_plainRun 127 = .ok (.bipush 7, 2) := by decide +kernel
theorem dX8_plainRun_129 : decode cX8_plainRun 129 = .ok (.if_icmp .ne 15, 3) := by decide +kernel
theorem dX8_plainRun_132 : decode cX8_plainRun 132 = .ok (.aload_n 0, 1) := by decide +kernel
theorem dX8_plainRun_133 : decode cX8_plainRun 133 = .ok (.getfield 42, 3) := by decide +kernel
theorem dX8_plainRun_136 : decode cX8_plainRun 136 = .ok (.iconst 0, 1) := by decide +kernel
theorem dX8_plainRun_137 : decode cX8_plainRun 137 = .ok (.aload_n 0, 1) := by decide +kernel
theorem dX8_plainRun_138 : decode cX8_plainRun 138 = .ok (.getfield 26, 3) := by decide +kernel
theorem dX8_plainRun_141 : decode cX8_plainRun 141 = .ok (.iload_n 1, 1) := by decide +kernel
theorem dX8_plainRun_142 : decode cX8_plainRun 142 = .ok (.iaload, 1) := by decide +kernel
theorem dX8_plainRun_143 : decode cX8_plainRun 143 = .ok (.iastore, 1) := by decide +kernel
theorem dX8_plainRun_144 : decode cX8_plainRun 144 = .ok (.aload_n 0, 1) := by decide +kernel
theorem dX8_plainRun_145 : decode cX8_plainRun 145 = .ok (.getfield 13, 3) := by decide +kernel
theorem dX8_plainRun_148 : decode cX8_plainRun 148 = .ok (.iload_n 1, 1) := by decide +kernel
theorem dX8_plainRun_149 : decode cX8_plainRun 149 = .ok (.iaload, 1) := by decide +kernel
theorem dX8_plainRun_150 : decode cX8_plainRun 150 = .ok (.iconst 2, 1) := by decide +kernel
theorem dX8_plainRun_151 : decode cX8_plainRun 151 = .ok (.if_icmp .ne 22, 3) := by decide +kernel
theorem dX8_plainRun_154 : decode cX8_plainRun 154 = .ok (.aload_n 0, 1) := by decide +kernel
theorem dX8_plainRun_155 : decode cX8_plainRun 155 = .ok (.getfield 42, 3) := by decide +kernel
theorem dX8_plainRun_158 : decode cX8_plainRun 158 = .ok (.iconst 0, 1) := by decide +kernel
theorem dX8_plainRun_159 : decode cX8_plainRun 159 = .ok (.iload_n 3, 1) := by decide +kernel
theorem dX8_plainRun_160 : decode cX8_plainRun 160 = .ok (.iastore, 1) := by decide +kernel
theorem dX8_plainRun_161 : decode cX8_plainRun 161 = .ok (.aload_n 0, 1) := by decide +kernel
theorem dX8_plainRun_162 : decode cX8_plainRun 162 = .ok (.getfield 54, 3) := by decide +kernel
theorem dX8_plainRun_165 : decode cX8_plainRun 165 = .ok (.aload_n 0, 1) := by decide +kernel
theorem dX8_plainRun_166 : decode cX8_plainRun 166 = .ok (.getfield 45, 3) := by decide +kernel
theorem dX8_plainRun_169 : decode cX8_plainRun 169 = .ok (.iconst 0, 1) := by decide +kernel
theorem dX8_plainRun_170 : decode cX8_plainRun 170 = .ok (.iaload, 1) := by decide +kernel
theorem dX8_plainRun_171 : decode cX8_plainRun 171 = .ok (.iload_n 3, 1) := by decide +kernel
theorem dX8_plainRun_172 : decode cX8_plainRun 172 = .ok (.iastore, 1) := by decide +kernel
theorem dX8_plainRun_173 : decode cX8_plainRun 173 = .ok (.aload_n 0, 1) := by decide +kernel
theorem dX8_plainRun_174 : decode cX8_plainRun 174 = .ok (.iload_n 1, 1) := by decide +kernel
theorem dX8_plainRun_175 : decode cX8_plainRun 175 = .ok (.invokevirtual 152, 3) := by decide +kernel
theorem dX8_plainRun_178 : decode cX8_plainRun 178 = .ok (.ifCond .eq 20, 3) := by decide +kernel
theorem dX8_plainRun_181 : decode cX8_plainRun 181 = .ok (.aload_n 0, 1) := by decide +kernel
theorem dX8_plainRun_182 : decode cX8_plainRun 182 = .ok (.getfield 51, 3) := by decide +kernel
theorem dX8_plainRun_185 : decode cX8_plainRun 185 = .ok (.aload_n 0, 1) := by decide +kernel
theorem dX8_plainRun_186 : decode cX8_plainRun 186 = .ok (.getfield 17, 3) := by decide +kernel
theorem dX8_plainRun_189 : decode cX8_plainRun 189 = .ok (.iload_n 1, 1) := by decide +kernel
theorem dX8_plainRun_190 : decode cX8_plainRun 190 = .ok (.iaload, 1) := by decide +kernel
theorem dX8_plainRun_191 : decode cX8_plainRun 191 = .ok (.aload_n 0, 1) := by decide +kernel
theorem dX8_plainRun_192 : decode cX8_plainRun 192 = .ok (.getfield 42, 3) := by decide +kernel
theorem dX8_plainRun_195 : decode cX8_plainRun 195 = .ok (.iconst 0, 1) := by decide +kernel
theorem dX8_plainRun_196 : decode cX8_plainRun 196 = .ok (.iaload, 1) := by decide +kernel
theorem dX8_plainRun_197 : decode cX8_plainRun 197 = .ok (.iastore, 1) := by decide +kernel
theorem dX8_plainRun_198 : decode cX8_plainRun 198 = .ok (.aload_n 0, 1) := by decide +kernel
theorem dX8_plainRun_199 : decode cX8_plainRun 199 = .ok (.getfield 13, 3) := by decide +kernel
theorem dX8_plainRun_202 : decode cX8_plainRun 202 = .ok (.iload_n 1, 1) := by decide +kernel
theorem dX8_plainRun_203 : decode cX8_plainRun 203 = .ok (.iaload, 1) := by decide +kernel
theorem dX8_plainRun_204 : decode cX8_plainRun 204 = .ok (.iconst 4, 1) := by decide +kernel
theorem dX8_plainRun_205 : decode cX8_plainRun 205 = .ok (.if_icmp .ne 26, 3) := by decide +kernel
theorem dX8_plainRun_208 : decode cX8_plainRun 208 = .ok (.iload_n 2, 1) := by decide +kernel
theorem dX8_plainRun_209 : decode cX8_plainRun 209 = .ok (.ifCond .eq 22, 3) := by decide +kernel
theorem dX8_plainRun_212 : decode cX8_plainRun 212 = .ok (.aload_n 0, 1) := by decide +kernel
theorem dX8_plainRun_213 : decode cX8_plainRun 213 = .ok (.getfield 48, 3) := by decide +kernel
theorem dX8_plainRun_216 : decode cX8_plainRun 216 = .ok (.iconst 0, 1) := by decide +kernel
theorem dX8_plainRun_217 : decode cX8_plainRun 217 = .ok (.aload_n 0, 1) := by decide +kernel
theorem dX8_plainRun_218 : decode cX8_plainRun 218 = .ok (.getfield 26, 3) := by decide +kernel
theorem dX8_plainRun_221 : decode cX8_plainRun 221 = .ok (.iload_n 1, 1) := by decide +kernel
theorem dX8_plainRun_222 : decode cX8_plainRun 222 = .ok (.iaload, 1) := by decide +kernel
theorem dX8_plainRun_223 : decode cX8_plainRun 223 = .ok (.aload_n 0, 1) := by decide +kernel
theorem dX8_plainRun_224 : decode cX8_plainRun 224 = .ok (.getfield 104, 3) := by decide +kernel
theorem dX8_plainRun_227 : decode cX8_plainRun 227 = .ok (.invokestatic 75, 3) := by decide +kernel
theorem dX8_plainRun_230 : decode cX8_plainRun 230 = .ok (.iastore, 1) := by decide +kernel
theorem dX8_plainRun_231 : decode cX8_plainRun 231 = .ok (.aload_n 0, 1) := by decide +kernel
theorem dX8_plainRun_232 : decode cX8_plainRun 232 = .ok (.getfield 13, 3) := by decide +kernel
theorem dX8_plainRun_235 : decode cX8_plainRun 235 = .ok (.iload_n 1, 1) := by decide +kernel
theorem dX8_plainRun_236 : decode cX8_plainRun 236 = .ok (.iaload, 1) := by decide +kernel
theorem dX8_plainRun_237 : decode cX8_plainRun 237 = .ok (.bipush 6, 2) := by decide +kernel
theorem dX8_plainRun_239 : decode cX8_plainRun 239 = .ok (.if_icmp .ne 8, 3) := by decide +kernel
theorem dX8_plainRun_242 : decode cX8_plainRun 242 = .ok (.aload_n 0, 1) := by decide +kernel
theorem dX8_plainRun_243 : decode cX8_plainRun 243 = .ok (.iconst 1, 1) := by decide +kernel
theorem dX8_plainRun_244 : decode cX8_plainRun 244 = .ok (.putfield 113, 3) := by decide +kernel
theorem dX8_plainRun_247 : decode cX8_plainRun 247 = .ok (.aload_n 0, 1) := by decide +kernel
theorem dX8_plainRun_248 : decode cX8_plainRun 248 = .ok (.getfield 13, 3) := by decide +kernel
theorem dX8_plainRun_251 : decode cX8_plainRun 251 = .ok (.iload_n 1, 1) := by decide +kernel
theorem dX8_plainRun_252 : decode cX8_plainRun 252 = .ok (.iaload, 1) := by decide +kernel
theorem dX8_plainRun_253 : decode cX8_plainRun 253 = .ok (.iconst 5, 1) := by decide +kernel
theorem dX8_plainRun_254 : decode cX8_plainRun 254 = .ok (.if_icmp .eq 12, 3) := by decide +kernel
theorem dX8_plainRun_257 : decode cX8_plainRun 257 = .ok (.aload_n 0, 1) := by decide +kernel
theorem dX8_plainRun_258 : decode cX8_plainRun 258 = .ok (.getfield 48, 3) := by decide +kernel
theorem dX8_plainRun_261 : decode cX8_plainRun 261 = .ok (.iconst 0, 1) := by decide +kernel
theorem dX8_plainRun_262 : decode cX8_plainRun 262 = .ok (.iaload, 1) := by decide +kernel
theorem dX8_plainRun_263 : decode cX8_plainRun 263 = .ok (.ifCond .lt 8, 3) := by decide +kernel
theorem dX8_plainRun_266 : decode cX8_plainRun 266 = .ok (.aload_n 0, 1) := by decide +kernel
theorem dX8_plainRun_267 : decode cX8_plainRun 267 = .ok (.iconst 1, 1) := by decide +kernel
theorem dX8_plainRun_268 : decode cX8_plainRun 268 = .ok (.putfield 110, 3) := by decide +kernel
theorem dX8_plainRun_271 : decode cX8_plainRun 271 = .ok (.return_, 1) := by decide +kernel
theorem dX8_fetch_0 : decode cX8_fetch 0 = .ok (.aload_n 0, 1) := by decide +kernel
theorem dX8_fetch_1 : decode cX8_fetch 1 = .ok (.getfield 164, 3) := by decide +kernel
theorem dX8_fetch_4 : decode cX8_fetch 4 = .ok (.ifCond .eq 19, 3) := by decide +kernel
theorem dX8_fetch_7 : decode cX8_fetch 7 = .ok (.aload_n 0, 1) := by decide +kernel
theorem dX8_fetch_8 : decode cX8_fetch 8 = .ok (.getfield 29, 3) := by decide +kernel
theorem dX8_fetch_11 : decode cX8_fetch 11 = .ok (.iconst 0, 1) := by decide +kernel
theorem dX8_fetch_12 : decode cX8_fetch 12 = .ok (.iaload, 1) := by decide +kernel
theorem dX8_fetch_13 : decode cX8_fetch 13 = .ok (.ifCond .ge 10, 3) := by decide +kernel
theorem dX8_fetch_16 : decode cX8_fetch 16 = .ok (.aload_n 0, 1) := by decide +kernel
theorem dX8_fetch_17 : decode cX8_fetch 17 = .ok (.getfield 113, 3) := by decide +kernel
theorem dX8_fetch_20 : decode cX8_fetch 20 = .ok (.ifCond .eq 4, 3) := by decide +kernel
theorem dX8_fetch_23 : decode cX8_fetch 23 = .ok (.return_, 1) := by decide +kernel
theorem dX8_fetch_24 : decode cX8_fetch 24 = .ok (.aload_n 0, 1) := by decide +kernel
theorem dX8_fetch_25 : decode cX8_fetch 25 = .ok (.getfield 107, 3) := by decide +kernel
theorem dX8_fetch_28 : decode cX8_fetch 28 = .ok (.istore_n 1, 1) := by decide +kernel
theorem dX8_fetch_29 : decode cX8_fetch 29 = .ok (.aload_n 0, 1) := by decide +kernel
theorem dX8_fetch_30 : decode cX8_fetch 30 = .ok (.aload_n 0, 1) := by decide +kernel
theorem dX8_fetch_31 : decode cX8_fetch 31 = .ok (.getfield 107, 3) := by decide +kernel
theorem dX8_fetch_34 : decode cX8_fetch 34 = .ok (.iconst 1, 1) := by decide +kernel
theorem dX8_fetch_35 : decode cX8_fetch 35 = .ok (.iadd, 1) := by decide +kernel
theorem dX8_fetch_36 : decode cX8_fetch 36 = .ok (.aload_n 0, 1) := by decide +kernel
theorem dX8_fetch_37 : decode cX8_fetch 37 = .ok (.getfield 104, 3) := by decide +kernel
theorem dX8_fetch_40 : decode cX8_fetch 40 = .ok (.irem, 1) := by decide +kernel
theorem dX8_fetch_41 : decode cX8_fetch 41 = .ok (.putfield 107, 3) := by decide +kernel
theorem dX8_fetch_44 : decode cX8_fetch 44 = .ok (.aload_n 0, 1) := by decide +kernel
theorem dX8_fetch_45 : decode cX8_fetch 45 = .ok (.dup, 1) := by decide +kernel
theorem dX8_fetch_46 : decode cX8_fetch 46 = .ok (.getfield 125, 3) := by decide +kernel
theorem dX8_fetch_49 : decode cX8_fetch 49 = .ok (.iconst 1, 1) := by decide +kernel
theorem dX8_fetch_50 : decode cX8_fetch 50 = .ok (.iadd, 1) := by decide +kernel
theorem dX8_fetch_51 : decode cX8_fetch 51 = .ok (.putfield 125, 3) := by decide +kernel
theorem dX8_fetch_54 : decode cX8_fetch 54 = .ok (.aload_n 0, 1) := by decide +kernel
theorem dX8_fetch_55 : decode cX8_fetch 55 = .ok (.getfield 29, 3) := by decide +kernel
theorem dX8_fetch_58 : decode cX8_fetch 58 = .ok (.iconst 0, 1) := by decide +kernel
theorem dX8_fetch_59 : decode cX8_fetch 59 = .ok (.iload_n 1, 1) := by decide +kernel
theorem dX8_fetch_60 : decode cX8_fetch 60 = .ok (.iastore, 1) := by decide +kernel
theorem dX8_fetch_61 : decode cX8_fetch 61 = .ok (.aload_n 0, 1) := by decide +kernel
theorem dX8_fetch_62 : decode cX8_fetch 62 = .ok (.getfield 32, 3) := by decide +kernel
theorem dX8_fetch_65 : decode cX8_fetch 65 = .ok (.iconst 0, 1) := by decide +kernel
theorem dX8_fetch_66 : decode cX8_fetch 66 = .ok (.aload_n 0, 1) := by decide +kernel
theorem dX8_fetch_67 : decode cX8_fetch 67 = .ok (.getfield 110, 3) := by decide +kernel
theorem dX8_fetch_70 : decode cX8_fetch 70 = .ok (.ifCond .ne 7, 3) := by decide +kernel
theorem dX8_fetch_73 : decode cX8_fetch 73 = .ok (.iconst 1, 1) := by decide +kernel
theorem dX8_fetch_74 : decode cX8_fetch 74 = .ok (.goto 4, 3) := by decide +kernel
theorem dX8_fetch_77 : decode cX8_fetch 77 = .ok (.iconst 0, 1) := by decide +kernel
theorem dX8_fetch_78 : decode cX8_fetch 78 = .ok (.bastore, 1) := by decide +kernel
theorem dX8_fetch_79 : decode cX8_fetch 79 = .ok (.aload_n 0, 1) := by decide +kernel
theorem dX8_fetch_80 : decode cX8_fetch 80 = .ok (.getfield 36, 3) := by decide +kernel
theorem dX8_fetch_83 : decode cX8_fetch 83 = .ok (.iconst 0, 1) := by decide +kernel
theorem dX8_fetch_84 : decode cX8_fetch 84 = .ok (.iconst 0, 1) := by decide +kernel
theorem dX8_fetch_85 : decode cX8_fetch 85 = .ok (.bastore, 1) := by decide +kernel
theorem dX8_fetch_86 : decode cX8_fetch 86 = .ok (.aload_n 0, 1) := by decide +kernel
theorem dX8_fetch_87 : decode cX8_fetch 87 = .ok (.getfield 39, 3) := by decide +kernel
theorem dX8_fetch_90 : decode cX8_fetch 90 = .ok (.iconst 0, 1) := by decide +kernel
theorem dX8_fetch_91 : decode cX8_fetch 91 = .ok (.iconst 0, 1) := by decide +kernel
theorem dX8_fetch_92 : decode cX8_fetch 92 = .ok (.iastore, 1) := by decide +kernel
theorem dX8_fetch_93 : decode cX8_fetch 93 = .ok (.aload_n 0, 1) := by decide +kernel
theorem dX8_fetch_94 : decode cX8_fetch 94 = .ok (.getfield 32, 3) := by decide +kernel
theorem dX8_fetch_97 : decode cX8_fetch 97 = .ok (.iconst 0, 1) := by decide +kernel
theorem dX8_fetch_98 : decode cX8_fetch 98 = .ok (.baload, 1) := by decide +kernel
theorem dX8_fetch_99 : decode cX8_fetch 99 = .ok (.ifCond .eq 8, 3) := by decide +kernel
theorem dX8_fetch_102 : decode cX8_fetch 102 = .ok (.aload_n 0, 1) := by decide +kernel
theorem dX8_fetch_103 : decode cX8_fetch 103 = .ok (.iload_n 1, 1) := by decide +kernel
theorem dX8_fetch_104 : decode cX8_fetch 104 = .ok (.invokevirtual 194, 3) := by decide +kernel
theorem dX8_fetch_107 : decode cX8_fetch 107 = .ok (.return_, 1) := by decide +kernel
theorem dX8_cycle_0 : decode cX8_cycle 0 = .ok (.aload_n 0, 1) := by decide +kernel
theorem dX8_cycle_1 : decode cX8_cycle 1 = .ok (.dup, 1) := by decide +kernel
theorem dX8_cycle_2 : decode cX8_cycle 2 = .ok (.getfield 119, 3) := by decide +kernel
theorem dX8_cycle_5 : decode cX8_cycle 5 = .ok (.iconst 1, 1) := by decide +kernel
theorem dX8_cycle_6 : decode cX8_cycle 6 = .ok (.iadd, 1) := by decide +kernel
theorem dX8_cycle_7 : decode cX8_cycle 7 = .ok (.putfield 119, 3) := by decide +kernel
theorem dX8_cycle_10 : decode cX8_cycle 10 = .ok (.aload_n 0, 1) := by decide +kernel
theorem dX8_cycle_11 : decode cX8_cycle 11 = .ok (.iconst 1, 1) := by decide +kernel
theorem dX8_cycle_12 : decode cX8_cycle 12 = .ok (.putfield 164, 3) := by decide +kernel
theorem dX8_cycle_15 : decode cX8_cycle 15 = .ok (.aload_n 0, 1) := by decide +kernel
theorem dX8_cycle_16 : decode cX8_cycle 16 = .ok (.invokevirtual 197, 3) := by decide +kernel
theorem dX8_cycle_19 : decode cX8_cycle 19 = .ok (.istore_n 1, 1) := by decide +kernel
theorem dX8_cycle_20 : decode cX8_cycle 20 = .ok (.aload_n 0, 1) := by decide +kernel
theorem dX8_cycle_21 : decode cX8_cycle 21 = .ok (.getfield 116, 3) := by decide +kernel
theorem dX8_cycle_24 : decode cX8_cycle 24 = .ok (.ifCond .ne 23, 3) := by decide +kernel
theorem dX8_cycle_27 : decode cX8_cycle 27 = .ok (.aload_n 0, 1) := by decide +kernel
theorem dX8_cycle_28 : decode cX8_cycle 28 = .ok (.invokevirtual 200, 3) := by decide +kernel
theorem dX8_cycle_31 : decode cX8_cycle 31 = .ok (.istore_n 2, 1) := by decide +kernel
theorem dX8_cycle_32 : decode cX8_cycle 32 = .ok (.iload_n 1, 1) := by decide +kernel
theorem dX8_cycle_33 : decode cX8_cycle 33 = .ok (.iconst 4, 1) := by decide +kernel
theorem dX8_cycle_34 : decode cX8_cycle 34 = .ok (.if_icmp .ge 7, 3) := by decide +kernel
theorem dX8_cycle_37 : decode cX8_cycle 37 = .ok (.iload_n 1, 1) := by decide +kernel
theorem dX8_cycle_38 : decode cX8_cycle 38 = .ok (.goto 4, 3) := by decide +kernel
theorem dX8_cycle_41 : decode cX8_cycle 41 = .ok (.iload_n 2, 1) := by decide +kernel
theorem dX8_cycle_42 : decode cX8_cycle 42 = .ok (.istore_n 1, 1) := by decide +kernel
theorem dX8_cycle_43 : decode cX8_cycle 43 = .ok (.aload_n 0, 1) := by decide +kernel
theorem dX8_cycle_44 : decode cX8_cycle 44 = .ok (.invokevirtual 203, 3) := by decide +kernel
theorem dX8_cycle_47 : decode cX8_cycle 47 = .ok (.aload_n 0, 1) := by decide +kernel
theorem dX8_cycle_48 : decode cX8_cycle 48 = .ok (.getfield 63, 3) := by decide +kernel
theorem dX8_cycle_51 : decode cX8_cycle 51 = .ok (.iload_n 1, 1) := by decide +kernel
theorem dX8_cycle_52 : decode cX8_cycle 52 = .ok (.dup2, 1) := by decide +kernel
theorem dX8_cycle_53 : decode cX8_cycle 53 = .ok (.iaload, 1) := by decide +kernel
theorem dX8_cycle_54 : decode cX8_cycle 54 = .ok (.iconst 1, 1) := by decide +kernel
theorem dX8_cycle_55 : decode cX8_cycle 55 = .ok (.iadd, 1) := by decide +kernel
theorem dX8_cycle_56 : decode cX8_cycle 56 = .ok (.iastore, 1) := by decide +kernel
theorem dX8_cycle_57 : decode cX8_cycle 57 = .ok (.return_, 1) := by decide +kernel
theorem dX8_run_0 : decode cX8_run 0 = .ok (.aload_n 0, 1) := by decide +kernel
theorem dX8_run_1 : decode cX8_run 1 = .ok (.iconst 0, 1) := by decide +kernel
theorem dX8_run_2 : decode cX8_run 2 = .ok (.putfield 101, 3) := by decide +kernel
theorem dX8_run_5 : decode cX8_run 5 = .ok (.iload_n 1, 1) := by decide +kernel
theorem dX8_run_6 : decode cX8_run 6 = .ok (.iconst 1, 1) := by decide +kernel
theorem dX8_run_7 : decode cX8_run 7 = .ok (.sipush 2000, 3) := by decide +kernel
theorem dX8_run_10 : decode cX8_run 10 = .ok (.invokestatic 137, 3) := by decide +kernel
theorem dX8_run_13 : decode cX8_run 13 = .ok (.ifCond .ne 9, 3) := by decide +kernel
theorem dX8_run_16 : decode cX8_run 16 = .ok (.aload_n 0, 1) := by decide +kernel
theorem dX8_run_17 : decode cX8_run 17 = .ok (.iconst 1, 1) := by decide +kernel
theorem dX8_run_18 : decode cX8_run 18 = .ok (.invokevirtual 145, 3) := by decide +kernel
theorem dX8_run_21 : decode cX8_run 21 = .ok (.ireturn, 1) := by decide +kernel
theorem dX8_run_22 : decode cX8_run 22 = .ok (.aload_n 0, 1) := by decide +kernel
theorem dX8_run_23 : decode cX8_run 23 = .ok (.getfield 104, 3) := by decide +kernel
theorem dX8_run_26 : decode cX8_run 26 = .ok (.ifCond .ne 9, 3) := by decide +kernel
theorem dX8_run_29 : decode cX8_run 29 = .ok (.aload_n 0, 1) := by decide +kernel
theorem dX8_run_30 : decode cX8_run 30 = .ok (.iconst 2, 1) := by decide +kernel
theorem dX8_run_31 : decode cX8_run 31 = .ok (.invokevirtual 145, 3) := by decide +kernel
theorem dX8_run_34 : decode cX8_run 34 = .ok (.ireturn, 1) := by decide +kernel
theorem dX8_run_35 : decode cX8_run 35 = .ok (.iconst 0, 1) := by decide +kernel
theorem dX8_run_36 : decode cX8_run 36 = .ok (.istore_n 2, 1) := by decide +kernel
theorem dX8_run_37 : decode cX8_run 37 = .ok (.iload_n 2, 1) := by decide +kernel
theorem dX8_run_38 : decode cX8_run 38 = .ok (.iload_n 1, 1) := by decide +kernel
theorem dX8_run_39 : decode cX8_run 39 = .ok (.if_icmp .ge 20, 3) := by decide +kernel
theorem dX8_run_42 : decode cX8_run 42 = .ok (.aload_n 0, 1) := by decide +kernel
theorem dX8_run_43 : decode cX8_run 43 = .ok (.getfield 116, 3) := by decide +kernel
theorem dX8_run_46 : decode cX8_run 46 = .ok (.ifCond .ne 13, 3) := by decide +kernel
theorem dX8_run_49 : decode cX8_run 49 = .ok (.aload_n 0, 1) := by decide +kernel
theorem dX8_run_50 : decode cX8_run 50 = .ok (.invokevirtual 206, 3) := by decide +kernel
theorem dX8_run_53 : decode cX8_run 53 = .ok (.iinc 2 1, 3) := by decide +kernel
theorem dX8_run_56 : decode cX8_run 56 = .ok (.goto (-19), 3) := by decide +kernel
theorem dX8_run_59 : decode cX8_run 59 = .ok (.iload_n 2, 1) := by decide +kernel
theorem dX8_run_60 : decode cX8_run 60 = .ok (.ireturn, 1) := by decide +kernel
theorem dX8_stage_0 : decode cX8_stage 0 = .ok (.aload_n 0, 1) := by decide +kernel
theorem dX8_stage_1 : decode cX8_stage 1 = .ok (.iconst 0, 1) := by decide +kernel
theorem dX8_stage_2 : decode cX8_stage 2 = .ok (.putfield 101, 3) := by decide +kernel
theorem dX8_stage_5 : decode cX8_stage 5 = .ok (.iload_n 1, 1) := by decide +kernel
theorem dX8_stage_6 : decode cX8_stage 6 = .ok (.iconst 0, 1) := by decide +kernel
theorem dX8_stage_7 : decode cX8_stage 7 = .ok (.aload_n 0, 1) := by decide +kernel
theorem dX8_stage_8 : decode cX8_stage 8 = .ok (.getfield 79, 3) := by decide +kernel
theorem dX8_stage_11 : decode cX8_stage 11 = .ok (.iconst 1, 1) := by decide +kernel
theorem dX8_stage_12 : decode cX8_stage 12 = .ok (.isub, 1) := by decide +kernel
theorem dX8_stage_13 : decode cX8_stage 13 = .ok (.invokestatic 137, 3) := by decide +kernel
theorem dX8_stage_16 : decode cX8_stage 16 = .ok (.ifCond .eq 12, 3) := by decide +kernel
theorem dX8_stage_19 : decode cX8_stage 19 = .ok (.iload_n 2, 1) := by decide +kernel
theorem dX8_stage_20 : decode cX8_stage 20 = .ok (.iconst 0, 1) := by decide +kernel
theorem dX8_stage_21 : decode cX8_stage 21 = .ok (.iconst 1, 1) := by decide +kernel
theorem dX8_stage_22 : decode cX8_stage 22 = .ok (.invokestatic 137, 3) := by decide +kernel
theorem dX8_stage_25 : decode cX8_stage 25 = .ok (.ifCond .ne 9, 3) := by decide +kernel
theorem dX8_stage_28 : decode cX8_stage 28 = .ok (.aload_n 0, 1) := by decide +kernel
theorem dX8_stage_29 : decode cX8_stage 29 = .ok (.iconst 1, 1) := by decide +kernel
theorem dX8_stage_30 : decode cX8_stage 30 = .ok (.invokevirtual 145, 3) := by decide +kernel
theorem dX8_stage_33 : decode cX8_stage 33 = .ok (.ireturn, 1) := by decide +kernel
theorem dX8_stage_34 : decode cX8_stage 34 = .ok (.iload_n 2, 1) := by decide +kernel
theorem dX8_stage_35 : decode cX8_stage 35 = .ok (.ifCond .ne 12, 3) := by decide +kernel
theorem dX8_stage_38 : decode cX8_stage 38 = .ok (.aload_n 0, 1) := by decide +kernel
theorem dX8_stage_39 : decode cX8_stage 39 = .ok (.getfield 29, 3) := by decide +kernel
theorem dX8_stage_42 : decode cX8_stage 42 = .ok (.iload_n 1, 1) := by decide +kernel
theorem dX8_stage_43 : decode cX8_stage 43 = .ok (.iaload, 1) := by decide +kernel
theorem dX8_stage_44 : decode cX8_stage 44 = .ok (.goto 26, 3) := by decide +kernel
theorem dX8_stage_47 : decode cX8_stage 47 = .ok (.aload_n 0, 1) := by decide +kernel
theorem dX8_stage_48 : decode cX8_stage 48 = .ok (.getfield 29, 3) := by decide +kernel
theorem dX8_stage_51 : decode cX8_stage 51 = .ok (.iload_n 1, 1) := by decide +kernel
theorem dX8_stage_52 : decode cX8_stage 52 = .ok (.iaload, 1) := by decide +kernel
theorem dX8_stage_53 : decode cX8_stage 53 = .ok (.ifCond .lt 16, 3) := by decide +kernel
theorem dX8_stage_56 : decode cX8_stage 56 = .ok (.aload_n 0, 1) := by decide +kernel
theorem dX8_stage_57 : decode cX8_stage 57 = .ok (.getfield 32, 3) := by decide +kernel
theorem dX8_stage_60 : decode cX8_stage 60 = .ok (.iload_n 1, 1) := by decide +kernel
theorem dX8_stage_61 : decode cX8_stage 61 = .ok (.baload, 1) := by decide +kernel
theorem dX8_stage_62 : decode cX8_stage 62 = .ok (.ifCond .eq 7, 3) := by decide +kernel
theorem dX8_stage_65 : decode cX8_stage 65 = .ok (.iconst 1, 1) := by decide +kernel
theorem dX8_stage_66 : decode cX8_stage 66 = .ok (.goto 4, 3) := by decide +kernel
theorem dX8_stage_69 : decode cX8_stage 69 = .ok (.iconst 0, 1) := by decide +kernel
theorem dX8_stage_70 : decode cX8_stage 70 = .ok (.ireturn, 1) := by decide +kernel
theorem dX8_committed_0 : decode cX8_committed 0 = .ok (.aload_n 0, 1) := by decide +kernel
theorem dX8_committed_1 : decode cX8_committed 1 = .ok (.iconst 0, 1) := by decide +kernel
theorem dX8_committed_2 : decode cX8_committed 2 = .ok (.putfield 101, 3) := by decide +kernel
theorem dX8_committed_5 : decode cX8_committed 5 = .ok (.aload_n 0, 1) := by decide +kernel
theorem dX8_committed_6 : decode cX8_committed 6 = .ok (.getfield 122, 3) := by decide +kernel
theorem dX8_committed_9 : decode cX8_committed 9 = .ok (.sipush 400, 3) := by decide +kernel
theorem dX8_committed_12 : decode cX8_committed 12 = .ok (.if_icmp .ge 10, 3) := by decide +kernel
theorem dX8_committed_15 : decode cX8_committed 15 = .ok (.aload_n 0, 1) := by decide +kernel
theorem dX8_committed_16 : decode cX8_committed 16 = .ok (.getfield 122, 3) := by decide +kernel
theorem dX8_committed_19 : decode cX8_committed 19 = .ok (.goto 6, 3) := by decide +kernel
theorem dX8_committed_22 : decode cX8_committed 22 = .ok (.sipush 400, 3) := by decide +kernel
theorem dX8_committed_25 : decode cX8_committed 25 = .ok (.istore_n 3, 1) := by decide +kernel
theorem dX8_committed_26 : decode cX8_committed 26 = .ok (.iload_n 1, 1) := by decide +kernel
theorem dX8_committed_27 : decode cX8_committed 27 = .ok (.iconst 0, 1) := by decide +kernel
theorem dX8_committed_28 : decode cX8_committed 28 = .ok (.iload_n 3, 1) := by decide +kernel
theorem dX8_committed_29 : decode cX8_committed 29 = .ok (.iconst 1, 1) := by decide +kernel
theorem dX8_committed_30 : decode cX8_committed 30 = .ok (.isub, 1) := by decide +kernel
theorem dX8_committed_31 : decode cX8_committed 31 = .ok (.invokestatic 137, 3) := by decide +kernel
theorem dX8_committed_34 : decode cX8_committed 34 = .ok (.ifCond .eq 12, 3) := by decide +kernel
theorem dX8_committed_37 : decode cX8_committed 37 = .ok (.iload_n 2, 1) := by decide +kernel
theorem dX8_committed_38 : decode cX8_committed 38 = .ok (.iconst 0, 1) := by decide +kernel
theorem dX8_committed_39 : decode cX8_committed 39 = .ok (.iconst 2, 1) := by decide +kernel
theorem dX8_committed_40 : decode cX8_committed 40 = .ok (.invokestatic 137, 3) := by decide +kernel
theorem dX8_committed_43 : decode cX8_committed 43 = .ok (.ifCond .ne 9, 3) := by decide +kernel
theorem dX8_committed_46 : decode cX8_committed 46 = .ok (.aload_n 0, 1) := by decide +kernel
theorem dX8_committed_47 : decode cX8_committed 47 = .ok (.iconst 1, 1) := by decide +kernel
theorem dX8_committed_48 : decode cX8_committed 48 = .ok (.invokevirtual 145, 3) := by decide +kernel
theorem dX8_committed_51 : decode cX8_committed 51 = .ok (.ireturn, 1) := by decide +kernel
theorem dX8_committed_52 : decode cX8_committed 52 = .ok (.aload_n 0, 1) := by decide +kernel
theorem dX8_committed_53 : decode cX8_committed 53 = .ok (.getfield 122, 3) := by decide +kernel
theorem dX8_committed_56 : decode cX8_committed 56 = .ok (.iload_n 3, 1) := by decide +kernel
theorem dX8_committed_57 : decode cX8_committed 57 = .ok (.isub, 1) := by decide +kernel
theorem dX8_committed_58 : decode cX8_committed 58 = .ok (.iload_n 1, 1) := by decide +kernel
theorem dX8_committed_59 : decode cX8_committed 59 = .ok (.iadd, 1) := by decide +kernel
theorem dX8_committed_60 : decode cX8_committed 60 = .ok (.sipush 400, 3) := by decide +kernel
theorem dX8_committed_63 : decode cX8_committed 63 = .ok (.irem, 1) := by decide +kernel
theorem dX8_committed_64 : decode cX8_committed 64 = .ok (.istore 4, 2) := by decide +kernel
theorem dX8_committed_66 : decode cX8_committed 66 = .ok (.iload_n 2, 1) := by decide +kernel
theorem dX8_committed_67 : decode cX8_committed 67 = .ok (.ifCond .ne 13, 3) := by decide +kernel
theorem dX8_committed_70 : decode cX8_committed 70 = .ok (.aload_n 0, 1) := by decide +kernel
theorem dX8_committed_71 : decode cX8_committed 71 = .ok (.getfield 66, 3) := by decide +kernel
theorem dX8_committed_74 : decode cX8_committed 74 = .ok (.iload 4, 2) := by decide +kernel
theorem dX8_committed_76 : decode cX8_committed 76 = .ok (.iaload, 1) := by decide +kernel
theorem dX8_committed_77 : decode cX8_committed 77 = .ok (.goto 25, 3) := by decide +kernel
theorem dX8_committed_80 : decode cX8_committed 80 = .ok (.iload_n 2, 1) := by decide +kernel
theorem dX8_committed_81 : decode cX8_committed 81 = .ok (.iconst 1, 1) := by decide +kernel
theorem dX8_committed_82 : decode cX8_committed 82 = .ok (.if_icmp .ne 13, 3) := by decide +kernel
theorem dX8_committed_85 : decode cX8_committed 85 = .ok (.aload_n 0, 1) := by decide +kernel
theorem dX8_committed_86 : decode cX8_committed 86 = .ok (.getfield 69, 3) := by decide +kernel
theorem dX8_committed_89 : decode cX8_committed 89 = .ok (.iload 4, 2) := by decide +kernel
theorem dX8_committed_91 : decode cX8_committed 91 = .ok (.iaload, 1) := by decide +kernel
theorem dX8_committed_92 : decode cX8_committed 92 = .ok (.goto 10, 3) := by decide +kernel
theorem dX8_committed_95 : decode cX8_committed 95 = .ok (.aload_n 0, 1) := by decide +kernel
theorem dX8_committed_96 : decode cX8_committed 96 = .ok (.getfield 72, 3) := by decide +kernel
theorem dX8_committed_99 : decode cX8_committed 99 = .ok (.iload 4, 2) := by decide +kernel
theorem dX8_committed_101 : decode cX8_committed 101 = .ok (.iaload, 1) := by decide +kernel
theorem dX8_committed_102 : decode cX8_committed 102 = .ok (.ireturn, 1) := by decide +kernel
theorem dX8_register_0 : decode cX8_register 0 = .ok (.aload_n 0, 1) := by decide +kernel
theorem dX8_register_1 : decode cX8_register 1 = .ok (.iconst 0, 1) := by decide +kernel
theorem dX8_register_2 : decode cX8_register 2 = .ok (.putfield 101, 3) := by decide +kernel
theorem dX8_register_5 : decode cX8_register 5 = .ok (.iload_n 1, 1) := by decide +kernel
theorem dX8_register_6 : decode cX8_register 6 = .ok (.invokestatic 141, 3) := by decide +kernel
theorem dX8_register_9 : decode cX8_register 9 = .ok (.ifCond .eq 12, 3) := by decide +kernel
theorem dX8_register_12 : decode cX8_register 12 = .ok (.aload_n 0, 1) := by decide +kernel
theorem dX8_register_13 : decode cX8_register 13 = .ok (.getfield 57, 3) := by decide +kernel
theorem dX8_register_16 : decode cX8_register 16 = .ok (.iload_n 1, 1) := by decide +kernel
theorem dX8_register_17 : decode cX8_register 17 = .ok (.iaload, 1) := by decide +kernel
theorem dX8_register_18 : decode cX8_register 18 = .ok (.goto 8, 3) := by decide +kernel
theorem dX8_register_21 : decode cX8_register 21 = .ok (.aload_n 0, 1) := by decide +kernel
theorem dX8_register_22 : decode cX8_register 22 = .ok (.iconst 1, 1) := by decide +kernel
theorem dX8_register_23 : decode cX8_register 23 = .ok (.invokevirtual 145, 3) := by decide +kernel
theorem dX8_register_26 : decode cX8_register 26 = .ok (.ireturn, 1) := by decide +kernel
theorem dX8_memory_0 : decode cX8_memory 0 = .ok (.aload_n 0, 1) := by decide +kernel
theorem dX8_memory_1 : decode cX8_memory 1 = .ok (.iconst 0, 1) := by decide +kernel
theorem dX8_memory_2 : decode cX8_memory 2 = .ok (.putfield 101, 3) := by decide +kernel
theorem dX8_memory_5 : decode cX8_memory 5 = .ok (.iload_n 1, 1) := by decide +kernel
theorem dX8_memory_6 : decode cX8_memory 6 = .ok (.iconst 0, 1) := by decide +kernel
theorem dX8_memory_7 : decode cX8_memory 7 = .ok (.bipush 63, 2) := by decide +kernel
theorem dX8_memory_9 : decode cX8_memory 9 = .ok (.invokestatic 137, 3) := by decide +kernel
theorem dX8_memory_12 : decode cX8_memory 12 = .ok (.ifCond .eq 12, 3) := by decide +kernel
theorem dX8_memory_15 : decode cX8_memory 15 = .ok (.aload_n 0, 1) := by decide +kernel
theorem dX8_memory_16 : decode cX8_memory 16 = .ok (.getfield 60, 3) := by decide +kernel
theorem dX8_memory_19 : decode cX8_memory 19 = .ok (.iload_n 1, 1) := by decide +kernel
theorem dX8_memory_20 : decode cX8_memory 20 = .ok (.iaload, 1) := by decide +kernel
theorem dX8_memory_21 : decode cX8_memory 21 = .ok (.goto 8, 3) := by decide +kernel
theorem dX8_memory_24 : decode cX8_memory 24 = .ok (.aload_n 0, 1) := by decide +kernel
theorem dX8_memory_25 : decode cX8_memory 25 = .ok (.iconst 1, 1) := by decide +kernel
theorem dX8_memory_26 : decode cX8_memory 26 = .ok (.invokevirtual 145, 3) := by decide +kernel
theorem dX8_memory_29 : decode cX8_memory 29 = .ok (.ireturn, 1) := by decide +kernel
theorem dX8_cause_0 : decode cX8_cause 0 = .ok (.aload_n 0, 1) := by decide +kernel
theorem dX8_cause_1 : decode cX8_cause 1 = .ok (.iconst 0, 1) := by decide +kernel
theorem dX8_cause_2 : decode cX8_cause 2 = .ok (.putfield 101, 3) := by decide +kernel
theorem dX8_cause_5 : decode cX8_cause 5 = .ok (.iload_n 1, 1) := by decide +kernel
theorem dX8_cause_6 : decode cX8_cause 6 = .ok (.iconst 0, 1) := by decide +kernel
theorem dX8_cause_7 : decode cX8_cause 7 = .ok (.iconst 4, 1) := by decide +kernel
theorem dX8_cause_8 : decode cX8_cause 8 = .ok (.invokestatic 137, 3) := by decide +kernel
theorem dX8_cause_11 : decode cX8_cause 11 = .ok (.ifCond .eq 12, 3) := by decide +kernel
theorem dX8_cause_14 : decode cX8_cause 14 = .ok (.aload_n 0, 1) := by decide +kernel
theorem dX8_cause_15 : decode cX8_cause 15 = .ok (.getfield 63, 3) := by decide +kernel
theorem dX8_cause_18 : decode cX8_cause 18 = .ok (.iload_n 1, 1) := by decide +kernel
theorem dX8_cause_19 : decode cX8_cause 19 = .ok (.iaload, 1) := by decide +kernel
theorem dX8_cause_20 : decode cX8_cause 20 = .ok (.goto 8, 3) := by decide +kernel
theorem dX8_cause_23 : decode cX8_cause 23 = .ok (.aload_n 0, 1) := by decide +kernel
theorem dX8_cause_24 : decode cX8_cause 24 = .ok (.iconst 1, 1) := by decide +kernel
theorem dX8_cause_25 : decode cX8_cause 25 = .ok (.invokevirtual 145, 3) := by decide +kernel
theorem dX8_cause_28 : decode cX8_cause 28 = .ok (.ireturn, 1) := by decide +kernel
theorem dX8_count_0 : decode cX8_count 0 = .ok (.aload_n 0, 1) := by decide +kernel
theorem dX8_count_1 : decode cX8_count 1 = .ok (.iconst 0, 1) := by decide +kernel
theorem dX8_count_2 : decode cX8_count 2 = .ok (.putfield 101, 3) := by decide +kernel
theorem dX8_count_5 : decode cX8_count 5 = .ok (.iload_n 1, 1) := by decide +kernel
theorem dX8_count_6 : decode cX8_count 6 = .ok (.tableswitch 148 0 13 #[70, 75, 80, 85, 90, 95, 108, 113, 118, 123, 128, 133, 138, 143], 70) := by decide +kernel
theorem dX8_count_76 : decode cX8_count 76 = .ok (.aload_n 0, 1) := by decide +kernel
theorem dX8_count_77 : decode cX8_count 77 = .ok (.getfield 119, 3) := by decide +kernel
theorem dX8_count_80 : decode cX8_count 80 = .ok (.ireturn, 1) := by decide +kernel
theorem dX8_count_81 : decode cX8_count 81 = .ok (.aload_n 0, 1) := by decide +kernel
theorem dX8_count_82 : decode cX8_count 82 = .ok (.getfield 122, 3) := by decide +kernel
theorem dX8_count_85 : decode cX8_count 85 = .ok (.ireturn, 1) := by decide +kernel
theorem dX8_count_86 : decode cX8_count 86 = .ok (.aload_n 0, 1) := by decide +kernel
theorem dX8_count_87 : decode cX8_count 87 = .ok (.getfield 125, 3) := by decide +kernel
theorem dX8_count_90 : decode cX8_count 90 = .ok (.ireturn, 1) := by decide +kernel
theorem dX8_count_91 : decode cX8_count 91 = .ok (.aload_n 0, 1) := by decide +kernel
theorem dX8_count_92 : decode cX8_count 92 = .ok (.getfield 128, 3) := by decide +kernel
theorem dX8_count_95 : decode cX8_count 95 = .ok (.ireturn, 1) := by decide +kernel
theorem dX8_count_96 : decode cX8_count 96 = .ok (.aload_n 0, 1) := by decide +kernel
theorem dX8_count_97 : decode cX8_count 97 = .ok (.getfield 131, 3) := by decide +kernel
theorem dX8_count_100 : decode cX8_count 100 = .ok (.ireturn, 1) := by decide +kernel
theorem dX8_count_101 : decode cX8_count 101 = .ok (.aload_n 0, 1) := by decide +kernel
theorem dX8_count_102 : decode cX8_count 102 = .ok (.getfield 116, 3) := by decide +kernel
theorem dX8_count_105 : decode cX8_count 105 = .ok (.ifCond .eq 7, 3) := by decide +kernel
theorem dX8_count_108 : decode cX8_count 108 = .ok (.iconst 1, 1) := by decide +kernel
theorem dX8_count_109 : decode cX8_count 109 = .ok (.goto 4, 3) := by decide +kernel
theorem dX8_count_112 : decode cX8_count 112 = .ok (.iconst 0, 1) := by decide +kernel
theorem dX8_count_113 : decode cX8_count 113 = .ok (.ireturn, 1) := by decide +kernel
theorem dX8_count_114 : decode cX8_count 114 = .ok (.aload_n 0, 1) := by decide +kernel
theorem dX8_count_115 : decode cX8_count 115 = .ok (.getfield 79, 3) := by decide +kernel
theorem dX8_count_118 : decode cX8_count 118 = .ok (.ireturn, 1) := by decide +kernel
theorem dX8_count_119 : decode cX8_count 119 = .ok (.aload_n 0, 1) := by decide +kernel
theorem dX8_count_120 : decode cX8_count 120 = .ok (.getfield 83, 3) := by decide +kernel
theorem dX8_count_123 : decode cX8_count 123 = .ok (.ireturn, 1) := by decide +kernel
theorem dX8_count_124 : decode cX8_count 124 = .ok (.aload_n 0, 1) := by decide +kernel
theorem dX8_count_125 : decode cX8_count 125 = .ok (.getfield 86, 3) := by decide +kernel
theorem dX8_count_128 : decode cX8_count 128 = .ok (.ireturn, 1) := by decide +kernel
theorem dX8_count_129 : decode cX8_count 129 = .ok (.aload_n 0, 1) := by decide +kernel
theorem dX8_count_130 : decode cX8_count 130 = .ok (.getfield 89, 3) := by decide +kernel
theorem dX8_count_133 : decode cX8_count 133 = .ok (.ireturn, 1) := by decide +kernel
theorem dX8_count_134 : decode cX8_count 134 = .ok (.aload_n 0, 1) := by decide +kernel
theorem dX8_count_135 : decode cX8_count 135 = .ok (.getfield 92, 3) := by decide +kernel
theorem dX8_count_138 : decode cX8_count 138 = .ok (.ireturn, 1) := by decide +kernel
theorem dX8_count_139 : decode cX8_count 139 = .ok (.aload_n 0, 1) := by decide +kernel
theorem dX8_count_140 : decode cX8_count 140 = .ok (.getfield 95, 3) := by decide +kernel
theorem dX8_count_143 : decode cX8_count 143 = .ok (.ireturn, 1) := by decide +kernel
theorem dX8_count_144 : decode cX8_count 144 = .ok (.aload_n 0, 1) := by decide +kernel
theorem dX8_count_145 : decode cX8_count 145 = .ok (.getfield 104, 3) := by decide +kernel
theorem dX8_count_148 : decode cX8_count 148 = .ok (.ireturn, 1) := by decide +kernel
theorem dX8_count_149 : decode cX8_count 149 = .ok (.aload_n 0, 1) := by decide +kernel
theorem dX8_count_150 : decode cX8_count 150 = .ok (.getfield 134, 3) := by decide +kernel
theorem dX8_count_153 : decode cX8_count 153 = .ok (.ireturn, 1) := by decide +kernel
theorem dX8_count_154 : decode cX8_count 154 = .ok (.iconst (-1), 1) := by decide +kernel
theorem dX8_count_155 : decode cX8_count 155 = .ok (.ireturn, 1) := by decide +kernel

theorem dX1_isThere_81 : decode cX1_isThere 81 = .ok (.iinc 2 1, 3) := by decide +kernel
theorem dX1_isThere_84 : decode cX1_isThere 84 = .ok (.goto (-67), 3) := by decide +kernel
theorem dX1_isThere_87 : decode cX1_isThere 87 = .ok (.iconst 1, 1) := by decide +kernel
theorem dX1_isThere_88 : decode cX1_isThere 88 = .ok (.ireturn, 1) := by decide +kernel
theorem dX1_fetch_0 : decode cX1_fetch 0 = .ok (.aload_n 0, 1) := by decide +kernel
theorem dX1_fetch_1 : decode cX1_fetch 1 = .ok (.getfield 72, 3) := by decide +kernel
theorem dX1_fetch_4 : decode cX1_fetch 4 = .ok (.ifCond .ne 22, 3) := by decide +kernel
theorem dX1_fetch_7 : decode cX1_fetch 7 = .ok (.aload_n 0, 1) := by decide +kernel
theorem dX1_fetch_8 : decode cX1_fetch 8 = .ok (.getfield 69, 3) := by decide +kernel
theorem dX1_fetch_11 : decode cX1_fetch 11 = .ok (.ifCond .ne 15, 3) := by decide +kernel
theorem dX1_fetch_14 : decode cX1_fetch 14 = .ok (.aload_n 0, 1) := by decide +kernel
theorem dX1_fetch_15 : decode cX1_fetch 15 = .ok (.getfield 12, 3) := by decide +kernel
theorem dX1_fetch_18 : decode cX1_fetch 18 = .ok (.iconst 0, 1) := by decide +kernel
theorem dX1_fetch_19 : decode cX1_fetch 19 = .ok (.invokevirtual 103, 3) := by decide +kernel
theorem dX1_fetch_22 : decode cX1_fetch 22 = .ok (.iconst (-1), 1) := by decide +kernel
theorem dX1_fetch_23 : decode cX1_fetch 23 = .ok (.if_icmp .eq 4, 3) := by decide +kernel
theorem dX1_fetch_26 : decode cX1_fetch 26 = .ok (.return_, 1) := by decide +kernel
theorem dX1_fetch_27 : decode cX1_fetch 27 = .ok (.aload_n 0, 1) := by decide +kernel
theorem dX1_fetch_28 : decode cX1_fetch 28 = .ok (.getfield 62, 3) := by decide +kernel
theorem dX1_fetch_31 : decode cX1_fetch 31 = .ok (.istore_n 1, 1) := by decide +kernel
theorem dX1_fetch_32 : decode cX1_fetch 32 = .ok (.aload_n 0, 1) := by decide +kernel
theorem dX1_fetch_33 : decode cX1_fetch 33 = .ok (.getfield 66, 3) := by decide +kernel
theorem dX1_fetch_36 : decode cX1_fetch 36 = .ok (.ifCond .ne 7, 3) := by decide +kernel
theorem dX1_fetch_39 : decode cX1_fetch 39 = .ok (.iconst 1, 1) := by decide +kernel
theorem dX1_fetch_40 : decode cX1_fetch 40 = .ok (.goto 4, 3) := by decide +kernel
theorem dX1_fetch_43 : decode cX1_fetch 43 = .ok (.iconst 0, 1) := by decide +kernel
theorem dX1_fetch_44 : decode cX1_fetch 44 = .ok (.istore_n 2, 1) := by decide +kernel
theorem dX1_fetch_45 : decode cX1_fetch 45 = .ok (.iload_n 2, 1) := by decide +kernel
theorem dX1_fetch_46 : decode cX1_fetch 46 = .ok (.ifCond .eq 18, 3) := by decide +kernel
theorem dX1_fetch_49 : decode cX1_fetch 49 = .ok (.aload_n 0, 1) := by decide +kernel
theorem dX1_fetch_50 : decode cX1_fetch 50 = .ok (.getfield 49, 3) := by decide +kernel
theorem dX1_fetch_53 : decode cX1_fetch 53 = .ok (.iload_n 1, 1) := by decide +kernel
theorem dX1_fetch_54 : decode cX1_fetch 54 = .ok (.invokevirtual 196, 3) := by decide +kernel
theorem dX1_fetch_57 : decode cX1_fetch 57 = .ok (.ifCond .eq 7, 3) := by decide +kernel
theorem dX1_fetch_60 : decode cX1_fetch 60 = .ok (.iconst 1, 1) := by decide +kernel
theorem dX1_fetch_61 : decode cX1_fetch 61 = .ok (.goto 4, 3) := by decide +kernel
theorem dX1_fetch_64 : decode cX1_fetch 64 = .ok (.iconst 0, 1) := by decide +kernel
theorem dX1_fetch_65 : decode cX1_fetch 65 = .ok (.istore_n 3, 1) := by decide +kernel
theorem dX1_fetch_66 : decode cX1_fetch 66 = .ok (.aload_n 0, 1) := by decide +kernel
theorem dX1_fetch_67 : decode cX1_fetch 67 = .ok (.getfield 12, 3) := by decide +kernel
theorem dX1_fetch_70 : decode cX1_fetch 70 = .ok (.iconst 0, 1) := by decide +kernel
theorem dX1_fetch_71 : decode cX1_fetch 71 = .ok (.iload_n 1, 1) := by decide +kernel
theorem dX1_fetch_72 : decode cX1_fetch 72 = .ok (.iload_n 2, 1) := by decide +kernel
theorem dX1_fetch_73 : decode cX1_fetch 73 = .ok (.iload_n 3, 1) := by decide +kernel
theorem dX1_fetch_74 : decode cX1_fetch 74 = .ok (.invokevirtual 199, 3) := by decide +kernel
theorem dX1_fetch_77 : decode cX1_fetch 77 = .ok (.aload_n 0, 1) := by decide +kernel
theorem dX1_fetch_78 : decode cX1_fetch 78 = .ok (.getfield 28, 3) := by decide +kernel
theorem dX1_fetch_81 : decode cX1_fetch 81 = .ok (.dup, 1) := by decide +kernel
theorem dX1_fetch_82 : decode cX1_fetch 82 = .ok (.getfield 203, 3) := by decide +kernel
theorem dX1_fetch_85 : decode cX1_fetch 85 = .ok (.iconst 1, 1) := by decide +kernel
theorem dX1_fetch_86 : decode cX1_fetch 86 = .ok (.iadd, 1) := by decide +kernel
theorem dX1_fetch_87 : decode cX1_fetch 87 = .ok (.putfield 203, 3) := by decide +kernel
theorem dX1_fetch_90 : decode cX1_fetch 90 = .ok (.aload_n 0, 1) := by decide +kernel
theorem dX1_fetch_91 : decode cX1_fetch 91 = .ok (.aload_n 0, 1) := by decide +kernel
theorem dX1_fetch_92 : decode cX1_fetch 92 = .ok (.getfield 40, 3) := by decide +kernel
theorem dX1_fetch_95 : decode cX1_fetch 95 = .ok (.iload_n 1, 1) := by decide +kernel
theorem dX1_fetch_96 : decode cX1_fetch 96 = .ok (.invokevirtual 206, 3) := by decide +kernel
theorem dX1_fetch_99 : decode cX1_fetch 99 = .ok (.putfield 62, 3) := by decide +kernel
theorem dX1_fetch_102 : decode cX1_fetch 102 = .ok (.iload_n 2, 1) := by decide +kernel
theorem dX1_fetch_103 : decode cX1_fetch 103 = .ok (.ifCond .eq 57, 3) := by decide +kernel
theorem dX1_fetch_106 : decode cX1_fetch 106 = .ok (.aload_n 0, 1) := by decide +kernel
theorem dX1_fetch_107 : decode cX1_fetch 107 = .ok (.getfield 49, 3) := by decide +kernel
theorem dX1_fetch_110 : decode cX1_fetch 110 = .ok (.iload_n 1, 1) := by decide +kernel
theorem dX1_fetch_111 : decode cX1_fetch 111 = .ok (.invokevirtual 138, 3) := by decide +kernel
theorem dX1_fetch_114 : decode cX1_fetch 114 = .ok (.pop, 1) := by decide +kernel
theorem dX1_fetch_115 : decode cX1_fetch 115 = .ok (.aload_n 0, 1) := by decide +kernel
theorem dX1_fetch_116 : decode cX1_fetch 116 = .ok (.getfield 40, 3) := by decide +kernel
theorem dX1_fetch_119 : decode cX1_fetch 119 = .ok (.iload_n 1, 1) := by decide +kernel
theorem dX1_fetch_120 : decode cX1_fetch 120 = .ok (.invokevirtual 114, 3) := by decide +kernel
theorem dX1_fetch_123 : decode cX1_fetch 123 = .ok (.istore 4, 2) := by decide +kernel
theorem dX1_fetch_125 : decode cX1_fetch 125 = .ok (.aload_n 0, 1) := by decide +kernel
theorem dX1_fetch_126 : decode cX1_fetch 126 = .ok (.iload_n 3, 1) := by decide +kernel
theorem dX1_fetch_127 : decode cX1_fetch 127 = .ok (.ifCond .ne 9, 3) := by decide +kernel
theorem dX1_fetch_130 : decode cX1_fetch 130 = .ok (.iload 4, 2) := by decide +kernel
theorem dX1_fetch_132 : decode cX1_fetch 132 = .ok (.iconst 5, 1) := by decide +kernel
theorem dX1_fetch_133 : decode cX1_fetch 133 = .ok (.if_icmp .ne 7, 3) := by decide +kernel
theorem dX1_fetch_136 : decode cX1_fetch 136 = .ok (.iconst 1, 1) := by decide +kernel
theorem dX1_fetch_137 : decode cX1_fetch 137 = .ok (.goto 4, 3) := by decide +kernel
theorem dX1_fetch_140 : decode cX1_fetch 140 = .ok (.iconst 0, 1) := by decide +kernel
theorem dX1_fetch_141 : decode cX1_fetch 141 = .ok (.putfield 66, 3) := by decide +kernel
theorem dX1_fetch_144 : decode cX1_fetch 144 = .ok (.aload_n 0, 1) := by decide +kernel
theorem dX1_fetch_145 : decode cX1_fetch 145 = .ok (.iload 4, 2) := by decide +kernel
theorem dX1_fetch_147 : decode cX1_fetch 147 = .ok (.bipush 6, 2) := by decide +kernel
theorem dX1_fetch_149 : decode cX1_fetch 149 = .ok (.if_icmp .ne 7, 3) := by decide +kernel
theorem dX1_fetch_152 : decode cX1_fetch 152 = .ok (.iconst 1, 1) := by decide +kernel
theorem dX1_fetch_153 : decode cX1_fetch 153 = .ok (.goto 4, 3) := by decide +kernel
theorem dX1_fetch_156 : decode cX1_fetch 156 = .ok (.iconst 0, 1) := by decide +kernel
theorem dX1_fetch_157 : decode cX1_fetch 157 = .ok (.putfield 69, 3) := by decide +kernel
theorem dX1_fetch_160 : decode cX1_fetch 160 = .ok (.return_, 1) := by decide +kernel
theorem dX2_init_0 : decode cX2_init 0 = .ok (.aload_n 0, 1) := by decide +kernel
theorem dX2_init_1 : decode cX2_init 1 = .ok (.invokespecial 3, 3) := by decide +kernel
theorem dX2_init_4 : decode cX2_init 4 = .ok (.aload_n 0, 1) := by decide +kernel
theorem dX2_init_5 : decode cX2_init 5 = .ok (.bipush 8, 2) := by decide +kernel
theorem dX2_init_7 : decode cX2_init 7 = .ok (.newarray .int, 2) := by decide +kernel
theorem dX2_init_9 : decode cX2_init 9 = .ok (.putfield 9, 3) := by decide +kernel
theorem dX2_init_12 : decode cX2_init 12 = .ok (.aload_n 0, 1) := by decide +kernel
theorem dX2_init_13 : decode cX2_init 13 = .ok (.bipush 64, 2) := by decide +kernel
theorem dX2_init_15 : decode cX2_init 15 = .ok (.newarray .int, 2) := by decide +kernel
theorem dX2_init_17 : decode cX2_init 17 = .ok (.putfield 15, 3) := by decide +kernel
theorem dX2_init_20 : decode cX2_init 20 = .ok (.aload_n 0, 1) := by decide +kernel
theorem dX2_init_21 : decode cX2_init 21 = .ok (.aload_n 1, 1) := by decide +kernel
theorem dX2_init_22 : decode cX2_init 22 = .ok (.putfield 18, 3) := by decide +kernel
theorem dX2_init_25 : decode cX2_init 25 = .ok (.return_, 1) := by decide +kernel
theorem dX2_beginAnew_0 : decode cX2_beginAnew 0 = .ok (.aload_n 0, 1) := by decide +kernel
theorem dX2_beginAnew_1 : decode cX2_beginAnew 1 = .ok (.getfield 9, 3) := by decide +kernel
theorem dX2_beginAnew_4 : decode cX2_beginAnew 4 = .ok (.iconst 0, 1) := by decide +kernel
theorem dX2_beginAnew_5 : decode cX2_beginAnew 5 = .ok (.invokestatic 22, 3) := by decide +kernel
theorem dX2_beginAnew_8 : decode cX2_beginAnew 8 = .ok (.aload_n 0, 1) := by decide +kernel
theorem dX2_beginAnew_9 : decode cX2_beginAnew 9 = .ok (.getfield 15, 3) := by decide +kernel
theorem dX2_beginAnew_12 : decode cX2_beginAnew 12 = .ok (.iconst 0, 1) := by decide +kernel
theorem dX2_beginAnew_13 : decode cX2_beginAnew 13 = .ok (.invokestatic 22, 3) := by decide +kernel
theorem dX2_beginAnew_16 : decode cX2_beginAnew 16 = .ok (.return_, 1) := by decide +kernel
theorem dX2_valueOf_0 : decode cX2_valueOf 0 = .ok (.iload_n 1, 1) := by decide +kernel
theorem dX2_valueOf_1 : decode cX2_valueOf 1 = .ok (.ifCond .lt 18, 3) := by decide +kernel
theorem dX2_valueOf_4 : decode cX2_valueOf 4 = .ok (.iload_n 1, 1) := by decide +kernel
theorem dX2_valueOf_5 : decode cX2_valueOf 5 = .ok (.bipush 8, 2) := by decide +kernel
theorem dX2_valueOf_7 : decode cX2_valueOf 7 = .ok (.if_icmp .ge 12, 3) := by decide +kernel
theorem dX2_valueOf_10 : decode cX2_valueOf 10 = .ok (.aload_n 0, 1) := by decide +kernel
theorem dX2_valueOf_11 : decode cX2_valueOf 11 = .ok (.getfield 9, 3) := by decide +kernel
theorem dX2_valueOf_14 : decode cX2_valueOf 14 = .ok (.iload_n 1, 1) := by decide +kernel
theorem dX2_valueOf_15 : decode cX2_valueOf 15 = .ok (.iaload, 1) := by decide +kernel
theorem dX2_valueOf_16 : decode cX2_valueOf 16 = .ok (.goto 4, 3) := by decide +kernel
theorem dX2_valueOf_19 : decode cX2_valueOf 19 = .ok (.iconst 0, 1) := by decide +kernel
theorem dX2_valueOf_20 : decode cX2_valueOf 20 = .ok (.ireturn, 1) := by decide +kernel
theorem dX2_valueAt_0 : decode cX2_valueAt 0 = .ok (.aload_n 0, 1) := by decide +kernel
theorem dX2_valueAt_1 : decode cX2_valueAt 1 = .ok (.getfield 15, 3) := by decide +kernel
theorem dX2_valueAt_4 : decode cX2_valueAt 4 = .ok (.iload_n 1, 1) := by decide +kernel
theorem dX2_valueAt_5 : decode cX2_valueAt 5 = .ok (.bipush 64, 2) := by decide +kernel
theorem dX2_valueAt_7 : decode cX2_valueAt 7 = .ok (.invokestatic 28, 3) := by decide +kernel
theorem dX2_valueAt_10 : decode cX2_valueAt 10 = .ok (.iaload, 1) := by decide +kernel
theorem dX2_valueAt_11 : decode cX2_valueAt 11 = .ok (.ireturn, 1) := by decide +kernel
theorem dX2_goes_0 : decode cX2_goes 0 = .ok (.aload_n 0, 1) := by decide +kernel
theorem dX2_goes_1 : decode cX2_goes 1 = .ok (.getfield 18, 3) := by decide +kernel
theorem dX2_goes_4 : decode cX2_goes 4 = .ok (.iload_n 1, 1) := by decide +kernel
theorem dX2_goes_5 : decode cX2_goes 5 = .ok (.invokevirtual 34, 3) := by decide +kernel
theorem dX2_goes_8 : decode cX2_goes 8 = .ok (.iconst 4, 1) := by decide +kernel
theorem dX2_goes_9 : decode cX2_goes 9 = .ok (.if_icmp .ne 22, 3) := by decide +kernel
theorem dX2_goes_12 : decode cX2_goes 12 = .ok (.aload_n 0, 1) := by decide +kernel
theorem dX2_goes_13 : decode cX2_goes 13 = .ok (.aload_n 0, 1) := by decide +kernel
theorem dX2_goes_14 : decode cX2_goes 14 = .ok (.getfield 18, 3) := by decide +kernel
theorem dX2_goes_17 : decode cX2_goes 17 = .ok (.iload_n 1, 1) := by decide +kernel
theorem dX2_goes_18 : decode cX2_goes 18 = .ok (.invokevirtual 40, 3) := by decide +kernel
theorem dX2_goes_21 : decode cX2_goes 21 = .ok (.invokevirtual 43, 3) := by decide +kernel
theorem dX2_goes_24 : decode cX2_goes 24 = .ok (.ifCond .eq 7, 3) := by decide +kernel
theorem dX2_goes_27 : decode cX2_goes 27 = .ok (.iconst 1, 1) := by decide +kernel
theorem dX2_goes_28 : decode cX2_goes 28 = .ok (.goto 4, 3) := by decide +kernel
theorem dX2_goes_31 : decode cX2_goes 31 = .ok (.iconst 0, 1) := by decide +kernel
theorem dX2_goes_32 : decode cX2_goes 32 = .ok (.ireturn, 1) := by decide +kernel
theorem dX2_perform_0 : decode cX2_perform 0 = .ok (.aload_n 0, 1) := by decide +kernel
theorem dX2_perform_1 : decode cX2_perform 1 = .ok (.aload_n 0, 1) := by decide +kernel
theorem dX2_perform_2 : decode cX2_perform 2 = .ok (.getfield 18, 3) := by decide +kernel
theorem dX2_perform_5 : decode cX2_perform 5 = .ok (.iload_n 1, 1) := by decide +kernel
theorem dX2_perform_6 : decode cX2_perform 6 = .ok (.invokevirtual 40, 3) := by decide +kernel
theorem dX2_perform_9 : decode cX2_perform 9 = .ok (.invokevirtual 43, 3) := by decide +kernel
theorem dX2_perform_12 : decode cX2_perform 12 = .ok (.istore_n 2, 1) := by decide +kernel
theorem dX2_perform_13 : decode cX2_perform 13 = .ok (.aload_n 0, 1) := by decide +kernel
theorem dX2_perform_14 : decode cX2_perform 14 = .ok (.aload_n 0, 1) := by decide +kernel
theorem dX2_perform_15 : decode cX2_perform 15 = .ok (.getfield 18, 3) := by decide +kernel
theorem dX2_perform_18 : decode cX2_perform 18 = .ok (.iload_n 1, 1) := by decide +kernel
theorem dX2_perform_19 : decode cX2_perform 19 = .ok (.invokevirtual 46, 3) := by decide +kernel
theorem dX2_perform_22 : decode cX2_perform 22 = .ok (.invokevirtual 43, 3) := by decide +kernel
theorem dX2_perform_25 : decode cX2_perform 25 = .ok (.istore_n 3, 1) := by decide +kernel
theorem dX2_perform_26 : decode cX2_perform 26 = .ok (.aload_n 0, 1) := by decide +kernel
theorem dX2_perform_27 : decode cX2_perform 27 = .ok (.getfield 18, 3) := by decide +kernel
theorem dX2_perform_30 : decode cX2_perform 30 = .ok (.iload_n 1, 1) := by decide +kernel
theorem dX2_perform_31 : decode cX2_perform 31 = .ok (.invokevirtual 49, 3) := by decide +kernel
theorem dX2_perform_34 : decode cX2_perform 34 = .ok (.istore 4, 2) := by decide +kernel
theorem dX2_perform_36 : decode cX2_perform 36 = .ok (.aload_n 0, 1) := by decide +kernel
theorem dX2_perform_37 : decode cX2_perform 37 = .ok (.getfield 18, 3) := by decide +kernel
theorem dX2_perform_40 : decode cX2_perform 40 = .ok (.iload_n 1, 1) := by decide +kernel
theorem dX2_perform_41 : decode cX2_perform 41 = .ok (.invokevirtual 52, 3) := by decide +kernel
theorem dX2_perform_44 : decode cX2_perform 44 = .ok (.istore 5, 2) := by decide +kernel
theorem dX2_perform_46 : decode cX2_perform 46 = .ok (.aload_n 0, 1) := by decide +kernel
theorem dX2_perform_47 : decode cX2_perform 47 = .ok (.getfield 18, 3) := by decide +kernel
theorem dX2_perform_50 : decode cX2_perform 50 = .ok (.iload_n 1, 1) := by decide +kernel
theorem dX2_perform_51 : decode cX2_perform 51 = .ok (.invokevirtual 34, 3) := by decide +kernel
theorem dX2_perform_54 : decode cX2_perform 54 = .ok (.tableswitch 97 0 7 #[46, 59, 71, 78, 97, 97, 97, 88], 46) := by decide +kernel
theorem dX2_perform_100 : decode cX2_perform 100 = .ok (.aload_n 0, 1) := by decide +kernel
theorem dX2_perform_101 : decode cX2_perform 101 = .ok (.iload 5, 2) := by decide +kernel
theorem dX2_perform_103 : decode cX2_perform 103 = .ok (.iload_n 2, 1) := by decide +kernel
theorem dX2_perform_104 : decode cX2_perform 104 = .ok (.iload_n 3, 1) := by decide +kernel
theorem dX2_perform_105 : decode cX2_perform 105 = .ok (.iadd, 1) := by decide +kernel
theorem dX2_perform_106 : decode cX2_perform 106 = .ok (.iload 4, 2) := by decide +kernel
theorem dX2_perform_108 : decode cX2_perform 108 = .ok (.iadd, 1) := by decide +kernel
theorem dX2_perform_109 : decode cX2_perform 109 = .ok (.invokevirtual 55, 3) := by decide +kernel
theorem dX2_perform_112 : decode cX2_perform 112 = .ok (.ireturn, 1) := by decide +kernel
theorem dX2_perform_113 : decode cX2_perform 113 = .ok (.aload_n 0, 1) := by decide +kernel
theorem dX2_perform_114 : decode cX2_perform 114 = .ok (.iload 5, 2) := by decide +kernel
theorem dX2_perform_116 : decode cX2_perform 116 = .ok (.aload_n 0, 1) := by decide +kernel
theorem dX2_perform_117 : decode cX2_perform 117 = .ok (.iload_n 2, 1) := by decide +kernel
theorem dX2_perform_118 : decode cX2_perform 118 = .ok (.invokevirtual 58, 3) := by decide +kernel
theorem dX2_perform_121 : decode cX2_perform 121 = .ok (.invokevirtual 55, 3) := by decide +kernel
theorem dX2_perform_124 : decode cX2_perform 124 = .ok (.ireturn, 1) := by decide +kernel
theorem dX2_perform_125 : decode cX2_perform 125 = .ok (.aload_n 0, 1) := by decide +kernel
theorem dX2_perform_126 : decode cX2_perform 126 = .ok (.iload_n 2, 1) := by decide +kernel
theorem dX2_perform_127 : decode cX2_perform 127 = .ok (.iload_n 3, 1) := by decide +kernel
theorem dX2_perform_128 : decode cX2_perform 128 = .ok (.invokevirtual 61, 3) := by decide +kernel
theorem dX2_perform_131 : decode cX2_perform 131 = .ok (.ireturn, 1) := by decide +kernel
theorem dX2_perform_132 : decode cX2_perform 132 = .ok (.aload_n 0, 1) := by decide +kernel
theorem dX2_perform_133 : decode cX2_perform 133 = .ok (.iload 5, 2) := by decide +kernel
theorem dX2_perform_135 : decode cX2_perform 135 = .ok (.iload_n 2, 1) := by decide +kernel
theorem dX2_perform_136 : decode cX2_perform 136 = .ok (.iload_n 3, 1) := by decide +kernel
theorem dX2_perform_137 : decode cX2_perform 137 = .ok (.imul, 1) := by decide +kernel
theorem dX2_perform_138 : decode cX2_perform 138 = .ok (.invokevirtual 55, 3) := by decide +kernel
theorem dX2_perform_141 : decode cX2_perform 141 = .ok (.ireturn, 1) := by decide +kernel
theorem dX2_perform_142 : decode cX2_perform 142 = .ok (.aload_n 0, 1) := by decide +kernel
theorem dX2_perform_143 : decode cX2_perform 143 = .ok (.iload 5, 2) := by decide +kernel
theorem dX2_perform_145 : decode cX2_perform 145 = .ok (.iload 4, 2) := by decide +kernel
theorem dX2_perform_147 : decode cX2_perform 147 = .ok (.invokevirtual 55, 3) := by decide +kernel
theorem dX2_perform_150 : decode cX2_perform 150 = .ok (.ireturn, 1) := by decide +kernel
theorem dX2_perform_151 : decode cX2_perform 151 = .ok (.iconst 0, 1) := by decide +kernel
theorem dX2_perform_152 : decode cX2_perform 152 = .ok (.ireturn, 1) := by decide +kernel
theorem dX2_write_0 : decode cX2_write 0 = .ok (.iload_n 1, 1) := by decide +kernel
theorem dX2_write_1 : decode cX2_write 1 = .ok (.ifCond .lt 16, 3) := by decide +kernel
theorem dX2_write_4 : decode cX2_write 4 = .ok (.iload_n 1, 1) := by decide +kernel
theorem dX2_write_5 : decode cX2_write 5 = .ok (.bipush 8, 2) := by decide +kernel
theorem dX2_write_7 : decode cX2_write 7 = .ok (.if_icmp .ge 10, 3) := by decide +kernel
theorem dX2_write_10 : decode cX2_write 10 = .ok (.aload_n 0, 1) := by decide +kernel
theorem dX2_write_11 : decode cX2_write 11 = .ok (.getfield 9, 3) := by decide +kernel
theorem dX2_write_14 : decode cX2_write 14 = .ok (.iload_n 1, 1) := by decide +kernel
theorem dX2_write_15 : decode cX2_write 15 = .ok (.iload_n 2, 1) := by decide +kernel
theorem dX2_write_16 : decode cX2_write 16 = .ok (.iastore, 1) := by decide +kernel
theorem dX2_write_17 : decode cX2_write 17 = .ok (.iload_n 2, 1) := by decide +kernel
theorem dX2_write_18 : decode cX2_write 18 = .ok (.ireturn, 1) := by decide +kernel
theorem dX2_store_0 : decode cX2_store 0 = .ok (.aload_n 0, 1) := by decide +kernel
theorem dX2_store_1 : decode cX2_store 1 = .ok (.getfield 15, 3) := by decide +kernel
theorem dX2_store_4 : decode cX2_store 4 = .ok (.iload_n 1, 1) := by decide +kernel
theorem dX2_store_5 : decode cX2_store 5 = .ok (.bipush 64, 2) := by decide +kernel
theorem dX2_store_7 : decode cX2_store 7 = .ok (.invokestatic 28, 3) := by decide +kernel
theorem dX2_store_10 : decode cX2_store 10 = .ok (.iload_n 2, 1) := by decide +kernel
theorem dX2_store_11 : decode cX2_store 11 = .ok (.iastore, 1) := by decide +kernel
theorem dX2_store_12 : decode cX2_store 12 = .ok (.iload_n 2, 1) := by decide +kernel
theorem dX2_store_13 : decode cX2_store 13 = .ok (.ireturn, 1) := by decide +kernel
theorem dX3_init_0 : decode cX3_init 0 = .ok (.aload_n 0, 1) := by decide +kernel
theorem dX3_init_1 : decode cX3_init 1 = .ok (.invokespecial 3, 3) := by decide +kernel
theorem dX3_init_4 : decode cX3_init 4 = .ok (.aload_n 0, 1) := by decide +kernel
theorem dX3_init_5 : decode cX3_init 5 = .ok (.bipush 64, 2) := by decide +kernel
theorem dX3_init_7 : decode cX3_init 7 = .ok (.newarray .int, 2) := by decide +kernel
theorem dX3_init_9 : decode cX3_init 9 = .ok (.putfield 9, 3) := by decide +kernel
theorem dX3_init_12 : decode cX3_init 12 = .ok (.aload_n 0, 1) := by decide +kernel
theorem dX3_init_13 : decode cX3_init 13 = .ok (.bipush 64, 2) := by decide +kernel
theorem dX3_init_15 : decode cX3_init 15 = .ok (.newarray .int, 2) := by decide +kernel
theorem dX3_init_17 : decode cX3_init 17 = .ok (.putfield 15, 3) := by decide +kernel
theorem dX3_init_20 : decode cX3_init 20 = .ok (.aload_n 0, 1) := by decide +kernel
theorem dX3_init_21 : decode cX3_init 21 = .ok (.bipush 64, 2) := by decide +kernel
theorem dX3_init_23 : decode cX3_init 23 = .ok (.newarray .int, 2) := by decide +kernel
theorem dX3_init_25 : decode cX3_init 25 = .ok (.putfield 18, 3) := by decide +kernel
theorem dX3_init_28 : decode cX3_init 28 = .ok (.aload_n 0, 1) := by decide +kernel
theorem dX3_init_29 : decode cX3_init 29 = .ok (.bipush 64, 2) := by decide +kernel
theorem dX3_init_31 : decode cX3_init 31 = .ok (.newarray .int, 2) := by decide +kernel
theorem dX3_init_33 : decode cX3_init 33 = .ok (.putfield 21, 3) := by decide +kernel
theorem dX3_init_36 : decode cX3_init 36 = .ok (.aload_n 0, 1) := by decide +kernel
theorem dX3_init_37 : decode cX3_init 37 = .ok (.bipush 64, 2) := by decide +kernel
theorem dX3_init_39 : decode cX3_init 39 = .ok (.newarray .int, 2) := by decide +kernel
theorem dX3_init_41 : decode cX3_init 41 = .ok (.putfield 24, 3) := by decide +kernel
theorem dX3_init_44 : decode cX3_init 44 = .ok (.return_, 1) := by decide +kernel
theorem dX3_append_0 : decode cX3_append 0 = .ok (.aload_n 0, 1) := by decide +kernel
theorem dX3_append_1 : decode cX3_append 1 = .ok (.getfield 27, 3) := by decide +kernel
theorem dX3_append_4 : decode cX3_append 4 = .ok (.ifCond .lt 12, 3) := by decide +kernel
theorem dX3_append_7 : decode cX3_append 7 = .ok (.aload_n 0, 1) := by decide +kernel
theorem dX3_append_8 : decode cX3_append 8 = .ok (.getfield 27, 3) := by decide +kernel
theorem dX3_append_11 : decode cX3_append 11 = .ok (.bipush 64, 2) := by decide +kernel
theorem dX3_append_13 : decode cX3_append 13 = .ok (.if_icmp .lt 5, 3) := by decide +kernel
theorem dX3_append_16 : decode cX3_append 16 = .ok (.iconst (-1), 1) := by decide +kernel
theorem dX3_append_17 : decode cX3_append 17 = .ok (.ireturn, 1) := by decide +kernel
theorem dX3_append_18 : decode cX3_append 18 = .ok (.aload_n 0, 1) := by decide +kernel
theorem dX3_append_19 : decode cX3_append 19 = .ok (.getfield 9, 3) := by decide +kernel
theorem dX3_append_22 : decode cX3_append 22 = .ok (.aload_n 0, 1) := by decide +kernel
theorem dX3_append_23 : decode cX3_append 23 = .ok (.getfield 27, 3) := by decide +kernel
theorem dX3_append_26 : decode cX3_append 26 = .ok (.iload_n 1, 1) := by decide +kernel
theorem dX3_append_27 : decode cX3_append 27 = .ok (.iastore, 1) := by decide +kernel
theorem dX3_append_28 : decode cX3_append 28 = .ok (.aload_n 0, 1) := by decide +kernel
theorem dX3_append_29 : decode cX3_append 29 = .ok (.getfield 15, 3) := by decide +kernel
theorem dX3_append_32 : decode cX3_append 32 = .ok (.aload_n 0, 1) := by decide +kernel
theorem dX3_append_33 : decode cX3_append 33 = .ok (.getfield 27, 3) := by decide +kernel
theorem dX3_append_36 : decode cX3_append 36 = .ok (.iload_n 1, 1) := by decide +kernel
theorem dX3_append_37 : decode cX3_append 37 = .ok (.invokestatic 31, 3) := by decide +kernel
theorem dX3_append_40 : decode cX3_append 40 = .ok (.ifCond .eq 7, 3) := by decide +kernel
theorem dX3_append_43 : decode cX3_append 43 = .ok (.iload_n 2, 1) := by decide +kernel
theorem dX3_append_44 : decode cX3_append 44 = .ok (.goto 4, 3) := by decide +kernel
theorem dX3_append_47 : decode cX3_append 47 = .ok (.iconst (-1), 1) := by decide +kernel
theorem dX3_append_48 : decode cX3_append 48 = .ok (.iastore, 1) := by decide +kernel
theorem dX3_append_49 : decode cX3_append 49 = .ok (.aload_n 0, 1) := by decide +kernel
theorem dX3_append_50 : decode cX3_append 50 = .ok (.getfield 18, 3) := by decide +kernel
theorem dX3_append_53 : decode cX3_append 53 = .ok (.aload_n 0, 1) := by decide +kernel
theorem dX3_append_54 : decode cX3_append 54 = .ok (.getfield 27, 3) := by decide +kernel
theorem dX3_append_57 : decode cX3_append 57 = .ok (.iload_n 1, 1) := by decide +kernel
theorem dX3_append_58 : decode cX3_append 58 = .ok (.invokestatic 35, 3) := by decide +kernel
theorem dX3_append_61 : decode cX3_append 61 = .ok (.ifCond .eq 7, 3) := by decide +kernel
theorem dX3_append_64 : decode cX3_append 64 = .ok (.iload_n 3, 1) := by decide +kernel
theorem dX3_append_65 : decode cX3_append 65 = .ok (.goto 4, 3) := by decide +kernel
theorem dX3_append_68 : decode cX3_append 68 = .ok (.iconst (-1), 1) := by decide +kernel
theorem dX3_append_69 : decode cX3_append 69 = .ok (.iastore, 1) := by decide +kernel
theorem dX3_append_70 : decode cX3_append 70 = .ok (.aload_n 0, 1) := by decide +kernel
theorem dX3_append_71 : decode cX3_append 71 = .ok (.getfield 21, 3) := by decide +kernel
theorem dX3_append_74 : decode cX3_append 74 = .ok (.aload_n 0, 1) := by decide +kernel
theorem dX3_append_75 : decode cX3_append 75 = .ok (.getfield 27, 3) := by decide +kernel
theorem dX3_append_78 : decode cX3_append 78 = .ok (.iload_n 1, 1) := by decide +kernel
theorem dX3_append_79 : decode cX3_append 79 = .ok (.invokestatic 38, 3) := by decide +kernel
theorem dX3_append_82 : decode cX3_append 82 = .ok (.ifCond .eq 8, 3) := by decide +kernel
theorem dX3_append_85 : decode cX3_append 85 = .ok (.iload 4, 2) := by decide +kernel
theorem dX3_append_87 : decode cX3_append 87 = .ok (.goto 4, 3) := by decide +kernel
theorem dX3_append_90 : decode cX3_append 90 = .ok (.iconst (-1), 1) := by decide +kernel
theorem dX3_append_91 : decode cX3_append 91 = .ok (.iastore, 1) := by decide +kernel
theorem dX3_append_92 : decode cX3_append 92 = .ok (.aload_n 0, 1) := by decide +kernel
theorem dX3_append_93 : decode cX3_append 93 = .ok (.getfield 24, 3) := by decide +kernel
theorem dX3_append_96 : decode cX3_append 96 = .ok (.aload_n 0, 1) := by decide +kernel
theorem dX3_append_97 : decode cX3_append 97 = .ok (.getfield 27, 3) := by decide +kernel
theorem dX3_append_100 : decode cX3_append 100 = .ok (.iload 5, 2) := by decide +kernel
theorem dX3_append_102 : decode cX3_append 102 = .ok (.iastore, 1) := by decide +kernel
theorem dX3_append_103 : decode cX3_append 103 = .ok (.aload_n 0, 1) := by decide +kernel
theorem dX3_append_104 : decode cX3_append 104 = .ok (.dup, 1) := by decide +kernel
theorem dX3_append_105 : decode cX3_append 105 = .ok (.getfield 27, 3) := by decide +kernel
theorem dX3_append_108 : decode cX3_append 108 = .ok (.iconst 1, 1) := by decide +kernel
theorem dX3_append_109 : decode cX3_append 109 = .ok (.iadd, 1) := by decide +kernel
theorem dX3_append_110 : decode cX3_append 110 = .ok (.putfield 27, 3) := by decide +kernel
theorem dX3_append_113 : decode cX3_append 113 = .ok (.aload_n 0, 1) := by decide +kernel
theorem dX3_append_114 : decode cX3_append 114 = .ok (.getfield 27, 3) := by decide +kernel
theorem dX3_append_117 : decode cX3_append 117 = .ok (.iconst 1, 1) := by decide +kernel
theorem dX3_append_118 : decode cX3_append 118 = .ok (.isub, 1) := by decide +kernel
theorem dX3_append_119 : decode cX3_append 119 = .ok (.ireturn, 1) := by decide +kernel
theorem dX3_hasTarget_0 : decode cX3_hasTarget 0 = .ok (.iload_n 0, 1) := by decide +kernel
theorem dX3_hasTarget_1 : decode cX3_hasTarget 1 = .ok (.ifCond .eq 19, 3) := by decide +kernel
theorem dX3_hasTarget_4 : decode cX3_hasTarget 4 = .ok (.iload_n 0, 1) := by decide +kernel
theorem dX3_hasTarget_5 : decode cX3_hasTarget 5 = .ok (.iconst 1, 1) := by decide +kernel
theorem dX3_hasTarget_6 : decode cX3_hasTarget 6 = .ok (.if_icmp .eq 14, 3) := by decide +kernel
theorem dX3_hasTarget_9 : decode cX3_hasTarget 9 = .ok (.iload_n 0, 1) := by decide +kernel
theorem dX3_hasTarget_10 : decode cX3_hasTarget 10 = .ok (.iconst 3, 1) := by decide +kernel
theorem dX3_hasTarget_11 : decode cX3_hasTarget 11 = .ok (.if_icmp .eq 9, 3) := by decide +kernel
theorem dX3_hasTarget_14 : decode cX3_hasTarget 14 = .ok (.iload_n 0, 1) := by decide +kernel
theorem dX3_hasTarget_15 : decode cX3_hasTarget 15 = .ok (.bipush 7, 2) := by decide +kernel
theorem dX3_hasTarget_17 : decode cX3_hasTarget 17 = .ok (.if_icmp .ne 7, 3) := by decide +kernel
theorem dX3_hasTarget_20 : decode cX3_hasTarget 20 = .ok (.iconst 1, 1) := by decide +kernel
theorem dX3_hasTarget_21 : decode cX3_hasTarget 21 = .ok (.goto 4, 3) := by decide +kernel
theorem dX3_hasTarget_24 : decode cX3_hasTarget 24 = .ok (.iconst 0, 1) := by decide +kernel
theorem dX3_hasTarget_25 : decode cX3_hasTarget 25 = .ok (.ireturn, 1) := by decide +kernel
theorem dX3_readsFirst_0 : decode cX3_readsFirst 0 = .ok (.iload_n 0, 1) := by decide +kernel
theorem dX3_readsFirst_1 : decode cX3_readsFirst 1 = .ok (.iconst 1, 1) := by decide +kernel
theorem dX3_readsFirst_2 : decode cX3_readsFirst 2 = .ok (.if_icmp .eq 15, 3) := by decide +kernel
theorem dX3_readsFirst_5 : decode cX3_readsFirst 5 = .ok (.iload_n 0, 1) := by decide +kernel
theorem dX3_readsFirst_6 : decode cX3_readsFirst 6 = .ok (.iconst 4, 1) := by decide +kernel
theorem dX3_readsFirst_7 : decode cX3_readsFirst 7 = .ok (.if_icmp .eq 10, 3) := by decide +kernel
theorem dX3_readsFirst_10 : decode cX3_readsFirst 10 = .ok (.iload_n 0, 1) := by decide +kernel
theorem dX3_readsFirst_11 : decode cX3_readsFirst 11 = .ok (.invokestatic 38, 3) := by decide +kernel
theorem dX3_readsFirst_14 : decode cX3_readsFirst 14 = .ok (.ifCond .eq 7, 3) := by decide +kernel
theorem dX3_readsFirst_17 : decode cX3_readsFirst 17 = .ok (.iconst 1, 1) := by decide +kernel
theorem dX3_readsFirst_18 : decode cX3_readsFirst 18 = .ok (.goto 4, 3) := by decide +kernel
theorem dX3_readsFirst_21 : decode cX3_readsFirst 21 = .ok (.iconst 0, 1) := by decide +kernel
theorem dX3_readsFirst_22 : decode cX3_readsFirst 22 = .ok (.ireturn, 1) := by decide +kernel
theorem dX3_readsSecond_0 : decode cX3_readsSecond 0 = .ok (.iload_n 0, 1) := by decide +kernel
theorem dX3_readsSecond_1 : decode cX3_readsSecond 1 = .ok (.ifCond .eq 13, 3) := by decide +kernel
theorem dX3_readsSecond_4 : decode cX3_readsSecond 4 = .ok (.iload_n 0, 1) := by decide +kernel
theorem dX3_readsSecond_5 : decode cX3_readsSecond 5 = .ok (.iconst 2, 1) := by decide +kernel
theorem dX3_readsSecond_6 : decode cX3_readsSecond 6 = .ok (.if_icmp .eq 8, 3) := by decide +kernel
theorem dX3_readsSecond_9 : decode cX3_readsSecond 9 = .ok (.iload_n 0, 1) := by decide +kernel
theorem dX3_readsSecond_10 : decode cX3_readsSecond 10 = .ok (.iconst 3, 1) := by decide +kernel
theorem dX3_readsSecond_11 : decode cX3_readsSecond 11 = .ok (.if_icmp .ne 7, 3) := by decide +kernel
theorem dX3_readsSecond_14 : decode cX3_readsSecond 14 = .ok (.iconst 1, 1) := by decide +kernel
theorem dX3_readsSecond_15 : decode cX3_readsSecond 15 = .ok (.goto 4, 3) := by decide +kernel
theorem dX3_readsSecond_18 : decode cX3_readsSecond 18 = .ok (.iconst 0, 1) := by decide +kernel
theorem dX3_readsSecond_19 : decode cX3_readsSecond 19 = .ok (.ireturn, 1) := by decide +kernel
theorem dX3_forget_0 : decode cX3_forget 0 = .ok (.aload_n 0, 1) := by decide +kernel
theorem dX3_forget_1 : decode cX3_forget 1 = .ok (.iconst 0, 1) := by decide +kernel
theorem dX3_forget_2 : decode cX3_forget 2 = .ok (.putfield 27, 3) := by decide +kernel
theorem dX3_forget_5 : decode cX3_forget 5 = .ok (.return_, 1) := by decide +kernel
theorem dX3_size_0 : decode cX3_size 0 = .ok (.aload_n 0, 1) := by decide +kernel
theorem dX3_size_1 : decode cX3_size 1 = .ok (.getfield 27, 3) := by decide +kernel
theorem dX3_size_4 : decode cX3_size 4 = .ok (.ireturn, 1) := by decide +kernel
theorem dX3_kindOf_0 : decode cX3_kindOf 0 = .ok (.iload_n 1, 1) := by decide +kernel
theorem dX3_kindOf_1 : decode cX3_kindOf 1 = .ok (.ifCond .lt 18, 3) := by decide +kernel
theorem dX3_kindOf_4 : decode cX3_kindOf 4 = .ok (.iload_n 1, 1) := by decide +kernel
theorem dX3_kindOf_5 : decode cX3_kindOf 5 = .ok (.bipush 64, 2) := by decide +kernel
theorem dX3_kindOf_7 : decode cX3_kindOf 7 = .ok (.if_icmp .ge 12, 3) := by decide +kernel
theorem dX3_kindOf_10 : decode cX3_kindOf 10 = .ok (.aload_n 0, 1) := by decide +kernel
theorem dX3_kindOf_11 : decode cX3_kindOf 11 = .ok (.getfield 9, 3) := by decide +kernel
theorem dX3_kindOf_14 : decode cX3_kindOf 14 = .ok (.iload_n 1, 1) := by decide +kernel
theorem dX3_kindOf_15 : decode cX3_kindOf 15 = .ok (.iaload, 1) := by decide +kernel
theorem dX3_kindOf_16 : decode cX3_kindOf 16 = .ok (.goto 4, 3) := by decide +kernel
theorem dX3_kindOf_19 : decode cX3_kindOf 19 = .ok (.iconst (-1), 1) := by decide +kernel
theorem dX3_kindOf_20 : decode cX3_kindOf 20 = .ok (.ireturn, 1) := by decide +kernel
theorem dX3_written_0 : decode cX3_written 0 = .ok (.iload_n 1, 1) := by decide +kernel
theorem dX3_written_1 : decode cX3_written 1 = .ok (.ifCond .lt 18, 3) := by decide +kernel
theorem dX3_written_4 : decode cX3_written 4 = .ok (.iload_n 1, 1) := by decide +kernel
theorem dX3_written_5 : decode cX3_written 5 = .ok (.bipush 64, 2) := by decide +kernel
theorem dX3_written_7 : decode cX3_written 7 = .ok (.if_icmp .ge 12, 3) := by decide +kernel
theorem dX3_written_10 : decode cX3_written 10 = .ok (.aload_n 0, 1) := by decide +kernel
theorem dX3_written_11 : decode cX3_written 11 = .ok (.getfield 15, 3) := by decide +kernel
theorem dX3_written_14 : decode cX3_written 14 = .ok (.iload_n 1, 1) := by decide +kernel
theorem dX3_written_15 : decode cX3_written 15 = .ok (.iaload, 1) := by decide +kernel
theorem dX3_written_16 : decode cX3_written 16 = .ok (.goto 4, 3) := by decide +kernel
theorem dX3_written_19 : decode cX3_written 19 = .ok (.iconst (-1), 1) := by decide +kernel
theorem dX3_written_20 : decode cX3_written 20 = .ok (.ireturn, 1) := by decide +kernel
theorem dX3_firstRead_0 : decode cX3_firstRead 0 = .ok (.iload_n 1, 1) := by decide +kernel
theorem dX3_firstRead_1 : decode cX3_firstRead 1 = .ok (.ifCond .lt 18, 3) := by decide +kernel
theorem dX3_firstRead_4 : decode cX3_firstRead 4 = .ok (.iload_n 1, 1) := by decide +kernel
theorem dX3_firstRead_5 : decode cX3_firstRead 5 = .ok (.bipush 64, 2) := by decide +kernel
theorem dX3_firstRead_7 : decode cX3_firstRead 7 = .ok (.if_icmp .ge 12, 3) := by decide +kernel
theorem dX3_firstRead_10 : decode cX3_firstRead 10 = .ok (.aload_n 0, 1) := by decide +kernel
theorem dX3_firstRead_11 : decode cX3_firstRead 11 = .ok (.getfield 18, 3) := by decide +kernel
theorem dX3_firstRead_14 : decode cX3_firstRead 14 = .ok (.iload_n 1, 1) := by decide +kernel
theorem dX3_firstRead_15 : decode cX3_firstRead 15 = .ok (.iaload, 1) := by decide +kernel
theorem dX3_firstRead_16 : decode cX3_firstRead 16 = .ok (.goto 4, 3) := by decide +kernel
theorem dX3_firstRead_19 : decode cX3_firstRead 19 = .ok (.iconst (-1), 1) := by decide +kernel
theorem dX3_firstRead_20 : decode cX3_firstRead 20 = .ok (.ireturn, 1) := by decide +kernel
theorem dX3_secondRead_0 : decode cX3_secondRead 0 = .ok (.iload_n 1, 1) := by decide +kernel
theorem dX3_secondRead_1 : decode cX3_secondRead 1 = .ok (.ifCond .lt 18, 3) := by decide +kernel
theorem dX3_secondRead_4 : decode cX3_secondRead 4 = .ok (.iload_n 1, 1) := by decide +kernel
theorem dX3_secondRead_5 : decode cX3_secondRead 5 = .ok (.bipush 64, 2) := by decide +kernel
theorem dX3_secondRead_7 : decode cX3_secondRead 7 = .ok (.if_icmp .ge 12, 3) := by decide +kernel
theorem dX3_secondRead_10 : decode cX3_secondRead 10 = .ok (.aload_n 0, 1) := by decide +kernel
theorem dX3_secondRead_11 : decode cX3_secondRead 11 = .ok (.getfield 21, 3) := by decide +kernel
theorem dX3_secondRead_14 : decode cX3_secondRead 14 = .ok (.iload_n 1, 1) := by decide +kernel
theorem dX3_secondRead_15 : decode cX3_secondRead 15 = .ok (.iaload, 1) := by decide +kernel
theorem dX3_secondRead_16 : decode cX3_secondRead 16 = .ok (.goto 4, 3) := by decide +kernel
theorem dX3_secondRead_19 : decode cX3_secondRead 19 = .ok (.iconst (-1), 1) := by decide +kernel
theorem dX3_secondRead_20 : decode cX3_secondRead 20 = .ok (.ireturn, 1) := by decide +kernel
theorem dX3_number_0 : decode cX3_number 0 = .ok (.iload_n 1, 1) := by decide +kernel
theorem dX3_number_1 : decode cX3_number 1 = .ok (.ifCond .lt 18, 3) := by decide +kernel
theorem dX3_number_4 : decode cX3_number 4 = .ok (.iload_n 1, 1) := by decide +kernel
theorem dX3_number_5 : decode cX3_number 5 = .ok (.bipush 64, 2) := by decide +kernel
theorem dX3_number_7 : decode cX3_number 7 = .ok (.if_icmp .ge 12, 3) := by decide +kernel
theorem dX3_number_10 : decode cX3_number 10 = .ok (.aload_n 0, 1) := by decide +kernel
theorem dX3_number_11 : decode cX3_number 11 = .ok (.getfield 24, 3) := by decide +kernel
theorem dX3_number_14 : decode cX3_number 14 = .ok (.iload_n 1, 1) := by decide +kernel
theorem dX3_number_15 : decode cX3_number 15 = .ok (.iaload, 1) := by decide +kernel
theorem dX3_number_16 : decode cX3_number 16 = .ok (.goto 4, 3) := by decide +kernel
theorem dX3_number_19 : decode cX3_number 19 = .ok (.iconst 0, 1) := by decide +kernel
theorem dX3_number_20 : decode cX3_number 20 = .ok (.ireturn, 1) := by decide +kernel
theorem dX3_behind_0 : decode cX3_behind 0 = .ok (.iload_n 1, 1) := by decide +kernel
theorem dX3_behind_1 : decode cX3_behind 1 = .ok (.iconst 1, 1) := by decide +kernel
theorem dX3_behind_2 : decode cX3_behind 2 = .ok (.iadd, 1) := by decide +kernel
theorem dX3_behind_3 : decode cX3_behind 3 = .ok (.aload_n 0, 1) := by decide +kernel
theorem dX3_behind_4 : decode cX3_behind 4 = .ok (.getfield 27, 3) := by decide +kernel
theorem dX3_behind_7 : decode cX3_behind 7 = .ok (.if_icmp .ge 9, 3) := by decide +kernel
theorem dX3_behind_10 : decode cX3_behind 10 = .ok (.iload_n 1, 1) := by decide +kernel
theorem dX3_behind_11 : decode cX3_behind 11 = .ok (.iconst 1, 1) := by decide +kernel
theorem dX3_behind_12 : decode cX3_behind 12 = .ok (.iadd, 1) := by decide +kernel
theorem dX3_behind_13 : decode cX3_behind 13 = .ok (.goto 4, 3) := by decide +kernel
theorem dX3_behind_16 : decode cX3_behind 16 = .ok (.iconst 0, 1) := by decide +kernel
theorem dX3_behind_17 : decode cX3_behind 17 = .ok (.ireturn, 1) := by decide +kernel
theorem dX3_wordAt_0 : decode cX3_wordAt 0 = .ok (.aload_n 0, 1) := by decide +kernel
theorem dX3_wordAt_1 : decode cX3_wordAt 1 = .ok (.getfield 27, 3) := by decide +kernel
theorem dX3_wordAt_4 : decode cX3_wordAt 4 = .ok (.ifCond .le 14, 3) := by decide +kernel
theorem dX3_wordAt_7 : decode cX3_wordAt 7 = .ok (.iload_n 1, 1) := by decide +kernel
theorem dX3_wordAt_8 : decode cX3_wordAt 8 = .ok (.aload_n 0, 1) := by decide +kernel
theorem dX3_wordAt_9 : decode cX3_wordAt 9 = .ok (.getfield 27, 3) := by decide +kernel
theorem dX3_wordAt_12 : decode cX3_wordAt 12 = .ok (.invokestatic 41, 3) := by decide +kernel
theorem dX3_wordAt_15 : decode cX3_wordAt 15 = .ok (.goto 4, 3) := by decide +kernel
theorem dX3_wordAt_18 : decode cX3_wordAt 18 = .ok (.iconst 0, 1) := by decide +kernel
theorem dX3_wordAt_19 : decode cX3_wordAt 19 = .ok (.ireturn, 1) := by decide +kernel
theorem dX4_init_0 : decode cX4_init 0 = .ok (.aload_n 0, 1) := by decide +kernel
theorem dX4_init_1 : decode cX4_init 1 = .ok (.invokespecial 3, 3) := by decide +kernel
theorem dX4_init_4 : decode cX4_init 4 = .ok (.aload_n 0, 1) := by decide +kernel
theorem dX4_init_5 : decode cX4_init 5 = .ok (.iconst 3, 1) := by decide +kernel
theorem dX4_init_6 : decode cX4_init 6 = .ok (.iload_n 1, 1) := by decide +kernel
theorem dX4_init_7 : decode cX4_init 7 = .ok (.bipush 6, 2) := by decide +kernel
theorem dX4_init_9 : decode cX4_init 9 = .ok (.invokestatic 9, 3) := by decide +kernel
theorem dX4_init_12 : decode cX4_init 12 = .ok (.iadd, 1) := by decide +kernel
theorem dX4_init_13 : decode cX4_init 13 = .ok (.putfield 15, 3) := by decide +kernel
theorem dX4_init_16 : decode cX4_init 16 = .ok (.aload_n 0, 1) := by decide +kernel
theorem dX4_init_17 : decode cX4_init 17 = .ok (.iconst 1, 1) := by decide +kernel
theorem dX4_init_18 : decode cX4_init 18 = .ok (.iload_n 2, 1) := by decide +kernel
theorem dX4_init_19 : decode cX4_init 19 = .ok (.aload_n 0, 1) := by decide +kernel
theorem dX4_init_20 : decode cX4_init 20 = .ok (.getfield 15, 3) := by decide +kernel
theorem dX4_init_23 : decode cX4_init 23 = .ok (.iconst 2, 1) := by decide +kernel
theorem dX4_init_24 : decode cX4_init 24 = .ok (.isub, 1) := by decide +kernel
theorem dX4_init_25 : decode cX4_init 25 = .ok (.invokestatic 9, 3) := by decide +kernel
theorem dX4_init_28 : decode cX4_init 28 = .ok (.iadd, 1) := by decide +kernel
theorem dX4_init_29 : decode cX4_init 29 = .ok (.putfield 19, 3) := by decide +kernel
theorem dX4_init_32 : decode cX4_init 32 = .ok (.aload_n 0, 1) := by decide +kernel
theorem dX4_init_33 : decode cX4_init 33 = .ok (.getfield 15, 3) := by decide +kernel
theorem dX4_init_36 : decode cX4_init 36 = .ok (.aload_n 0, 1) := by decide +kernel
theorem dX4_init_37 : decode cX4_init 37 = .ok (.getfield 19, 3) := by decide +kernel
theorem dX4_init_40 : decode cX4_init 40 = .ok (.isub, 1) := by decide +kernel
theorem dX4_init_41 : decode cX4_init 41 = .ok (.istore 7, 2) := by decide +kernel
theorem dX4_init_43 : decode cX4_init 43 = .ok (.aload_n 0, 1) := by decide +kernel
theorem dX4_init_44 : decode cX4_init 44 = .ok (.aload_n 0, 1) := by decide +kernel
theorem dX4_init_45 : decode cX4_init 45 = .ok (.getfield 19, 3) := by decide +kernel
theorem dX4_init_48 : decode cX4_init 48 = .ok (.iload_n 3, 1) := by decide +kernel
theorem dX4_init_49 : decode cX4_init 49 = .ok (.iload 7, 2) := by decide +kernel
theorem dX4_init_51 : decode cX4_init 51 = .ok (.invokestatic 9, 3) := by decide +kernel
theorem dX4_init_54 : decode cX4_init 54 = .ok (.iadd, 1) := by decide +kernel
theorem dX4_init_55 : decode cX4_init 55 = .ok (.putfield 22, 3) := by decide +kernel
theorem dX4_init_58 : decode cX4_init 58 = .ok (.aload_n 0, 1) := by decide +kernel
theorem dX4_init_59 : decode cX4_init 59 = .ok (.aload_n 0, 1) := by decide +kernel
theorem dX4_init_60 : decode cX4_init 60 = .ok (.getfield 19, 3) := by decide +kernel
theorem dX4_init_63 : decode cX4_init 63 = .ok (.iload 4, 2) := by decide +kernel
theorem dX4_init_65 : decode cX4_init 65 = .ok (.iload 7, 2) := by decide +kernel
theorem dX4_init_67 : decode cX4_init 67 = .ok (.invokestatic 9, 3) := by decide +kernel
theorem dX4_init_70 : decode cX4_init 70 = .ok (.iadd, 1) := by decide +kernel
theorem dX4_init_71 : decode cX4_init 71 = .ok (.putfield 25, 3) := by decide +kernel
theorem dX4_init_74 : decode cX4_init 74 = .ok (.aload_n 0, 1) := by decide +kernel
theorem dX4_init_75 : decode cX4_init 75 = .ok (.aload_n 0, 1) := by decide +kernel
theorem dX4_init_76 : decode cX4_init 76 = .ok (.getfield 19, 3) := by decide +kernel
theorem dX4_init_79 : decode cX4_init 79 = .ok (.iload 5, 2) := by decide +kernel
theorem dX4_init_81 : decode cX4_init 81 = .ok (.iload 7, 2) := by decide +kernel
theorem dX4_init_83 : decode cX4_init 83 = .ok (.invokestatic 9, 3) := by decide +kernel
theorem dX4_init_86 : decode cX4_init 86 = .ok (.iadd, 1) := by decide +kernel
theorem dX4_init_87 : decode cX4_init 87 = .ok (.putfield 28, 3) := by decide +kernel
theorem dX4_init_90 : decode cX4_init 90 = .ok (.aload_n 0, 1) := by decide +kernel
theorem dX4_init_91 : decode cX4_init 91 = .ok (.iconst 1, 1) := by decide +kernel
theorem dX4_init_92 : decode cX4_init 92 = .ok (.iload 6, 2) := by decide +kernel
theorem dX4_init_94 : decode cX4_init 94 = .ok (.bipush 8, 2) := by decide +kernel
theorem dX4_init_96 : decode cX4_init 96 = .ok (.invokestatic 9, 3) := by decide +kernel
theorem dX4_init_99 : decode cX4_init 99 = .ok (.iadd, 1) := by decide +kernel
theorem dX4_init_100 : decode cX4_init 100 = .ok (.putfield 31, 3) := by decide +kernel
theorem dX4_init_103 : decode cX4_init 103 = .ok (.return_, 1) := by decide +kernel
theorem dX4_rest_0 : decode cX4_rest 0 = .ok (.iload_n 1, 1) := by decide +kernel
theorem dX4_rest_1 : decode cX4_rest 1 = .ok (.ifCond .le 11, 3) := by decide +kernel
theorem dX4_rest_4 : decode cX4_rest 4 = .ok (.iload_n 0, 1) := by decide +kernel
theorem dX4_rest_5 : decode cX4_rest 5 = .ok (.iload_n 1, 1) := by decide +kernel
theorem dX4_rest_6 : decode cX4_rest 6 = .ok (.invokestatic 34, 3) := by decide +kernel
theorem dX4_rest_9 : decode cX4_rest 9 = .ok (.goto 4, 3) := by decide +kernel
theorem dX4_rest_12 : decode cX4_rest 12 = .ok (.iconst 0, 1) := by decide +kernel
theorem dX4_rest_13 : decode cX4_rest 13 = .ok (.ireturn, 1) := by decide +kernel
theorem dX4_last_0 : decode cX4_last 0 = .ok (.aload_n 0, 1) := by decide +kernel
theorem dX4_last_1 : decode cX4_last 1 = .ok (.getfield 15, 3) := by decide +kernel
theorem dX4_last_4 : decode cX4_last 4 = .ok (.iconst 1, 1) := by decide +kernel
theorem dX4_last_5 : decode cX4_last 5 = .ok (.isub, 1) := by decide +kernel
theorem dX4_last_6 : decode cX4_last 6 = .ok (.ireturn, 1) := by decide +kernel
theorem dX4_behindWhichReady_0 : decode cX4_behindWhichReady 0 = .ok (.iload_n 1, 1) := by decide +kernel
theorem dX4_behindWhichReady_1 : decode cX4_behindWhichReady 1 = .ok (.iconst 1, 1) := by decide +kernel
theorem dX4_behindWhichReady_2 : decode cX4_behindWhichReady 2 = .ok (.if_icmp .ne 10, 3) := by decide +kernel
theorem dX4_behindWhichReady_5 : decode cX4_behindWhichReady 5 = .ok (.aload_n 0, 1) := by decide +kernel
theorem dX4_behindWhichReady_6 : decode cX4_behindWhichReady 6 = .ok (.getfield 25, 3) := by decide +kernel
theorem dX4_behindWhichReady_9 : decode cX4_behindWhichReady 9 = .ok (.goto 7, 3) := by decide +kernel
theorem dX4_behindWhichReady_12 : decode cX4_behindWhichReady 12 = .ok (.aload_n 0, 1) := by decide +kernel
theorem dX4_behindWhichReady_13 : decode cX4_behindWhichReady 13 = .ok (.getfield 22, 3) := by decide +kernel
theorem dX4_behindWhichReady_16 : decode cX4_behindWhichReady 16 = .ok (.ireturn, 1) := by decide +kernel
theorem dX4_cyclesToWork_0 : decode cX4_cyclesToWork 0 = .ok (.iload_n 1, 1) := by decide +kernel
theorem dX4_cyclesToWork_1 : decode cX4_cyclesToWork 1 = .ok (.iconst 3, 1) := by decide +kernel
theorem dX4_cyclesToWork_2 : decode cX4_cyclesToWork 2 = .ok (.if_icmp .ne 10, 3) := by decide +kernel
theorem dX4_cyclesToWork_5 : decode cX4_cyclesToWork 5 = .ok (.aload_n 0, 1) := by decide +kernel
theorem dX4_cyclesToWork_6 : decode cX4_cyclesToWork 6 = .ok (.getfield 31, 3) := by decide +kernel
theorem dX4_cyclesToWork_9 : decode cX4_cyclesToWork 9 = .ok (.goto 4, 3) := by decide +kernel
theorem dX4_cyclesToWork_12 : decode cX4_cyclesToWork 12 = .ok (.iconst 1, 1) := by decide +kernel
theorem dX4_cyclesToWork_13 : decode cX4_cyclesToWork 13 = .ok (.ireturn, 1) := by decide +kernel
theorem dX5_init_0 : decode cX5_init 0 = .ok (.aload_n 0, 1) := by decide +kernel
theorem dX5_init_1 : decode cX5_init 1 = .ok (.invokespecial 3, 3) := by decide +kernel
theorem dX5_init_4 : decode cX5_init 4 = .ok (.aload_n 0, 1) := by decide +kernel
theorem dX5_init_5 : decode cX5_init 5 = .ok (.bipush 8, 2) := by decide +kernel
theorem dX5_init_7 : decode cX5_init 7 = .ok (.newarray .int, 2) := by decide +kernel
theorem dX5_init_9 : decode cX5_init 9 = .ok (.putfield 9, 3) := by decide +kernel
theorem dX5_init_12 : decode cX5_init 12 = .ok (.aload_n 0, 1) := by decide +kernel
theorem dX5_init_13 : decode cX5_init 13 = .ok (.bipush 8, 2) := by decide +kernel
theorem dX5_init_15 : decode cX5_init 15 = .ok (.newarray .boolean, 2) := by decide +kernel
theorem dX5_init_17 : decode cX5_init 17 = .ok (.putfield 15, 3) := by decide +kernel
theorem dX5_init_20 : decode cX5_init 20 = .ok (.aload_n 0, 1) := by decide +kernel
theorem dX5_init_21 : decode cX5_init 21 = .ok (.bipush 8, 2) := by decide +kernel
theorem dX5_init_23 : decode cX5_init 23 = .ok (.newarray .boolean, 2) := by decide +kernel
theorem dX5_init_25 : decode cX5_init 25 = .ok (.putfield 19, 3) := by decide +kernel
theorem dX5_init_28 : decode cX5_init 28 = .ok (.aload_n 0, 1) := by decide +kernel
theorem dX5_init_29 : decode cX5_init 29 = .ok (.getfield 9, 3) := by decide +kernel
theorem dX5_init_32 : decode cX5_init 32 = .ok (.iconst (-1), 1) := by decide +kernel
theorem dX5_init_33 : decode cX5_init 33 = .ok (.invokestatic 22, 3) := by decide +kernel
theorem dX5_init_36 : decode cX5_init 36 = .ok (.return_, 1) := by decide +kernel
theorem dX5_wordIn_0 : decode cX5_wordIn 0 = .ok (.iload_n 1, 1) := by decide +kernel
theorem dX5_wordIn_1 : decode cX5_wordIn 1 = .ok (.ifCond .lt 18, 3) := by decide +kernel
theorem dX5_wordIn_4 : decode cX5_wordIn 4 = .ok (.iload_n 1, 1) := by decide +kernel
theorem dX5_wordIn_5 : decode cX5_wordIn 5 = .ok (.bipush 8, 2) := by decide +kernel
theorem dX5_wordIn_7 : decode cX5_wordIn 7 = .ok (.if_icmp .ge 12, 3) := by decide +kernel
theorem dX5_wordIn_10 : decode cX5_wordIn 10 = .ok (.aload_n 0, 1) := by decide +kernel
theorem dX5_wordIn_11 : decode cX5_wordIn 11 = .ok (.getfield 9, 3) := by decide +kernel
theorem dX5_wordIn_14 : decode cX5_wordIn 14 = .ok (.iload_n 1, 1) := by decide +kernel
theorem dX5_wordIn_15 : decode cX5_wordIn 15 = .ok (.iaload, 1) := by decide +kernel
theorem dX5_wordIn_16 : decode cX5_wordIn 16 = .ok (.goto 4, 3) := by decide +kernel
theorem dX5_wordIn_19 : decode cX5_wordIn 19 = .ok (.iconst (-1), 1) := by decide +kernel
theorem dX5_wordIn_20 : decode cX5_wordIn 20 = .ok (.ireturn, 1) := by decide +kernel
theorem dX5_isOnTheWay_0 : decode cX5_isOnTheWay 0 = .ok (.iload_n 1, 1) := by decide +kernel
theorem dX5_isOnTheWay_1 : decode cX5_isOnTheWay 1 = .ok (.ifCond .lt 22, 3) := by decide +kernel
theorem dX5_isOnTheWay_4 : decode cX5_isOnTheWay 4 = .ok (.iload_n 1, 1) := by decide +kernel
theorem dX5_isOnTheWay_5 : decode cX5_isOnTheWay 5 = .ok (.bipush 8, 2) := by decide +kernel
theorem dX5_isOnTheWay_7 : decode cX5_isOnTheWay 7 = .ok (.if_icmp .ge 16, 3) := by decide +kernel
theorem dX5_isOnTheWay_10 : decode cX5_isOnTheWay 10 = .ok (.aload_n 0, 1) := by decide +kernel
theorem dX5_isOnTheWay_11 : decode cX5_isOnTheWay 11 = .ok (.getfield 15, 3) := by decide +kernel
theorem dX5_isOnTheWay_14 : decode cX5_isOnTheWay 14 = .ok (.iload_n 1, 1) := by decide +kernel
theorem dX5_isOnTheWay_15 : decode cX5_isOnTheWay 15 = .ok (.baload, 1) := by decide +kernel
theorem dX5_isOnTheWay_16 : decode cX5_isOnTheWay 16 = .ok (.ifCond .eq 7, 3) := by decide +kernel
theorem dX5_isOnTheWay_19 : decode cX5_isOnTheWay 19 = .ok (.iconst 1, 1) := by decide +kernel
theorem dX5_isOnTheWay_20 : decode cX5_isOnTheWay 20 = .ok (.goto 4, 3) := by decide +kernel
theorem dX5_isOnTheWay_23 : decode cX5_isOnTheWay 23 = .ok (.iconst 0, 1) := by decide +kernel
theorem dX5_isOnTheWay_24 : decode cX5_isOnTheWay 24 = .ok (.ireturn, 1) := by decide +kernel
theorem dX5_isGoing_0 : decode cX5_isGoing 0 = .ok (.iload_n 1, 1) := by decide +kernel
theorem dX5_isGoing_1 : decode cX5_isGoing 1 = .ok (.ifCond .lt 22, 3) := by decide +kernel
theorem dX5_isGoing_4 : decode cX5_isGoing 4 = .ok (.iload_n 1, 1) := by decide +kernel
theorem dX5_isGoing_5 : decode cX5_isGoing 5 = .ok (.bipush 8, 2) := by decide +kernel
theorem dX5_isGoing_7 : decode cX5_isGoing 7 = .ok (.if_icmp .ge 16, 3) := by decide +kernel
theorem dX5_isGoing_10 : decode cX5_isGoing 10 = .ok (.aload_n 0, 1) := by decide +kernel
theorem dX5_isGoing_11 : decode cX5_isGoing 11 = .ok (.getfield 19, 3) := by decide +kernel
theorem dX5_isGoing_14 : decode cX5_isGoing 14 = .ok (.iload_n 1, 1) := by decide +kernel
theorem dX5_isGoing_15 : decode cX5_isGoing 15 = .ok (.baload, 1) := by decide +kernel
theorem dX5_isGoing_16 : decode cX5_isGoing 16 = .ok (.ifCond .eq 7, 3) := by decide +kernel
theorem dX5_isGoing_19 : decode cX5_isGoing 19 = .ok (.iconst 1, 1) := by decide +kernel
theorem dX5_isGoing_20 : decode cX5_isGoing 20 = .ok (.goto 4, 3) := by decide +kernel
theorem dX5_isGoing_23 : decode cX5_isGoing 23 = .ok (.iconst 0, 1) := by decide +kernel
theorem dX5_isGoing_24 : decode cX5_isGoing 24 = .ok (.ireturn, 1) := by decide +kernel
theorem dX5_put_0 : decode cX5_put 0 = .ok (.iload_n 1, 1) := by decide +kernel
theorem dX5_put_1 : decode cX5_put 1 = .ok (.ifCond .lt 31, 3) := by decide +kernel
theorem dX5_put_4 : decode cX5_put 4 = .ok (.iload_n 1, 1) := by decide +kernel
theorem dX5_put_5 : decode cX5_put 5 = .ok (.bipush 8, 2) := by decide +kernel
theorem dX5_put_7 : decode cX5_put 7 = .ok (.if_icmp .ge 25, 3) := by decide +kernel
theorem dX5_put_10 : decode cX5_put 10 = .ok (.aload_n 0, 1) := by decide +kernel
theorem dX5_put_11 : decode cX5_put 11 = .ok (.getfield 9, 3) := by decide +kernel
theorem dX5_put_14 : decode cX5_put 14 = .ok (.iload_n 1, 1) := by decide +kernel
theorem dX5_put_15 : decode cX5_put 15 = .ok (.iload_n 2, 1) := by decide +kernel
theorem dX5_put_16 : decode cX5_put 16 = .ok (.iastore, 1) := by decide +kernel
theorem dX5_put_17 : decode cX5_put 17 = .ok (.aload_n 0, 1) := by decide +kernel
theorem dX5_put_18 : decode cX5_put 18 = .ok (.getfield 15, 3) := by decide +kernel
theorem dX5_put_21 : decode cX5_put 21 = .ok (.iload_n 1, 1) := by decide +kernel
theorem dX5_put_22 : decode cX5_put 22 = .ok (.iload_n 3, 1) := by decide +kernel
theorem dX5_put_23 : decode cX5_put 23 = .ok (.bastore, 1) := by decide +kernel
theorem dX5_put_24 : decode cX5_put 24 = .ok (.aload_n 0, 1) := by decide +kernel
theorem dX5_put_25 : decode cX5_put 25 = .ok (.getfield 19, 3) := by decide +kernel
theorem dX5_put_28 : decode cX5_put 28 = .ok (.iload_n 1, 1) := by decide +kernel
theorem dX5_put_29 : decode cX5_put 29 = .ok (.iload 4, 2) := by decide +kernel
theorem dX5_put_31 : decode cX5_put 31 = .ok (.bastore, 1) := by decide +kernel
theorem dX5_put_32 : decode cX5_put 32 = .ok (.return_, 1) := by decide +kernel
theorem dX5_empty_0 : decode cX5_empty 0 = .ok (.aload_n 0, 1) := by decide +kernel
theorem dX5_empty_1 : decode cX5_empty 1 = .ok (.iload_n 1, 1) := by decide +kernel
theorem dX5_empty_2 : decode cX5_empty 2 = .ok (.iconst (-1), 1) := by decide +kernel
theorem dX5_empty_3 : decode cX5_empty 3 = .ok (.iconst 0, 1) := by decide +kernel
theorem dX5_empty_4 : decode cX5_empty 4 = .ok (.iconst 0, 1) := by decide +kernel
theorem dX5_empty_5 : decode cX5_empty 5 = .ok (.invokevirtual 28, 3) := by decide +kernel
theorem dX5_empty_8 : decode cX5_empty 8 = .ok (.return_, 1) := by decide +kernel
theorem dX5_moveOnFrom_0 : decode cX5_moveOnFrom 0 = .ok (.aload_n 0, 1) := by decide +kernel
theorem dX5_moveOnFrom_1 : decode cX5_moveOnFrom 1 = .ok (.iload_n 1, 1) := by decide +kernel
theorem dX5_moveOnFrom_2 : decode cX5_moveOnFrom 2 = .ok (.iconst 1, 1) := by decide +kernel
theorem dX5_moveOnFrom_3 : decode cX5_moveOnFrom 3 = .ok (.iadd, 1) := by decide +kernel
theorem dX5_moveOnFrom_4 : decode cX5_moveOnFrom 4 = .ok (.aload_n 0, 1) := by decide +kernel
theorem dX5_moveOnFrom_5 : decode cX5_moveOnFrom 5 = .ok (.iload_n 1, 1) := by decide +kernel
theorem dX5_moveOnFrom_6 : decode cX5_moveOnFrom 6 = .ok (.invokevirtual 32, 3) := by decide +kernel
theorem dX5_moveOnFrom_9 : decode cX5_moveOnFrom 9 = .ok (.aload_n 0, 1) := by decide +kernel
theorem dX5_moveOnFrom_10 : decode cX5_moveOnFrom 10 = .ok (.iload_n 1, 1) := by decide +kernel
theorem dX5_moveOnFrom_11 : decode cX5_moveOnFrom 11 = .ok (.invokevirtual 36, 3) := by decide +kernel
theorem dX5_moveOnFrom_14 : decode cX5_moveOnFrom 14 = .ok (.aload_n 0, 1) := by decide +kernel
theorem dX5_moveOnFrom_15 : decode cX5_moveOnFrom 15 = .ok (.iload_n 1, 1) := by decide +kernel
theorem dX5_moveOnFrom_16 : decode cX5_moveOnFrom 16 = .ok (.invokevirtual 40, 3) := by decide +kernel
theorem dX5_moveOnFrom_19 : decode cX5_moveOnFrom 19 = .ok (.invokevirtual 28, 3) := by decide +kernel
theorem dX5_moveOnFrom_22 : decode cX5_moveOnFrom 22 = .ok (.aload_n 0, 1) := by decide +kernel
theorem dX5_moveOnFrom_23 : decode cX5_moveOnFrom 23 = .ok (.iload_n 1, 1) := by decide +kernel
theorem dX5_moveOnFrom_24 : decode cX5_moveOnFrom 24 = .ok (.invokevirtual 43, 3) := by decide +kernel
theorem dX5_moveOnFrom_27 : decode cX5_moveOnFrom 27 = .ok (.return_, 1) := by decide +kernel
theorem dX5_squashBelow_0 : decode cX5_squashBelow 0 = .ok (.iconst 0, 1) := by decide +kernel
theorem dX5_squashBelow_1 : decode cX5_squashBelow 1 = .ok (.istore_n 2, 1) := by decide +kernel
theorem dX5_squashBelow_2 : decode cX5_squashBelow 2 = .ok (.iconst 0, 1) := by decide +kernel
theorem dX5_squashBelow_3 : decode cX5_squashBelow 3 = .ok (.istore_n 3, 1) := by decide +kernel
theorem dX5_squashBelow_4 : decode cX5_squashBelow 4 = .ok (.iload_n 3, 1) := by decide +kernel
theorem dX5_squashBelow_5 : decode cX5_squashBelow 5 = .ok (.bipush 8, 2) := by decide +kernel
theorem dX5_squashBelow_7 : decode cX5_squashBelow 7 = .ok (.if_icmp .ge 35, 3) := by decide +kernel
theorem dX5_squashBelow_10 : decode cX5_squashBelow 10 = .ok (.iload_n 3, 1) := by decide +kernel
theorem dX5_squashBelow_11 : decode cX5_squashBelow 11 = .ok (.iload_n 1, 1) := by decide +kernel
theorem dX5_squashBelow_12 : decode cX5_squashBelow 12 = .ok (.if_icmp .ge 30, 3) := by decide +kernel
theorem dX5_squashBelow_15 : decode cX5_squashBelow 15 = .ok (.aload_n 0, 1) := by decide +kernel
theorem dX5_squashBelow_16 : decode cX5_squashBelow 16 = .ok (.getfield 9, 3) := by decide +kernel
theorem dX5_squashBelow_19 : decode cX5_squashBelow 19 = .ok (.iload_n 3, 1) := by decide +kernel
theorem dX5_squashBelow_20 : decode cX5_squashBelow 20 = .ok (.iaload, 1) := by decide +kernel
theorem dX5_squashBelow_21 : decode cX5_squashBelow 21 = .ok (.iconst (-1), 1) := by decide +kernel
theorem dX5_squashBelow_22 : decode cX5_squashBelow 22 = .ok (.if_icmp .eq 6, 3) := by decide +kernel
theorem dX5_squashBelow_25 : decode cX5_squashBelow 25 = .ok (.iinc 2 1, 3) := by decide +kernel
theorem dX5_squashBelow_28 : decode cX5_squashBelow 28 = .ok (.aload_n 0, 1) := by decide +kernel
theorem dX5_squashBelow_29 : decode cX5_squashBelow 29 = .ok (.iload_n 3, 1) := by decide +kernel
theorem dX5_squashBelow_30 : decode cX5_squashBelow 30 = .ok (.iconst (-1), 1) := by decide +kernel
theorem dX5_squashBelow_31 : decode cX5_squashBelow 31 = .ok (.iconst 0, 1) := by decide +kernel
theorem dX5_squashBelow_32 : decode cX5_squashBelow 32 = .ok (.iconst 0, 1) := by decide +kernel
theorem dX5_squashBelow_33 : decode cX5_squashBelow 33 = .ok (.invokevirtual 28, 3) := by decide +kernel
theorem dX5_squashBelow_36 : decode cX5_squashBelow 36 = .ok (.iinc 3 1, 3) := by decide +kernel
theorem dX5_squashBelow_39 : decode cX5_squashBelow 39 = .ok (.goto (-35), 3) := by decide +kernel
theorem dX5_squashBelow_42 : decode cX5_squashBelow 42 = .ok (.iload_n 2, 1) := by decide +kernel
theorem dX5_squashBelow_43 : decode cX5_squashBelow 43 = .ok (.ireturn, 1) := by decide +kernel
theorem dX5_beginAnew_0 : decode cX5_beginAnew 0 = .ok (.aload_n 0, 1) := by decide +kernel
theorem dX5_beginAnew_1 : decode cX5_beginAnew 1 = .ok (.bipush 8, 2) := by decide +kernel
theorem dX5_beginAnew_3 : decode cX5_beginAnew 3 = .ok (.invokevirtual 47, 3) := by decide +kernel
theorem dX5_beginAnew_6 : decode cX5_beginAnew 6 = .ok (.pop, 1) := by decide +kernel
theorem dX5_beginAnew_7 : decode cX5_beginAnew 7 = .ok (.return_, 1) := by decide +kernel
theorem dX6_init_0 : decode cX6_init 0 = .ok (.aload_n 0, 1) := by decide +kernel
theorem dX6_init_1 : decode cX6_init 1 = .ok (.invokespecial 3, 3) := by decide +kernel
theorem dX6_init_4 : decode cX6_init 4 = .ok (.aload_n 0, 1) := by decide +kernel
theorem dX6_init_5 : decode cX6_init 5 = .ok (.iconst 5, 1) := by decide +kernel
theorem dX6_init_6 : decode cX6_init 6 = .ok (.newarray .int, 2) := by decide +kernel
theorem dX6_init_8 : decode cX6_init 8 = .ok (.putfield 9, 3) := by decide +kernel
theorem dX6_init_11 : decode cX6_init 11 = .ok (.return_, 1) := by decide +kernel
theorem dX6_beginAnew_0 : decode cX6_beginAnew 0 = .ok (.aload_n 0, 1) := by decide +kernel
theorem dX6_beginAnew_1 : decode cX6_beginAnew 1 = .ok (.getfield 9, 3) := by decide +kernel
theorem dX6_beginAnew_4 : decode cX6_beginAnew 4 = .ok (.iconst 0, 1) := by decide +kernel
theorem dX6_beginAnew_5 : decode cX6_beginAnew 5 = .ok (.invokestatic 15, 3) := by decide +kernel
theorem dX6_beginAnew_8 : decode cX6_beginAnew 8 = .ok (.aload_n 0, 1) := by decide +kernel
theorem dX6_beginAnew_9 : decode cX6_beginAnew 9 = .ok (.iconst 0, 1) := by decide +kernel
theorem dX6_beginAnew_10 : decode cX6_beginAnew 10 = .ok (.putfield 21, 3) := by decide +kernel
theorem dX6_beginAnew_13 : decode cX6_beginAnew 13 = .ok (.aload_n 0, 1) := by decide +kernel
theorem dX6_beginAnew_14 : decode cX6_beginAnew 14 = .ok (.iconst 0, 1) := by decide +kernel
theorem dX6_beginAnew_15 : decode cX6_beginAnew 15 = .ok (.putfield 25, 3) := by decide +kernel
theorem dX6_beginAnew_18 : decode cX6_beginAnew 18 = .ok (.aload_n 0, 1) := by decide +kernel
theorem dX6_beginAnew_19 : decode cX6_beginAnew 19 = .ok (.iconst 0, 1) := by decide +kernel
theorem dX6_beginAnew_20 : decode cX6_beginAnew 20 = .ok (.putfield 28, 3) := by decide +kernel
theorem dX6_beginAnew_23 : decode cX6_beginAnew 23 = .ok (.aload_n 0, 1) := by decide +kernel
theorem dX6_beginAnew_24 : decode cX6_beginAnew 24 = .ok (.iconst 0, 1) := by decide +kernel
theorem dX6_beginAnew_25 : decode cX6_beginAnew 25 = .ok (.putfield 31, 3) := by decide +kernel
theorem dX6_beginAnew_28 : decode cX6_beginAnew 28 = .ok (.aload_n 0, 1) := by decide +kernel
theorem dX6_beginAnew_29 : decode cX6_beginAnew 29 = .ok (.iconst 0, 1) := by decide +kernel
theorem dX6_beginAnew_30 : decode cX6_beginAnew 30 = .ok (.putfield 34, 3) := by decide +kernel
theorem dX6_beginAnew_33 : decode cX6_beginAnew 33 = .ok (.aload_n 0, 1) := by decide +kernel
theorem dX6_beginAnew_34 : decode cX6_beginAnew 34 = .ok (.iconst 0, 1) := by decide +kernel
theorem dX6_beginAnew_35 : decode cX6_beginAnew 35 = .ok (.putfield 37, 3) := by decide +kernel
theorem dX6_beginAnew_38 : decode cX6_beginAnew 38 = .ok (.aload_n 0, 1) := by decide +kernel
theorem dX6_beginAnew_39 : decode cX6_beginAnew 39 = .ok (.iconst 0, 1) := by decide +kernel
theorem dX6_beginAnew_40 : decode cX6_beginAnew 40 = .ok (.putfield 40, 3) := by decide +kernel
theorem dX6_beginAnew_43 : decode cX6_beginAnew 43 = .ok (.return_, 1) := by decide +kernel
theorem dX6_addCause_0 : decode cX6_addCause 0 = .ok (.iload_n 1, 1) := by decide +kernel
theorem dX6_addCause_1 : decode cX6_addCause 1 = .ok (.ifCond .lt 18, 3) := by decide +kernel
theorem dX6_addCause_4 : decode cX6_addCause 4 = .ok (.iload_n 1, 1) := by decide +kernel
theorem dX6_addCause_5 : decode cX6_addCause 5 = .ok (.iconst 5, 1) := by decide +kernel
theorem dX6_addCause_6 : decode cX6_addCause 6 = .ok (.if_icmp .ge 13, 3) := by decide +kernel
theorem dX6_addCause_9 : decode cX6_addCause 9 = .ok (.aload_n 0, 1) := by decide +kernel
theorem dX6_addCause_10 : decode cX6_addCause 10 = .ok (.getfield 9, 3) := by decide +kernel
theorem dX6_addCause_13 : decode cX6_addCause 13 = .ok (.iload_n 1, 1) := by decide +kernel
theorem dX6_addCause_14 : decode cX6_addCause 14 = .ok (.dup2, 1) := by decide +kernel
theorem dX6_addCause_15 : decode cX6_addCause 15 = .ok (.iaload, 1) := by decide +kernel
theorem dX6_addCause_16 : decode cX6_addCause 16 = .ok (.iconst 1, 1) := by decide +kernel
theorem dX6_addCause_17 : decode cX6_addCause 17 = .ok (.iadd, 1) := by decide +kernel
theorem dX6_addCause_18 : decode cX6_addCause 18 = .ok (.iastore, 1) := by decide +kernel
theorem dX6_addCause_19 : decode cX6_addCause 19 = .ok (.return_, 1) := by decide +kernel
theorem dX6_cyclesWith_0 : decode cX6_cyclesWith 0 = .ok (.iload_n 1, 1) := by decide +kernel
theorem dX6_cyclesWith_1 : decode cX6_cyclesWith 1 = .ok (.ifCond .lt 17, 3) := by decide +kernel
theorem dX6_cyclesWith_4 : decode cX6_cyclesWith 4 = .ok (.iload_n 1, 1) := by decide +kernel
theorem dX6_cyclesWith_5 : decode cX6_cyclesWith 5 = .ok (.iconst 5, 1) := by decide +kernel
theorem dX6_cyclesWith_6 : decode cX6_cyclesWith 6 = .ok (.if_icmp .ge 12, 3) := by decide +kernel
theorem dX6_cyclesWith_9 : decode cX6_cyclesWith 9 = .ok (.aload_n 0, 1) := by decide +kernel
theorem dX6_cyclesWith_10 : decode cX6_cyclesWith 10 = .ok (.getfield 9, 3) := by decide +kernel
theorem dX6_cyclesWith_13 : decode cX6_cyclesWith 13 = .ok (.iload_n 1, 1) := by decide +kernel
theorem dX6_cyclesWith_14 : decode cX6_cyclesWith 14 = .ok (.iaload, 1) := by decide +kernel
theorem dX6_cyclesWith_15 : decode cX6_cyclesWith 15 = .ok (.goto 4, 3) := by decide +kernel
theorem dX6_cyclesWith_18 : decode cX6_cyclesWith 18 = .ok (.iconst 0, 1) := by decide +kernel
theorem dX6_cyclesWith_19 : decode cX6_cyclesWith 19 = .ok (.ireturn, 1) := by decide +kernel
theorem dJ9_floorMod_0 : decode cJ9_floorMod 0 = .ok (.iload_n 0, 1) := by decide +kernel
theorem dJ9_floorMod_1 : decode cJ9_floorMod 1 = .ok (.iload_n 1, 1) := by decide +kernel
theorem dJ9_floorMod_2 : decode cJ9_floorMod 2 = .ok (.irem, 1) := by decide +kernel
theorem dJ9_floorMod_3 : decode cJ9_floorMod 3 = .ok (.istore_n 2, 1) := by decide +kernel
theorem dJ9_floorMod_4 : decode cJ9_floorMod 4 = .ok (.iload_n 0, 1) := by decide +kernel
theorem dJ9_floorMod_5 : decode cJ9_floorMod 5 = .ok (.iload_n 1, 1) := by decide +kernel
theorem dJ9_floorMod_6 : decode cJ9_floorMod 6 = .ok (.ixor, 1) := by decide +kernel
theorem dJ9_floorMod_7 : decode cJ9_floorMod 7 = .ok (.ifCond .ge 11, 3) := by decide +kernel
theorem dJ9_floorMod_10 : decode cJ9_floorMod 10 = .ok (.iload_n 2, 1) := by decide +kernel
theorem dJ9_floorMod_11 : decode cJ9_floorMod 11 = .ok (.ifCond .eq 7, 3) := by decide +kernel
theorem dJ9_floorMod_14 : decode cJ9_floorMod 14 = .ok (.iload_n 2, 1) := by decide +kernel
theorem dJ9_floorMod_15 : decode cJ9_floorMod 15 = .ok (.iload_n 1, 1) := by decide +kernel
theorem dJ9_floorMod_16 : decode cJ9_floorMod 16 = .ok (.iadd, 1) := by decide +kernel
theorem dJ9_floorMod_17 : decode cJ9_floorMod 17 = .ok (.ireturn, 1) := by decide +kernel
theorem dJ9_floorMod_18 : decode cJ9_floorMod 18 = .ok (.iload_n 2, 1) := by decide +kernel
theorem dJ9_floorMod_19 : decode cJ9_floorMod 19 = .ok (.ireturn, 1) := by decide +kernel
theorem dJ7_fill_0 : decode cJ7_fill 0 = .ok (.iconst 0, 1) := by decide +kernel
theorem dJ7_fill_1 : decode cJ7_fill 1 = .ok (.istore_n 2, 1) := by decide +kernel
theorem dJ7_fill_2 : decode cJ7_fill 2 = .ok (.aload_n 0, 1) := by decide +kernel
theorem dJ7_fill_3 : decode cJ7_fill 3 = .ok (.arraylength, 1) := by decide +kernel
theorem dJ7_fill_4 : decode cJ7_fill 4 = .ok (.istore_n 3, 1) := by decide +kernel
theorem dJ7_fill_5 : decode cJ7_fill 5 = .ok (.iload_n 2, 1) := by decide +kernel
theorem dJ7_fill_6 : decode cJ7_fill 6 = .ok (.iload_n 3, 1) := by decide +kernel
theorem dJ7_fill_7 : decode cJ7_fill 7 = .ok (.if_icmp .ge 13, 3) := by decide +kernel
theorem dJ7_fill_10 : decode cJ7_fill 10 = .ok (.aload_n 0, 1) := by decide +kernel
theorem dJ7_fill_11 : decode cJ7_fill 11 = .ok (.iload_n 2, 1) := by decide +kernel
theorem dJ7_fill_12 : decode cJ7_fill 12 = .ok (.iload_n 1, 1) := by decide +kernel
theorem dJ7_fill_13 : decode cJ7_fill 13 = .ok (.iastore, 1) := by decide +kernel
theorem dJ7_fill_14 : decode cJ7_fill 14 = .ok (.iinc 2 1, 3) := by decide +kernel
theorem dJ7_fill_17 : decode cJ7_fill 17 = .ok (.goto (-12), 3) := by decide +kernel
theorem dJ7_fill_20 : decode cJ7_fill 20 = .ok (.return_, 1) := by decide +kernel

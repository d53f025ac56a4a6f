theorem d_mo_trait_20 : decode (q_cc m_mo_trait) 20 = .ok (.ireturn, 1) := by decide +kernel
theorem d_mo_trait_21 : decode (q_cc m_mo_trait) 21 = .ok (.iload_n 3, 1) := by decide +kernel
theorem d_mo_trait_22 : decode (q_cc m_mo_trait) 22 = .ok (.tableswitch 139 0 4 #[34, 34, 58, 85, 112], 34) := by decide +kernel
theorem d_mo_trait_56 : decode (q_cc m_mo_trait) 56 = .ok (.iload_n 2, 1) := by decide +kernel
theorem d_mo_trait_57 : decode (q_cc m_mo_trait) 57 = .ok (.iconst (-1), 1) := by decide +kernel
theorem d_mo_trait_58 : decode (q_cc m_mo_trait) 58 = .ok (.if_icmp .ne 20, 3) := by decide +kernel
theorem d_mo_trait_61 : decode (q_cc m_mo_trait) 61 = .ok (.aload_n 0, 1) := by decide +kernel
theorem d_mo_trait_62 : decode (q_cc m_mo_trait) 62 = .ok (.getfield 100, 3) := by decide +kernel
theorem d_mo_trait_65 : decode (q_cc m_mo_trait) 65 = .ok (.bipush 12, 2) := by decide +kernel
theorem d_mo_trait_67 : decode (q_cc m_mo_trait) 67 = .ok (.bipush 6, 2) := by decide +kernel
theorem d_mo_trait_69 : decode (q_cc m_mo_trait) 69 = .ok (.iload_n 3, 1) := by decide +kernel
theorem d_mo_trait_70 : decode (q_cc m_mo_trait) 70 = .ok (.imul, 1) := by decide +kernel
theorem d_mo_trait_71 : decode (q_cc m_mo_trait) 71 = .ok (.iadd, 1) := by decide +kernel
theorem d_mo_trait_72 : decode (q_cc m_mo_trait) 72 = .ok (.iload_n 1, 1) := by decide +kernel
theorem d_mo_trait_73 : decode (q_cc m_mo_trait) 73 = .ok (.iadd, 1) := by decide +kernel
theorem d_mo_trait_74 : decode (q_cc m_mo_trait) 74 = .ok (.iaload, 1) := by decide +kernel
theorem d_mo_trait_75 : decode (q_cc m_mo_trait) 75 = .ok (.goto 4, 3) := by decide +kernel
theorem d_mo_trait_78 : decode (q_cc m_mo_trait) 78 = .ok (.iconst (-1), 1) := by decide +kernel
theorem d_mo_trait_79 : decode (q_cc m_mo_trait) 79 = .ok (.ireturn, 1) := by decide +kernel
theorem d_mo_trait_80 : decode (q_cc m_mo_trait) 80 = .ok (.aload_n 0, 1) := by decide +kernel
theorem d_mo_trait_81 : decode (q_cc m_mo_trait) 81 = .ok (.iload_n 2, 1) := by decide +kernel
theorem d_mo_trait_82 : decode (q_cc m_mo_trait) 82 = .ok (.invokevirtual 450, 3) := by decide +kernel
theorem d_mo_trait_85 : decode (q_cc m_mo_trait) 85 = .ok (.ifCond .eq 20, 3) := by decide +kernel
theorem d_mo_trait_88 : decode (q_cc m_mo_trait) 88 = .ok (.aload_n 0, 1) := by decide +kernel
theorem d_mo_trait_89 : decode (q_cc m_mo_trait) 89 = .ok (.getfield 103, 3) := by decide +kernel
theorem d_mo_trait_92 : decode (q_cc m_mo_trait) 92 = .ok (.bipush 48, 2) := by decide +kernel
theorem d_mo_trait_94 : decode (q_cc m_mo_trait) 94 = .ok (.bipush 6, 2) := by decide +kernel
theorem d_mo_trait_96 : decode (q_cc m_mo_trait) 96 = .ok (.iload_n 2, 1) := by decide +kernel
theorem d_mo_trait_97 : decode (q_cc m_mo_trait) 97 = .ok (.imul, 1) := by decide +kernel
theorem d_mo_trait_98 : decode (q_cc m_mo_trait) 98 = .ok (.iadd, 1) := by decide +kernel
theorem d_mo_trait_99 : decode (q_cc m_mo_trait) 99 = .ok (.iload_n 1, 1) := by decide +kernel
theorem d_mo_trait_100 : decode (q_cc m_mo_trait) 100 = .ok (.iadd, 1) := by decide +kernel
theorem d_mo_trait_101 : decode (q_cc m_mo_trait) 101 = .ok (.iaload, 1) := by decide +kernel
theorem d_mo_trait_102 : decode (q_cc m_mo_trait) 102 = .ok (.goto 4, 3) := by decide +kernel
theorem d_mo_trait_105 : decode (q_cc m_mo_trait) 105 = .ok (.iconst (-1), 1) := by decide +kernel
theorem d_mo_trait_106 : decode (q_cc m_mo_trait) 106 = .ok (.ireturn, 1) := by decide +kernel
theorem d_mo_trait_107 : decode (q_cc m_mo_trait) 107 = .ok (.aload_n 0, 1) := by decide +kernel
theorem d_mo_trait_108 : decode (q_cc m_mo_trait) 108 = .ok (.iload_n 2, 1) := by decide +kernel
theorem d_mo_trait_109 : decode (q_cc m_mo_trait) 109 = .ok (.invokevirtual 453, 3) := by decide +kernel
theorem d_mo_trait_112 : decode (q_cc m_mo_trait) 112 = .ok (.ifCond .eq 20, 3) := by decide +kernel
theorem d_mo_trait_115 : decode (q_cc m_mo_trait) 115 = .ok (.aload_n 0, 1) := by decide +kernel
theorem d_mo_trait_116 : decode (q_cc m_mo_trait) 116 = .ok (.getfield 106, 3) := by decide +kernel
theorem d_mo_trait_119 : decode (q_cc m_mo_trait) 119 = .ok (.bipush 30, 2) := by decide +kernel
theorem d_mo_trait_121 : decode (q_cc m_mo_trait) 121 = .ok (.bipush 6, 2) := by decide +kernel
theorem d_mo_trait_123 : decode (q_cc m_mo_trait) 123 = .ok (.iload_n 2, 1) := by decide +kernel
theorem d_mo_trait_124 : decode (q_cc m_mo_trait) 124 = .ok (.imul, 1) := by decide +kernel
theorem d_mo_trait_125 : decode (q_cc m_mo_trait) 125 = .ok (.iadd, 1) := by decide +kernel
theorem d_mo_trait_126 : decode (q_cc m_mo_trait) 126 = .ok (.iload_n 1, 1) := by decide +kernel
theorem d_mo_trait_127 : decode (q_cc m_mo_trait) 127 = .ok (.iadd, 1) := by decide +kernel
theorem d_mo_trait_128 : decode (q_cc m_mo_trait) 128 = .ok (.iaload, 1) := by decide +kernel
theorem d_mo_trait_129 : decode (q_cc m_mo_trait) 129 = .ok (.goto 4, 3) := by decide +kernel
theorem d_mo_trait_132 : decode (q_cc m_mo_trait) 132 = .ok (.iconst (-1), 1) := by decide +kernel
theorem d_mo_trait_133 : decode (q_cc m_mo_trait) 133 = .ok (.ireturn, 1) := by decide +kernel
theorem d_mo_trait_134 : decode (q_cc m_mo_trait) 134 = .ok (.aload_n 0, 1) := by decide +kernel
theorem d_mo_trait_135 : decode (q_cc m_mo_trait) 135 = .ok (.iload_n 2, 1) := by decide +kernel
theorem d_mo_trait_136 : decode (q_cc m_mo_trait) 136 = .ok (.invokevirtual 453, 3) := by decide +kernel
theorem d_mo_trait_139 : decode (q_cc m_mo_trait) 139 = .ok (.ifCond .eq 20, 3) := by decide +kernel
theorem d_mo_trait_142 : decode (q_cc m_mo_trait) 142 = .ok (.aload_n 0, 1) := by decide +kernel
theorem d_mo_trait_143 : decode (q_cc m_mo_trait) 143 = .ok (.getfield 109, 3) := by decide +kernel
theorem d_mo_trait_146 : decode (q_cc m_mo_trait) 146 = .ok (.bipush 30, 2) := by decide +kernel
theorem d_mo_trait_148 : decode (q_cc m_mo_trait) 148 = .ok (.bipush 6, 2) := by decide +kernel
theorem d_mo_trait_150 : decode (q_cc m_mo_trait) 150 = .ok (.iload_n 2, 1) := by decide +kernel
theorem d_mo_trait_151 : decode (q_cc m_mo_trait) 151 = .ok (.imul, 1) := by decide +kernel
theorem d_mo_trait_152 : decode (q_cc m_mo_trait) 152 = .ok (.iadd, 1) := by decide +kernel
theorem d_mo_trait_153 : decode (q_cc m_mo_trait) 153 = .ok (.iload_n 1, 1) := by decide +kernel
theorem d_mo_trait_154 : decode (q_cc m_mo_trait) 154 = .ok (.iadd, 1) := by decide +kernel
theorem d_mo_trait_155 : decode (q_cc m_mo_trait) 155 = .ok (.iaload, 1) := by decide +kernel
theorem d_mo_trait_156 : decode (q_cc m_mo_trait) 156 = .ok (.goto 4, 3) := by decide +kernel
theorem d_mo_trait_159 : decode (q_cc m_mo_trait) 159 = .ok (.iconst (-1), 1) := by decide +kernel
theorem d_mo_trait_160 : decode (q_cc m_mo_trait) 160 = .ok (.ireturn, 1) := by decide +kernel
theorem d_mo_trait_161 : decode (q_cc m_mo_trait) 161 = .ok (.iconst (-1), 1) := by decide +kernel
theorem d_mo_trait_162 : decode (q_cc m_mo_trait) 162 = .ok (.ireturn, 1) := by decide +kernel
theorem d_mo_seen_0 : decode (q_cc m_mo_seen) 0 = .ok (.aload_n 0, 1) := by decide +kernel
theorem d_mo_seen_1 : decode (q_cc m_mo_seen) 1 = .ok (.iload_n 1, 1) := by decide +kernel
theorem d_mo_seen_2 : decode (q_cc m_mo_seen) 2 = .ok (.invokevirtual 456, 3) := by decide +kernel
theorem d_mo_seen_5 : decode (q_cc m_mo_seen) 5 = .ok (.ifCond .eq 15, 3) := by decide +kernel
theorem d_mo_seen_8 : decode (q_cc m_mo_seen) 8 = .ok (.iload_n 2, 1) := by decide +kernel
theorem d_mo_seen_9 : decode (q_cc m_mo_seen) 9 = .ok (.i2l, 1) := by decide +kernel
theorem d_mo_seen_10 : decode (q_cc m_mo_seen) 10 = .ok (.lconst 0, 1) := by decide +kernel
theorem d_mo_seen_11 : decode (q_cc m_mo_seen) 11 = .ok (.ldc2_w 448, 3) := by decide +kernel
theorem d_mo_seen_14 : decode (q_cc m_mo_seen) 14 = .ok (.invokestatic 225, 3) := by decide +kernel
theorem d_mo_seen_17 : decode (q_cc m_mo_seen) 17 = .ok (.ifCond .ne 5, 3) := by decide +kernel
theorem d_mo_seen_20 : decode (q_cc m_mo_seen) 20 = .ok (.iconst (-1), 1) := by decide +kernel
theorem d_mo_seen_21 : decode (q_cc m_mo_seen) 21 = .ok (.ireturn, 1) := by decide +kernel
theorem d_mo_seen_22 : decode (q_cc m_mo_seen) 22 = .ok (.iload_n 2, 1) := by decide +kernel
theorem d_mo_seen_23 : decode (q_cc m_mo_seen) 23 = .ok (.iconst 5, 1) := by decide +kernel
theorem d_mo_seen_24 : decode (q_cc m_mo_seen) 24 = .ok (.if_icmp .ne 12, 3) := by decide +kernel
theorem d_mo_seen_27 : decode (q_cc m_mo_seen) 27 = .ok (.aload_n 0, 1) := by decide +kernel
theorem d_mo_seen_28 : decode (q_cc m_mo_seen) 28 = .ok (.getfield 148, 3) := by decide +kernel
theorem d_mo_seen_31 : decode (q_cc m_mo_seen) 31 = .ok (.iload_n 1, 1) := by decide +kernel
theorem d_mo_seen_32 : decode (q_cc m_mo_seen) 32 = .ok (.iaload, 1) := by decide +kernel
theorem d_mo_seen_33 : decode (q_cc m_mo_seen) 33 = .ok (.goto 16, 3) := by decide +kernel
theorem d_mo_seen_36 : decode (q_cc m_mo_seen) 36 = .ok (.aload_n 0, 1) := by decide +kernel
theorem d_mo_seen_37 : decode (q_cc m_mo_seen) 37 = .ok (.getfield 118, 3) := by decide +kernel
theorem d_mo_seen_40 : decode (q_cc m_mo_seen) 40 = .ok (.bipush 120, 2) := by decide +kernel
theorem d_mo_seen_42 : decode (q_cc m_mo_seen) 42 = .ok (.iconst 5, 1) := by decide +kernel
theorem d_mo_seen_43 : decode (q_cc m_mo_seen) 43 = .ok (.iload_n 1, 1) := by decide +kernel
theorem d_mo_seen_44 : decode (q_cc m_mo_seen) 44 = .ok (.imul, 1) := by decide +kernel
theorem d_mo_seen_45 : decode (q_cc m_mo_seen) 45 = .ok (.iadd, 1) := by decide +kernel
theorem d_mo_seen_46 : decode (q_cc m_mo_seen) 46 = .ok (.iload_n 2, 1) := by decide +kernel
theorem d_mo_seen_47 : decode (q_cc m_mo_seen) 47 = .ok (.iadd, 1) := by decide +kernel
theorem d_mo_seen_48 : decode (q_cc m_mo_seen) 48 = .ok (.iaload, 1) := by decide +kernel
theorem d_mo_seen_49 : decode (q_cc m_mo_seen) 49 = .ok (.ireturn, 1) := by decide +kernel
theorem d_mo_isPlaceHere_0 : decode (q_cc m_mo_isPlaceHere) 0 = .ok (.iload_n 1, 1) := by decide +kernel
theorem d_mo_isPlaceHere_1 : decode (q_cc m_mo_isPlaceHere) 1 = .ok (.i2l, 1) := by decide +kernel
theorem d_mo_isPlaceHere_2 : decode (q_cc m_mo_isPlaceHere) 2 = .ok (.lconst 0, 1) := by decide +kernel
theorem d_mo_isPlaceHere_3 : decode (q_cc m_mo_isPlaceHere) 3 = .ok (.aload_n 0, 1) := by decide +kernel
theorem d_mo_isPlaceHere_4 : decode (q_cc m_mo_isPlaceHere) 4 = .ok (.getfield 93, 3) := by decide +kernel
theorem d_mo_isPlaceHere_7 : decode (q_cc m_mo_isPlaceHere) 7 = .ok (.bipush 10, 2) := by decide +kernel
theorem d_mo_isPlaceHere_9 : decode (q_cc m_mo_isPlaceHere) 9 = .ok (.iaload, 1) := by decide +kernel
theorem d_mo_isPlaceHere_10 : decode (q_cc m_mo_isPlaceHere) 10 = .ok (.iconst 1, 1) := by decide +kernel
theorem d_mo_isPlaceHere_11 : decode (q_cc m_mo_isPlaceHere) 11 = .ok (.isub, 1) := by decide +kernel
theorem d_mo_isPlaceHere_12 : decode (q_cc m_mo_isPlaceHere) 12 = .ok (.i2l, 1) := by decide +kernel
theorem d_mo_isPlaceHere_13 : decode (q_cc m_mo_isPlaceHere) 13 = .ok (.invokestatic 225, 3) := by decide +kernel
theorem d_mo_isPlaceHere_16 : decode (q_cc m_mo_isPlaceHere) 16 = .ok (.ireturn, 1) := by decide +kernel
theorem d_mo_far_0 : decode (q_cc m_mo_far) 0 = .ok (.aload_n 0, 1) := by decide +kernel
theorem d_mo_far_1 : decode (q_cc m_mo_far) 1 = .ok (.iload_n 1, 1) := by decide +kernel
theorem d_mo_far_2 : decode (q_cc m_mo_far) 2 = .ok (.invokevirtual 459, 3) := by decide +kernel
theorem d_mo_far_5 : decode (q_cc m_mo_far) 5 = .ok (.ifCond .eq 11, 3) := by decide +kernel
theorem d_mo_far_8 : decode (q_cc m_mo_far) 8 = .ok (.aload_n 0, 1) := by decide +kernel
theorem d_mo_far_9 : decode (q_cc m_mo_far) 9 = .ok (.iload_n 2, 1) := by decide +kernel
theorem d_mo_far_10 : decode (q_cc m_mo_far) 10 = .ok (.invokevirtual 459, 3) := by decide +kernel
theorem d_mo_far_13 : decode (q_cc m_mo_far) 13 = .ok (.ifCond .ne 5, 3) := by decide +kernel
theorem d_mo_far_16 : decode (q_cc m_mo_far) 16 = .ok (.iconst (-1), 1) := by decide +kernel
theorem d_mo_far_17 : decode (q_cc m_mo_far) 17 = .ok (.ireturn, 1) := by decide +kernel
theorem d_mo_far_18 : decode (q_cc m_mo_far) 18 = .ok (.aload_n 0, 1) := by decide +kernel
theorem d_mo_far_19 : decode (q_cc m_mo_far) 19 = .ok (.getfield 115, 3) := by decide +kernel
theorem d_mo_far_22 : decode (q_cc m_mo_far) 22 = .ok (.bipush 64, 2) := by decide +kernel
theorem d_mo_far_24 : decode (q_cc m_mo_far) 24 = .ok (.bipush 8, 2) := by decide +kernel
theorem d_mo_far_26 : decode (q_cc m_mo_far) 26 = .ok (.iload_n 1, 1) := by decide +kernel
theorem d_mo_far_27 : decode (q_cc m_mo_far) 27 = .ok (.imul, 1) := by decide +kernel
theorem d_mo_far_28 : decode (q_cc m_mo_far) 28 = .ok (.iadd, 1) := by decide +kernel
theorem d_mo_far_29 : decode (q_cc m_mo_far) 29 = .ok (.iload_n 2, 1) := by decide +kernel
theorem d_mo_far_30 : decode (q_cc m_mo_far) 30 = .ok (.iadd, 1) := by decide +kernel
theorem d_mo_far_31 : decode (q_cc m_mo_far) 31 = .ok (.iaload, 1) := by decide +kernel
theorem d_mo_far_32 : decode (q_cc m_mo_far) 32 = .ok (.istore_n 3, 1) := by decide +kernel
theorem d_mo_far_33 : decode (q_cc m_mo_far) 33 = .ok (.iload_n 3, 1) := by decide +kernel
theorem d_mo_far_34 : decode (q_cc m_mo_far) 34 = .ok (.sipush 1000, 3) := by decide +kernel
theorem d_mo_far_37 : decode (q_cc m_mo_far) 37 = .ok (.if_icmp .lt 7, 3) := by decide +kernel
theorem d_mo_far_40 : decode (q_cc m_mo_far) 40 = .ok (.iconst (-1), 1) := by decide +kernel
theorem d_mo_far_41 : decode (q_cc m_mo_far) 41 = .ok (.goto 4, 3) := by decide +kernel
theorem d_mo_far_44 : decode (q_cc m_mo_far) 44 = .ok (.iload_n 3, 1) := by decide +kernel
theorem d_mo_far_45 : decode (q_cc m_mo_far) 45 = .ok (.ireturn, 1) := by decide +kernel
theorem d_mo_pass_0 : decode (q_cc m_mo_pass) 0 = .ok (.aload_n 0, 1) := by decide +kernel
theorem d_mo_pass_1 : decode (q_cc m_mo_pass) 1 = .ok (.iload_n 1, 1) := by decide +kernel
theorem d_mo_pass_2 : decode (q_cc m_mo_pass) 2 = .ok (.invokevirtual 453, 3) := by decide +kernel
theorem d_mo_pass_5 : decode (q_cc m_mo_pass) 5 = .ok (.ifCond .eq 25, 3) := by decide +kernel
theorem d_mo_pass_8 : decode (q_cc m_mo_pass) 8 = .ok (.aload_n 0, 1) := by decide +kernel
theorem d_mo_pass_9 : decode (q_cc m_mo_pass) 9 = .ok (.iload_n 2, 1) := by decide +kernel
theorem d_mo_pass_10 : decode (q_cc m_mo_pass) 10 = .ok (.invokevirtual 456, 3) := by decide +kernel
theorem d_mo_pass_13 : decode (q_cc m_mo_pass) 13 = .ok (.ifCond .eq 17, 3) := by decide +kernel
theorem d_mo_pass_16 : decode (q_cc m_mo_pass) 16 = .ok (.aload_n 0, 1) := by decide +kernel
theorem d_mo_pass_17 : decode (q_cc m_mo_pass) 17 = .ok (.getfield 142, 3) := by decide +kernel
theorem d_mo_pass_20 : decode (q_cc m_mo_pass) 20 = .ok (.bipush 24, 2) := by decide +kernel
theorem d_mo_pass_22 : decode (q_cc m_mo_pass) 22 = .ok (.iload_n 1, 1) := by decide +kernel
theorem d_mo_pass_23 : decode (q_cc m_mo_pass) 23 = .ok (.imul, 1) := by decide +kernel
theorem d_mo_pass_24 : decode (q_cc m_mo_pass) 24 = .ok (.iload_n 2, 1) := by decide +kernel
theorem d_mo_pass_25 : decode (q_cc m_mo_pass) 25 = .ok (.iadd, 1) := by decide +kernel
theorem d_mo_pass_26 : decode (q_cc m_mo_pass) 26 = .ok (.iaload, 1) := by decide +kernel
theorem d_mo_pass_27 : decode (q_cc m_mo_pass) 27 = .ok (.goto 4, 3) := by decide +kernel
theorem d_mo_pass_30 : decode (q_cc m_mo_pass) 30 = .ok (.iconst (-1), 1) := by decide +kernel
theorem d_mo_pass_31 : decode (q_cc m_mo_pass) 31 = .ok (.ireturn, 1) := by decide +kernel
theorem d_mo_price_0 : decode (q_cc m_mo_price) 0 = .ok (.aload_n 0, 1) := by decide +kernel
theorem d_mo_price_1 : decode (q_cc m_mo_price) 1 = .ok (.iload_n 1, 1) := by decide +kernel
theorem d_mo_price_2 : decode (q_cc m_mo_price) 2 = .ok (.invokevirtual 453, 3) := by decide +kernel
theorem d_mo_price_5 : decode (q_cc m_mo_price) 5 = .ok (.ifCond .eq 25, 3) := by decide +kernel
theorem d_mo_price_8 : decode (q_cc m_mo_price) 8 = .ok (.aload_n 0, 1) := by decide +kernel
theorem d_mo_price_9 : decode (q_cc m_mo_price) 9 = .ok (.iload_n 2, 1) := by decide +kernel
theorem d_mo_price_10 : decode (q_cc m_mo_price) 10 = .ok (.invokevirtual 456, 3) := by decide +kernel
theorem d_mo_price_13 : decode (q_cc m_mo_price) 13 = .ok (.ifCond .eq 17, 3) := by decide +kernel
theorem d_mo_price_16 : decode (q_cc m_mo_price) 16 = .ok (.aload_n 0, 1) := by decide +kernel
theorem d_mo_price_17 : decode (q_cc m_mo_price) 17 = .ok (.getfield 145, 3) := by decide +kernel
theorem d_mo_price_20 : decode (q_cc m_mo_price) 20 = .ok (.bipush 24, 2) := by decide +kernel
theorem d_mo_price_22 : decode (q_cc m_mo_price) 22 = .ok (.iload_n 1, 1) := by decide +kernel
theorem d_mo_price_23 : decode (q_cc m_mo_price) 23 = .ok (.imul, 1) := by decide +kernel
theorem d_mo_price_24 : decode (q_cc m_mo_price) 24 = .ok (.iload_n 2, 1) := by decide +kernel
theorem d_mo_price_25 : decode (q_cc m_mo_price) 25 = .ok (.iadd, 1) := by decide +kernel
theorem d_mo_price_26 : decode (q_cc m_mo_price) 26 = .ok (.iaload, 1) := by decide +kernel
theorem d_mo_price_27 : decode (q_cc m_mo_price) 27 = .ok (.goto 4, 3) := by decide +kernel
theorem d_mo_price_30 : decode (q_cc m_mo_price) 30 = .ok (.iconst (-1), 1) := by decide +kernel
theorem d_mo_price_31 : decode (q_cc m_mo_price) 31 = .ok (.ireturn, 1) := by decide +kernel
theorem d_mo_best_0 : decode (q_cc m_mo_best) 0 = .ok (.aload_n 0, 1) := by decide +kernel
theorem d_mo_best_1 : decode (q_cc m_mo_best) 1 = .ok (.iload_n 1, 1) := by decide +kernel
theorem d_mo_best_2 : decode (q_cc m_mo_best) 2 = .ok (.invokevirtual 456, 3) := by decide +kernel
theorem d_mo_best_5 : decode (q_cc m_mo_best) 5 = .ok (.ifCond .ne 5, 3) := by decide +kernel
theorem d_mo_best_8 : decode (q_cc m_mo_best) 8 = .ok (.iconst (-1), 1) := by decide +kernel
theorem d_mo_best_9 : decode (q_cc m_mo_best) 9 = .ok (.ireturn, 1) := by decide +kernel
theorem d_mo_best_10 : decode (q_cc m_mo_best) 10 = .ok (.iconst (-1), 1) := by decide +kernel
theorem d_mo_best_11 : decode (q_cc m_mo_best) 11 = .ok (.istore 4, 2) := by decide +kernel
theorem d_mo_best_13 : decode (q_cc m_mo_best) 13 = .ok (.iconst 0, 1) := by decide +kernel
theorem d_mo_best_14 : decode (q_cc m_mo_best) 14 = .ok (.istore 5, 2) := by decide +kernel
theorem d_mo_best_16 : decode (q_cc m_mo_best) 16 = .ok (.iload 5, 2) := by decide +kernel
theorem d_mo_best_18 : decode (q_cc m_mo_best) 18 = .ok (.aload_n 0, 1) := by decide +kernel
theorem d_mo_best_19 : decode (q_cc m_mo_best) 19 = .ok (.invokevirtual 419, 3) := by decide +kernel
theorem d_mo_best_22 : decode (q_cc m_mo_best) 22 = .ok (.if_icmp .ge 96, 3) := by decide +kernel
theorem d_mo_best_25 : decode (q_cc m_mo_best) 25 = .ok (.bipush 24, 2) := by decide +kernel
theorem d_mo_best_27 : decode (q_cc m_mo_best) 27 = .ok (.iload 5, 2) := by decide +kernel
theorem d_mo_best_29 : decode (q_cc m_mo_best) 29 = .ok (.imul, 1) := by decide +kernel
theorem d_mo_best_30 : decode (q_cc m_mo_best) 30 = .ok (.iload_n 1, 1) := by decide +kernel
theorem d_mo_best_31 : decode (q_cc m_mo_best) 31 = .ok (.iadd, 1) := by decide +kernel
theorem d_mo_best_32 : decode (q_cc m_mo_best) 32 = .ok (.istore 6, 2) := by decide +kernel
theorem d_mo_best_34 : decode (q_cc m_mo_best) 34 = .ok (.iload_n 2, 1) := by decide +kernel
theorem d_mo_best_35 : decode (q_cc m_mo_best) 35 = .ok (.ifCond .ne 17, 3) := by decide +kernel
theorem d_mo_best_38 : decode (q_cc m_mo_best) 38 = .ok (.aload_n 0, 1) := by decide +kernel
theorem d_mo_best_39 : decode (q_cc m_mo_best) 39 = .ok (.getfield 142, 3) := by decide +kernel
theorem d_mo_best_42 : decode (q_cc m_mo_best) 42 = .ok (.iload 6, 2) := by decide +kernel
theorem d_mo_best_44 : decode (q_cc m_mo_best) 44 = .ok (.iaload, 1) := by decide +kernel
theorem d_mo_best_45 : decode (q_cc m_mo_best) 45 = .ok (.iload_n 3, 1) := by decide +kernel
theorem d_mo_best_46 : decode (q_cc m_mo_best) 46 = .ok (.if_icmp .ge 6, 3) := by decide +kernel
theorem d_mo_best_49 : decode (q_cc m_mo_best) 49 = .ok (.goto 63, 3) := by decide +kernel
theorem d_mo_best_52 : decode (q_cc m_mo_best) 52 = .ok (.bipush 24, 2) := by decide +kernel
theorem d_mo_best_54 : decode (q_cc m_mo_best) 54 = .ok (.iload 4, 2) := by decide +kernel
theorem d_mo_best_56 : decode (q_cc m_mo_best) 56 = .ok (.imul, 1) := by decide +kernel
theorem d_mo_best_57 : decode (q_cc m_mo_best) 57 = .ok (.iload_n 1, 1) := by decide +kernel
theorem d_mo_best_58 : decode (q_cc m_mo_best) 58 = .ok (.iadd, 1) := by decide +kernel
theorem d_mo_best_59 : decode (q_cc m_mo_best) 59 = .ok (.istore 7, 2) := by decide +kernel
theorem d_mo_best_61 : decode (q_cc m_mo_best) 61 = .ok (.iload 4, 2) := by decide +kernel
theorem d_mo_best_63 : decode (q_cc m_mo_best) 63 = .ok (.iconst (-1), 1) := by decide +kernel
theorem d_mo_best_64 : decode (q_cc m_mo_best) 64 = .ok (.if_icmp .eq 44, 3) := by decide +kernel
theorem d_mo_best_67 : decode (q_cc m_mo_best) 67 = .ok (.iload_n 2, 1) := by decide +kernel
theorem d_mo_best_68 : decode (q_cc m_mo_best) 68 = .ok (.ifCond .eq 23, 3) := by decide +kernel
theorem d_mo_best_71 : decode (q_cc m_mo_best) 71 = .ok (.aload_n 0, 1) := by decide +kernel
theorem d_mo_best_72 : decode (q_cc m_mo_best) 72 = .ok (.getfield 142, 3) := by decide +kernel
theorem d_mo_best_75 : decode (q_cc m_mo_best) 75 = .ok (.iload 6, 2) := by decide +kernel
theorem d_mo_best_77 : decode (q_cc m_mo_best) 77 = .ok (.iaload, 1) := by decide +kernel
theorem d_mo_best_78 : decode (q_cc m_mo_best) 78 = .ok (.aload_n 0, 1) := by decide +kernel
theorem d_mo_best_79 : decode (q_cc m_mo_best) 79 = .ok (.getfield 142, 3) := by decide +kernel
theorem d_mo_best_82 : decode (q_cc m_mo_best) 82 = .ok (.iload 7, 2) := by decide +kernel
theorem d_mo_best_84 : decode (q_cc m_mo_best) 84 = .ok (.iaload, 1) := by decide +kernel
theorem d_mo_best_85 : decode (q_cc m_mo_best) 85 = .ok (.if_icmp .le 27, 3) := by decide +kernel
theorem d_mo_best_88 : decode (q_cc m_mo_best) 88 = .ok (.goto 20, 3) := by decide +kernel
theorem d_mo_best_91 : decode (q_cc m_mo_best) 91 = .ok (.aload_n 0, 1) := by decide +kernel
theorem d_mo_best_92 : decode (q_cc m_mo_best) 92 = .ok (.getfield 145, 3) := by decide +kernel
theorem d_mo_best_95 : decode (q_cc m_mo_best) 95 = .ok (.iload 6, 2) := by decide +kernel
theorem d_mo_best_97 : decode (q_cc m_mo_best) 97 = .ok (.iaload, 1) := by decide +kernel
theorem d_mo_best_98 : decode (q_cc m_mo_best) 98 = .ok (.aload_n 0, 1) := by decide +kernel
theorem d_mo_best_99 : decode (q_cc m_mo_best) 99 = .ok (.getfield 145, 3) := by decide +kernel
theorem d_mo_best_102 : decode (q_cc m_mo_best) 102 = .ok (.iload 7, 2) := by decide +kernel
theorem d_mo_best_104 : decode (q_cc m_mo_best) 104 = .ok (.iaload, 1) := by decide +kernel
theorem d_mo_best_105 : decode (q_cc m_mo_best) 105 = .ok (.if_icmp .ge 7, 3) := by decide +kernel
theorem d_mo_best_108 : decode (q_cc m_mo_best) 108 = .ok (.iload 5, 2) := by decide +kernel
theorem d_mo_best_110 : decode (q_cc m_mo_best) 110 = .ok (.istore 4, 2) := by decide +kernel
theorem d_mo_best_112 : decode (q_cc m_mo_best) 112 = .ok (.iinc 5 1, 3) := by decide +kernel
theorem d_mo_best_115 : decode (q_cc m_mo_best) 115 = .ok (.goto (-99), 3) := by decide +kernel
theorem d_mo_best_118 : decode (q_cc m_mo_best) 118 = .ok (.iload 4, 2) := by decide +kernel
theorem d_mo_best_120 : decode (q_cc m_mo_best) 120 = .ok (.ireturn, 1) := by decide +kernel
theorem d_mo_weightOf_0 : decode (q_cc m_mo_weightOf) 0 = .ok (.iconst 1, 1) := by decide +kernel
theorem d_mo_weightOf_1 : decode (q_cc m_mo_weightOf) 1 = .ok (.iload_n 1, 1) := by decide +kernel
theorem d_mo_weightOf_2 : decode (q_cc m_mo_weightOf) 2 = .ok (.ishl, 1) := by decide +kernel
theorem d_mo_weightOf_3 : decode (q_cc m_mo_weightOf) 3 = .ok (.istore_n 3, 1) := by decide +kernel
theorem d_mo_weightOf_4 : decode (q_cc m_mo_weightOf) 4 = .ok (.iload_n 2, 1) := by decide +kernel
theorem d_mo_weightOf_5 : decode (q_cc m_mo_weightOf) 5 = .ok (.iconst (-1), 1) := by decide +kernel
theorem d_mo_weightOf_6 : decode (q_cc m_mo_weightOf) 6 = .ok (.if_icmp .ne 32, 3) := by decide +kernel
theorem d_mo_weightOf_9 : decode (q_cc m_mo_weightOf) 9 = .ok (.aload_n 0, 1) := by decide +kernel
theorem d_mo_weightOf_10 : decode (q_cc m_mo_weightOf) 10 = .ok (.aload_n 0, 1) := by decide +kernel
theorem d_mo_weightOf_11 : decode (q_cc m_mo_weightOf) 11 = .ok (.iload_n 1, 1) := by decide +kernel
theorem d_mo_weightOf_12 : decode (q_cc m_mo_weightOf) 12 = .ok (.invokevirtual 425, 3) := by decide +kernel
theorem d_mo_weightOf_15 : decode (q_cc m_mo_weightOf) 15 = .ok (.invokevirtual 462, 3) := by decide +kernel
theorem d_mo_weightOf_18 : decode (q_cc m_mo_weightOf) 18 = .ok (.aload_n 0, 1) := by decide +kernel
theorem d_mo_weightOf_19 : decode (q_cc m_mo_weightOf) 19 = .ok (.getfield 151, 3) := by decide +kernel
theorem d_mo_weightOf_22 : decode (q_cc m_mo_weightOf) 22 = .ok (.iload_n 1, 1) := by decide +kernel
theorem d_mo_weightOf_23 : decode (q_cc m_mo_weightOf) 23 = .ok (.iaload, 1) := by decide +kernel
theorem d_mo_weightOf_24 : decode (q_cc m_mo_weightOf) 24 = .ok (.iconst (-1), 1) := by decide +kernel
theorem d_mo_weightOf_25 : decode (q_cc m_mo_weightOf) 25 = .ok (.ixor, 1) := by decide +kernel
theorem d_mo_weightOf_26 : decode (q_cc m_mo_weightOf) 26 = .ok (.iand, 1) := by decide +kernel
theorem d_mo_weightOf_27 : decode (q_cc m_mo_weightOf) 27 = .ok (.ifCond .ne 9, 3) := by decide +kernel
theorem d_mo_weightOf_30 : decode (q_cc m_mo_weightOf) 30 = .ok (.sipush 1000, 3) := by decide +kernel
theorem d_mo_weightOf_33 : decode (q_cc m_mo_weightOf) 33 = .ok (.goto 4, 3) := by decide +kernel
theorem d_mo_weightOf_36 : decode (q_cc m_mo_weightOf) 36 = .ok (.iconst 0, 1) := by decide +kernel
theorem d_mo_weightOf_37 : decode (q_cc m_mo_weightOf) 37 = .ok (.ireturn, 1) := by decide +kernel
theorem d_mo_weightOf_38 : decode (q_cc m_mo_weightOf) 38 = .ok (.aload_n 0, 1) := by decide +kernel
theorem d_mo_weightOf_39 : decode (q_cc m_mo_weightOf) 39 = .ok (.aload_n 0, 1) := by decide +kernel
theorem d_mo_weightOf_40 : decode (q_cc m_mo_weightOf) 40 = .ok (.iload_n 2, 1) := by decide +kernel
theorem d_mo_weightOf_41 : decode (q_cc m_mo_weightOf) 41 = .ok (.invokevirtual 440, 3) := by decide +kernel
theorem d_mo_weightOf_44 : decode (q_cc m_mo_weightOf) 44 = .ok (.iload_n 3, 1) := by decide +kernel
theorem d_mo_weightOf_45 : decode (q_cc m_mo_weightOf) 45 = .ok (.ior, 1) := by decide +kernel
theorem d_mo_weightOf_46 : decode (q_cc m_mo_weightOf) 46 = .ok (.invokevirtual 465, 3) := by decide +kernel
theorem d_mo_weightOf_49 : decode (q_cc m_mo_weightOf) 49 = .ok (.ifCond .eq 17, 3) := by decide +kernel
theorem d_mo_weightOf_52 : decode (q_cc m_mo_weightOf) 52 = .ok (.aload_n 0, 1) := by decide +kernel
theorem d_mo_weightOf_53 : decode (q_cc m_mo_weightOf) 53 = .ok (.getfield 142, 3) := by decide +kernel
theorem d_mo_weightOf_56 : decode (q_cc m_mo_weightOf) 56 = .ok (.bipush 24, 2) := by decide +kernel
theorem d_mo_weightOf_58 : decode (q_cc m_mo_weightOf) 58 = .ok (.iload_n 2, 1) := by decide +kernel
theorem d_mo_weightOf_59 : decode (q_cc m_mo_weightOf) 59 = .ok (.imul, 1) := by decide +kernel
theorem d_mo_weightOf_60 : decode (q_cc m_mo_weightOf) 60 = .ok (.iload_n 1, 1) := by decide +kernel
theorem d_mo_weightOf_61 : decode (q_cc m_mo_weightOf) 61 = .ok (.iadd, 1) := by decide +kernel
theorem d_mo_weightOf_62 : decode (q_cc m_mo_weightOf) 62 = .ok (.iaload, 1) := by decide +kernel
theorem d_mo_weightOf_63 : decode (q_cc m_mo_weightOf) 63 = .ok (.goto 4, 3) := by decide +kernel
theorem d_mo_weightOf_66 : decode (q_cc m_mo_weightOf) 66 = .ok (.iconst 0, 1) := by decide +kernel
theorem d_mo_weightOf_67 : decode (q_cc m_mo_weightOf) 67 = .ok (.ireturn, 1) := by decide +kernel
theorem d_mo_whose_0 : decode (q_cc m_mo_whose) 0 = .ok (.aload_n 0, 1) := by decide +kernel
theorem d_mo_whose_1 : decode (q_cc m_mo_whose) 1 = .ok (.iload_n 1, 1) := by decide +kernel
theorem d_mo_whose_2 : decode (q_cc m_mo_whose) 2 = .ok (.invokevirtual 456, 3) := by decide +kernel
theorem d_mo_whose_5 : decode (q_cc m_mo_whose) 5 = .ok (.ifCond .eq 16, 3) := by decide +kernel
theorem d_mo_whose_8 : decode (q_cc m_mo_whose) 8 = .ok (.iload_n 2, 1) := by decide +kernel
theorem d_mo_whose_9 : decode (q_cc m_mo_whose) 9 = .ok (.iconst (-1), 1) := by decide +kernel
theorem d_mo_whose_10 : decode (q_cc m_mo_whose) 10 = .ok (.if_icmp .eq 13, 3) := by decide +kernel
theorem d_mo_whose_13 : decode (q_cc m_mo_whose) 13 = .ok (.aload_n 0, 1) := by decide +kernel
theorem d_mo_whose_14 : decode (q_cc m_mo_whose) 14 = .ok (.iload_n 2, 1) := by decide +kernel
theorem d_mo_whose_15 : decode (q_cc m_mo_whose) 15 = .ok (.invokevirtual 453, 3) := by decide +kernel
theorem d_mo_whose_18 : decode (q_cc m_mo_whose) 18 = .ok (.ifCond .ne 5, 3) := by decide +kernel
theorem d_mo_whose_21 : decode (q_cc m_mo_whose) 21 = .ok (.iconst (-1), 1) := by decide +kernel
theorem d_mo_whose_22 : decode (q_cc m_mo_whose) 22 = .ok (.ireturn, 1) := by decide +kernel
theorem d_mo_whose_23 : decode (q_cc m_mo_whose) 23 = .ok (.iconst 0, 1) := by decide +kernel
theorem d_mo_whose_24 : decode (q_cc m_mo_whose) 24 = .ok (.istore_n 3, 1) := by decide +kernel
theorem d_mo_whose_25 : decode (q_cc m_mo_whose) 25 = .ok (.iconst (-1), 1) := by decide +kernel
theorem d_mo_whose_26 : decode (q_cc m_mo_whose) 26 = .ok (.istore 4, 2) := by decide +kernel
theorem d_mo_whose_28 : decode (q_cc m_mo_whose) 28 = .ok (.iload 4, 2) := by decide +kernel
theorem d_mo_whose_30 : decode (q_cc m_mo_whose) 30 = .ok (.aload_n 0, 1) := by decide +kernel
theorem d_mo_whose_31 : decode (q_cc m_mo_whose) 31 = .ok (.invokevirtual 419, 3) := by decide +kernel
theorem d_mo_whose_34 : decode (q_cc m_mo_whose) 34 = .ok (.if_icmp .ge 19, 3) := by decide +kernel
theorem d_mo_whose_37 : decode (q_cc m_mo_whose) 37 = .ok (.iload_n 3, 1) := by decide +kernel
theorem d_mo_whose_38 : decode (q_cc m_mo_whose) 38 = .ok (.aload_n 0, 1) := by decide +kernel
theorem d_mo_whose_39 : decode (q_cc m_mo_whose) 39 = .ok (.iload_n 1, 1) := by decide +kernel
theorem d_mo_whose_40 : decode (q_cc m_mo_whose) 40 = .ok (.iload 4, 2) := by decide +kernel
theorem d_mo_whose_42 : decode (q_cc m_mo_whose) 42 = .ok (.invokevirtual 468, 3) := by decide +kernel
theorem d_mo_whose_45 : decode (q_cc m_mo_whose) 45 = .ok (.iadd, 1) := by decide +kernel
theorem d_mo_whose_46 : decode (q_cc m_mo_whose) 46 = .ok (.istore_n 3, 1) := by decide +kernel
theorem d_mo_whose_47 : decode (q_cc m_mo_whose) 47 = .ok (.iinc 4 1, 3) := by decide +kernel
theorem d_mo_whose_50 : decode (q_cc m_mo_whose) 50 = .ok (.goto (-22), 3) := by decide +kernel
theorem d_mo_whose_53 : decode (q_cc m_mo_whose) 53 = .ok (.iload_n 3, 1) := by decide +kernel
theorem d_mo_whose_54 : decode (q_cc m_mo_whose) 54 = .ok (.ifCond .ne 7, 3) := by decide +kernel
theorem d_mo_whose_57 : decode (q_cc m_mo_whose) 57 = .ok (.iconst 0, 1) := by decide +kernel
theorem d_mo_whose_58 : decode (q_cc m_mo_whose) 58 = .ok (.goto 15, 3) := by decide +kernel
theorem d_mo_whose_61 : decode (q_cc m_mo_whose) 61 = .ok (.sipush 1000, 3) := by decide +kernel
theorem d_mo_whose_64 : decode (q_cc m_mo_whose) 64 = .ok (.aload_n 0, 1) := by decide +kernel
theorem d_mo_whose_65 : decode (q_cc m_mo_whose) 65 = .ok (.iload_n 1, 1) := by decide +kernel
theorem d_mo_whose_66 : decode (q_cc m_mo_whose) 66 = .ok (.iload_n 2, 1) := by decide +kernel
theorem d_mo_whose_67 : decode (q_cc m_mo_whose) 67 = .ok (.invokevirtual 468, 3) := by decide +kernel
theorem d_mo_whose_70 : decode (q_cc m_mo_whose) 70 = .ok (.imul, 1) := by decide +kernel
theorem d_mo_whose_71 : decode (q_cc m_mo_whose) 71 = .ok (.iload_n 3, 1) := by decide +kernel
theorem d_mo_whose_72 : decode (q_cc m_mo_whose) 72 = .ok (.idiv, 1) := by decide +kernel
theorem d_mo_whose_73 : decode (q_cc m_mo_whose) 73 = .ok (.ireturn, 1) := by decide +kernel
theorem d_mo_orders_0 : decode (q_cc m_mo_orders) 0 = .ok (.iconst 0, 1) := by decide +kernel
theorem d_mo_orders_1 : decode (q_cc m_mo_orders) 1 = .ok (.istore_n 1, 1) := by decide +kernel
theorem d_mo_orders_2 : decode (q_cc m_mo_orders) 2 = .ok (.iload_n 1, 1) := by decide +kernel
theorem d_mo_orders_3 : decode (q_cc m_mo_orders) 3 = .ok (.aload_n 0, 1) := by decide +kernel
theorem d_mo_orders_4 : decode (q_cc m_mo_orders) 4 = .ok (.invokevirtual 328, 3) := by decide +kernel
theorem d_mo_orders_7 : decode (q_cc m_mo_orders) 7 = .ok (.if_icmp .ge 68, 3) := by decide +kernel
theorem d_mo_orders_10 : decode (q_cc m_mo_orders) 10 = .ok (.iconst 0, 1) := by decide +kernel
theorem d_mo_orders_11 : decode (q_cc m_mo_orders) 11 = .ok (.istore_n 2, 1) := by decide +kernel
theorem d_mo_orders_12 : decode (q_cc m_mo_orders) 12 = .ok (.iconst 0, 1) := by decide +kernel
theorem d_mo_orders_13 : decode (q_cc m_mo_orders) 13 = .ok (.istore_n 3, 1) := by decide +kernel
theorem d_mo_orders_14 : decode (q_cc m_mo_orders) 14 = .ok (.iload_n 3, 1) := by decide +kernel
theorem d_mo_orders_15 : decode (q_cc m_mo_orders) 15 = .ok (.aload_n 0, 1) := by decide +kernel
theorem d_mo_orders_16 : decode (q_cc m_mo_orders) 16 = .ok (.invokevirtual 328, 3) := by decide +kernel
theorem d_mo_orders_19 : decode (q_cc m_mo_orders) 19 = .ok (.if_icmp .ge 43, 3) := by decide +kernel
theorem d_mo_orders_22 : decode (q_cc m_mo_orders) 22 = .ok (.aload_n 0, 1) := by decide +kernel
theorem d_mo_orders_23 : decode (q_cc m_mo_orders) 23 = .ok (.iload_n 3, 1) := by decide +kernel
theorem d_mo_orders_24 : decode (q_cc m_mo_orders) 24 = .ok (.invokevirtual 334, 3) := by decide +kernel
theorem d_mo_orders_27 : decode (q_cc m_mo_orders) 27 = .ok (.aload_n 0, 1) := by decide +kernel
theorem d_mo_orders_28 : decode (q_cc m_mo_orders) 28 = .ok (.iload_n 1, 1) := by decide +kernel
theorem d_mo_orders_29 : decode (q_cc m_mo_orders) 29 = .ok (.invokevirtual 334, 3) := by decide +kernel
theorem d_mo_orders_32 : decode (q_cc m_mo_orders) 32 = .ok (.if_icmp .lt 21, 3) := by decide +kernel
theorem d_mo_orders_35 : decode (q_cc m_mo_orders) 35 = .ok (.aload_n 0, 1) := by decide +kernel
theorem d_mo_orders_36 : decode (q_cc m_mo_orders) 36 = .ok (.iload_n 3, 1) := by decide +kernel
theorem d_mo_orders_37 : decode (q_cc m_mo_orders) 37 = .ok (.invokevirtual 334, 3) := by decide +kernel
theorem d_mo_orders_40 : decode (q_cc m_mo_orders) 40 = .ok (.aload_n 0, 1) := by decide +kernel
theorem d_mo_orders_41 : decode (q_cc m_mo_orders) 41 = .ok (.iload_n 1, 1) := by decide +kernel
theorem d_mo_orders_42 : decode (q_cc m_mo_orders) 42 = .ok (.invokevirtual 334, 3) := by decide +kernel
theorem d_mo_orders_45 : decode (q_cc m_mo_orders) 45 = .ok (.if_icmp .ne 11, 3) := by decide +kernel
theorem d_mo_orders_48 : decode (q_cc m_mo_orders) 48 = .ok (.iload_n 3, 1) := by decide +kernel
theorem d_mo_orders_49 : decode (q_cc m_mo_orders) 49 = .ok (.iload_n 1, 1) := by decide +kernel
theorem d_mo_orders_50 : decode (q_cc m_mo_orders) 50 = .ok (.if_icmp .ge 6, 3) := by decide +kernel
theorem d_mo_orders_53 : decode (q_cc m_mo_orders) 53 = .ok (.iinc 2 1, 3) := by decide +kernel
theorem d_mo_orders_56 : decode (q_cc m_mo_orders) 56 = .ok (.iinc 3 1, 3) := by decide +kernel
theorem d_mo_orders_59 : decode (q_cc m_mo_orders) 59 = .ok (.goto (-45), 3) := by decide +kernel
theorem d_mo_orders_62 : decode (q_cc m_mo_orders) 62 = .ok (.aload_n 0, 1) := by decide +kernel
theorem d_mo_orders_63 : decode (q_cc m_mo_orders) 63 = .ok (.getfield 160, 3) := by decide +kernel
theorem d_mo_orders_66 : decode (q_cc m_mo_orders) 66 = .ok (.iload_n 2, 1) := by decide +kernel
theorem d_mo_orders_67 : decode (q_cc m_mo_orders) 67 = .ok (.iload_n 1, 1) := by decide +kernel
theorem d_mo_orders_68 : decode (q_cc m_mo_orders) 68 = .ok (.iastore, 1) := by decide +kernel
theorem d_mo_orders_69 : decode (q_cc m_mo_orders) 69 = .ok (.iinc 1 1, 3) := by decide +kernel
theorem d_mo_orders_72 : decode (q_cc m_mo_orders) 72 = .ok (.goto (-70), 3) := by decide +kernel
theorem d_mo_orders_75 : decode (q_cc m_mo_orders) 75 = .ok (.return_, 1) := by decide +kernel
theorem d_mo_longestOf_0 : decode (q_cc m_mo_longestOf) 0 = .ok (.iconst 0, 1) := by decide +kernel
theorem d_mo_longestOf_1 : decode (q_cc m_mo_longestOf) 1 = .ok (.istore_n 2, 1) := by decide +kernel
theorem d_mo_longestOf_2 : decode (q_cc m_mo_longestOf) 2 = .ok (.iconst 0, 1) := by decide +kernel
theorem d_mo_longestOf_3 : decode (q_cc m_mo_longestOf) 3 = .ok (.istore_n 3, 1) := by decide +kernel
theorem d_mo_longestOf_4 : decode (q_cc m_mo_longestOf) 4 = .ok (.iload_n 3, 1) := by decide +kernel
theorem d_mo_longestOf_5 : decode (q_cc m_mo_longestOf) 5 = .ok (.aload_n 0, 1) := by decide +kernel
theorem d_mo_longestOf_6 : decode (q_cc m_mo_longestOf) 6 = .ok (.invokevirtual 328, 3) := by decide +kernel
theorem d_mo_longestOf_9 : decode (q_cc m_mo_longestOf) 9 = .ok (.if_icmp .ge 131, 3) := by decide +kernel
theorem d_mo_longestOf_12 : decode (q_cc m_mo_longestOf) 12 = .ok (.aload_n 0, 1) := by decide +kernel
theorem d_mo_longestOf_13 : decode (q_cc m_mo_longestOf) 13 = .ok (.getfield 160, 3) := by decide +kernel
theorem d_mo_longestOf_16 : decode (q_cc m_mo_longestOf) 16 = .ok (.iload_n 3, 1) := by decide +kernel
theorem d_mo_longestOf_17 : decode (q_cc m_mo_longestOf) 17 = .ok (.iaload, 1) := by decide +kernel
theorem d_mo_longestOf_18 : decode (q_cc m_mo_longestOf) 18 = .ok (.istore 4, 2) := by decide +kernel
theorem d_mo_longestOf_20 : decode (q_cc m_mo_longestOf) 20 = .ok (.aload_n 0, 1) := by decide +kernel
theorem d_mo_longestOf_21 : decode (q_cc m_mo_longestOf) 21 = .ok (.getfield 157, 3) := by decide +kernel
theorem d_mo_longestOf_24 : decode (q_cc m_mo_longestOf) 24 = .ok (.iload_n 3, 1) := by decide +kernel
theorem d_mo_longestOf_25 : decode (q_cc m_mo_longestOf) 25 = .ok (.iconst 0, 1) := by decide +kernel
theorem d_mo_longestOf_26 : decode (q_cc m_mo_longestOf) 26 = .ok (.iastore, 1) := by decide +kernel
theorem d_mo_longestOf_27 : decode (q_cc m_mo_longestOf) 27 = .ok (.iload_n 1, 1) := by decide +kernel
theorem d_mo_longestOf_28 : decode (q_cc m_mo_longestOf) 28 = .ok (.iload 4, 2) := by decide +kernel
theorem d_mo_longestOf_30 : decode (q_cc m_mo_longestOf) 30 = .ok (.ishr, 1) := by decide +kernel
theorem d_mo_longestOf_31 : decode (q_cc m_mo_longestOf) 31 = .ok (.iconst 1, 1) := by decide +kernel
theorem d_mo_longestOf_32 : decode (q_cc m_mo_longestOf) 32 = .ok (.iand, 1) := by decide +kernel
theorem d_mo_longestOf_33 : decode (q_cc m_mo_longestOf) 33 = .ok (.ifCond .ne 6, 3) := by decide +kernel
theorem d_mo_longestOf_36 : decode (q_cc m_mo_longestOf) 36 = .ok (.goto 98, 3) := by decide +kernel
theorem d_mo_longestOf_39 : decode (q_cc m_mo_longestOf) 39 = .ok (.aload_n 0, 1) := by decide +kernel
theorem d_mo_longestOf_40 : decode (q_cc m_mo_longestOf) 40 = .ok (.getfield 157, 3) := by decide +kernel
theorem d_mo_longestOf_43 : decode (q_cc m_mo_longestOf) 43 = .ok (.iload_n 3, 1) := by decide +kernel
theorem d_mo_longestOf_44 : decode (q_cc m_mo_longestOf) 44 = .ok (.iconst 1, 1) := by decide +kernel
theorem d_mo_longestOf_45 : decode (q_cc m_mo_longestOf) 45 = .ok (.iastore, 1) := by decide +kernel
theorem d_mo_longestOf_46 : decode (q_cc m_mo_longestOf) 46 = .ok (.iconst 0, 1) := by decide +kernel
theorem d_mo_longestOf_47 : decode (q_cc m_mo_longestOf) 47 = .ok (.istore 5, 2) := by decide +kernel
theorem d_mo_longestOf_49 : decode (q_cc m_mo_longestOf) 49 = .ok (.iload 5, 2) := by decide +kernel
theorem d_mo_longestOf_51 : decode (q_cc m_mo_longestOf) 51 = .ok (.iload_n 3, 1) := by decide +kernel
theorem d_mo_longestOf_52 : decode (q_cc m_mo_longestOf) 52 = .ok (.if_icmp .ge 61, 3) := by decide +kernel
theorem d_mo_longestOf_55 : decode (q_cc m_mo_longestOf) 55 = .ok (.aload_n 0, 1) := by decide +kernel
theorem d_mo_longestOf_56 : decode (q_cc m_mo_longestOf) 56 = .ok (.getfield 157, 3) := by decide +kernel
theorem d_mo_longestOf_59 : decode (q_cc m_mo_longestOf) 59 = .ok (.iload 5, 2) := by decide +kernel
theorem d_mo_longestOf_61 : decode (q_cc m_mo_longestOf) 61 = .ok (.iaload, 1) := by decide +kernel
theorem d_mo_longestOf_62 : decode (q_cc m_mo_longestOf) 62 = .ok (.aload_n 0, 1) := by decide +kernel
theorem d_mo_longestOf_63 : decode (q_cc m_mo_longestOf) 63 = .ok (.getfield 157, 3) := by decide +kernel
theorem d_mo_longestOf_66 : decode (q_cc m_mo_longestOf) 66 = .ok (.iload_n 3, 1) := by decide +kernel
theorem d_mo_longestOf_67 : decode (q_cc m_mo_longestOf) 67 = .ok (.iaload, 1) := by decide +kernel
theorem d_mo_longestOf_68 : decode (q_cc m_mo_longestOf) 68 = .ok (.if_icmp .lt 39, 3) := by decide +kernel
theorem d_mo_longestOf_71 : decode (q_cc m_mo_longestOf) 71 = .ok (.aload_n 0, 1) := by decide +kernel
theorem d_mo_longestOf_72 : decode (q_cc m_mo_longestOf) 72 = .ok (.getfield 151, 3) := by decide +kernel
theorem d_mo_longestOf_75 : decode (q_cc m_mo_longestOf) 75 = .ok (.iload 4, 2) := by decide +kernel
theorem d_mo_longestOf_77 : decode (q_cc m_mo_longestOf) 77 = .ok (.iaload, 1) := by decide +kernel
theorem d_mo_longestOf_78 : decode (q_cc m_mo_longestOf) 78 = .ok (.aload_n 0, 1) := by decide +kernel
theorem d_mo_longestOf_79 : decode (q_cc m_mo_longestOf) 79 = .ok (.getfield 160, 3) := by decide +kernel
theorem d_mo_longestOf_82 : decode (q_cc m_mo_longestOf) 82 = .ok (.iload 5, 2) := by decide +kernel
theorem d_mo_longestOf_84 : decode (q_cc m_mo_longestOf) 84 = .ok (.iaload, 1) := by decide +kernel
theorem d_mo_longestOf_85 : decode (q_cc m_mo_longestOf) 85 = .ok (.ishr, 1) := by decide +kernel
theorem d_mo_longestOf_86 : decode (q_cc m_mo_longestOf) 86 = .ok (.iconst 1, 1) := by decide +kernel
theorem d_mo_longestOf_87 : decode (q_cc m_mo_longestOf) 87 = .ok (.iand, 1) := by decide +kernel
theorem d_mo_longestOf_88 : decode (q_cc m_mo_longestOf) 88 = .ok (.iconst 1, 1) := by decide +kernel
theorem d_mo_longestOf_89 : decode (q_cc m_mo_longestOf) 89 = .ok (.if_icmp .ne 18, 3) := by decide +kernel
theorem d_mo_longestOf_92 : decode (q_cc m_mo_longestOf) 92 = .ok (.aload_n 0, 1) := by decide +kernel
theorem d_mo_longestOf_93 : decode (q_cc m_mo_longestOf) 93 = .ok (.getfield 157, 3) := by decide +kernel
theorem d_mo_longestOf_96 : decode (q_cc m_mo_longestOf) 96 = .ok (.iload_n 3, 1) := by decide +kernel
theorem d_mo_longestOf_97 : decode (q_cc m_mo_longestOf) 97 = .ok (.aload_n 0, 1) := by decide +kernel
theorem d_mo_longestOf_98 : decode (q_cc m_mo_longestOf) 98 = .ok (.getfield 157, 3) := by decide +kernel
theorem d_mo_longestOf_101 : decode (q_cc m_mo_longestOf) 101 = .ok (.iload 5, 2) := by decide +kernel
theorem d_mo_longestOf_103 : decode (q_cc m_mo_longestOf) 103 = .ok (.iaload, 1) := by decide +kernel
theorem d_mo_longestOf_104 : decode (q_cc m_mo_longestOf) 104 = .ok (.iconst 1, 1) := by decide +kernel
theorem d_mo_longestOf_105 : decode (q_cc m_mo_longestOf) 105 = .ok (.iadd, 1) := by decide +kernel
theorem d_mo_longestOf_106 : decode (q_cc m_mo_longestOf) 106 = .ok (.iastore, 1) := by decide +kernel
theorem d_mo_longestOf_107 : decode (q_cc m_mo_longestOf) 107 = .ok (.iinc 5 1, 3) := by decide +kernel
theorem d_mo_longestOf_110 : decode (q_cc m_mo_longestOf) 110 = .ok (.goto (-61), 3) := by decide +kernel
theorem d_mo_longestOf_113 : decode (q_cc m_mo_longestOf) 113 = .ok (.aload_n 0, 1) := by decide +kernel
theorem d_mo_longestOf_114 : decode (q_cc m_mo_longestOf) 114 = .ok (.getfield 157, 3) := by decide +kernel
theorem d_mo_longestOf_117 : decode (q_cc m_mo_longestOf) 117 = .ok (.iload_n 3, 1) := by decide +kernel
theorem d_mo_longestOf_118 : decode (q_cc m_mo_longestOf) 118 = .ok (.iaload, 1) := by decide +kernel
theorem d_mo_longestOf_119 : decode (q_cc m_mo_longestOf) 119 = .ok (.iload_n 2, 1) := by decide +kernel
theorem d_mo_longestOf_120 : decode (q_cc m_mo_longestOf) 120 = .ok (.if_icmp .le 12, 3) := by decide +kernel
theorem d_mo_longestOf_123 : decode (q_cc m_mo_longestOf) 123 = .ok (.aload_n 0, 1) := by decide +kernel
theorem d_mo_longestOf_124 : decode (q_cc m_mo_longestOf) 124 = .ok (.getfield 157, 3) := by decide +kernel
theorem d_mo_longestOf_127 : decode (q_cc m_mo_longestOf) 127 = .ok (.iload_n 3, 1) := by decide +kernel
theorem d_mo_longestOf_128 : decode (q_cc m_mo_longestOf) 128 = .ok (.iaload, 1) := by decide +kernel
theorem d_mo_longestOf_129 : decode (q_cc m_mo_longestOf) 129 = .ok (.goto 4, 3) := by decide +kernel
theorem d_mo_longestOf_132 : decode (q_cc m_mo_longestOf) 132 = .ok (.iload_n 2, 1) := by decide +kernel
theorem d_mo_longestOf_133 : decode (q_cc m_mo_longestOf) 133 = .ok (.istore_n 2, 1) := by decide +kernel
theorem d_mo_longestOf_134 : decode (q_cc m_mo_longestOf) 134 = .ok (.iinc 3 1, 3) := by decide +kernel
theorem d_mo_longestOf_137 : decode (q_cc m_mo_longestOf) 137 = .ok (.goto (-133), 3) := by decide +kernel
theorem d_mo_longestOf_140 : decode (q_cc m_mo_longestOf) 140 = .ok (.iload_n 2, 1) := by decide +kernel
theorem d_mo_longestOf_141 : decode (q_cc m_mo_longestOf) 141 = .ok (.ireturn, 1) := by decide +kernel
theorem d_mo_chainOf_0 : decode (q_cc m_mo_chainOf) 0 = .ok (.aload_n 0, 1) := by decide +kernel
theorem d_mo_chainOf_1 : decode (q_cc m_mo_chainOf) 1 = .ok (.invokevirtual 471, 3) := by decide +kernel
theorem d_mo_chainOf_4 : decode (q_cc m_mo_chainOf) 4 = .ok (.aload_n 0, 1) := by decide +kernel
theorem d_mo_chainOf_5 : decode (q_cc m_mo_chainOf) 5 = .ok (.iload_n 1, 1) := by decide +kernel
theorem d_mo_chainOf_6 : decode (q_cc m_mo_chainOf) 6 = .ok (.invokevirtual 474, 3) := by decide +kernel
theorem d_mo_chainOf_9 : decode (q_cc m_mo_chainOf) 9 = .ok (.istore_n 2, 1) := by decide +kernel
theorem d_mo_chainOf_10 : decode (q_cc m_mo_chainOf) 10 = .ok (.iload_n 1, 1) := by decide +kernel
theorem d_mo_chainOf_11 : decode (q_cc m_mo_chainOf) 11 = .ok (.istore_n 3, 1) := by decide +kernel
theorem d_mo_chainOf_12 : decode (q_cc m_mo_chainOf) 12 = .ok (.iconst 0, 1) := by decide +kernel
theorem d_mo_chainOf_13 : decode (q_cc m_mo_chainOf) 13 = .ok (.istore 4, 2) := by decide +kernel
theorem d_mo_chainOf_15 : decode (q_cc m_mo_chainOf) 15 = .ok (.iconst 0, 1) := by decide +kernel
theorem d_mo_chainOf_16 : decode (q_cc m_mo_chainOf) 16 = .ok (.istore 5, 2) := by decide +kernel
theorem d_mo_chainOf_18 : decode (q_cc m_mo_chainOf) 18 = .ok (.iload 5, 2) := by decide +kernel
theorem d_mo_chainOf_20 : decode (q_cc m_mo_chainOf) 20 = .ok (.aload_n 0, 1) := by decide +kernel
theorem d_mo_chainOf_21 : decode (q_cc m_mo_chainOf) 21 = .ok (.invokevirtual 328, 3) := by decide +kernel
theorem d_mo_chainOf_24 : decode (q_cc m_mo_chainOf) 24 = .ok (.if_icmp .ge 69, 3) := by decide +kernel
theorem d_mo_chainOf_27 : decode (q_cc m_mo_chainOf) 27 = .ok (.iload_n 3, 1) := by decide +kernel
theorem d_mo_chainOf_28 : decode (q_cc m_mo_chainOf) 28 = .ok (.iload 5, 2) := by decide +kernel
theorem d_mo_chainOf_30 : decode (q_cc m_mo_chainOf) 30 = .ok (.ishr, 1) := by decide +kernel
theorem d_mo_chainOf_31 : decode (q_cc m_mo_chainOf) 31 = .ok (.iconst 1, 1) := by decide +kernel
theorem d_mo_chainOf_32 : decode (q_cc m_mo_chainOf) 32 = .ok (.iand, 1) := by decide +kernel
theorem d_mo_chainOf_33 : decode (q_cc m_mo_chainOf) 33 = .ok (.ifCond .ne 6, 3) := by decide +kernel
theorem d_mo_chainOf_36 : decode (q_cc m_mo_chainOf) 36 = .ok (.goto 51, 3) := by decide +kernel
theorem d_mo_chainOf_39 : decode (q_cc m_mo_chainOf) 39 = .ok (.aload_n 0, 1) := by decide +kernel
theorem d_mo_chainOf_40 : decode (q_cc m_mo_chainOf) 40 = .ok (.iload_n 3, 1) := by decide +kernel
theorem d_mo_chainOf_41 : decode (q_cc m_mo_chainOf) 41 = .ok (.aload_n 0, 1) := by decide +kernel
theorem d_mo_chainOf_42 : decode (q_cc m_mo_chainOf) 42 = .ok (.getfield 151, 3) := by decide +kernel
theorem d_mo_chainOf_45 : decode (q_cc m_mo_chainOf) 45 = .ok (.iload 5, 2) := by decide +kernel
theorem d_mo_chainOf_47 : decode (q_cc m_mo_chainOf) 47 = .ok (.iaload, 1) := by decide +kernel
theorem d_mo_chainOf_48 : decode (q_cc m_mo_chainOf) 48 = .ok (.iand, 1) := by decide +kernel
theorem d_mo_chainOf_49 : decode (q_cc m_mo_chainOf) 49 = .ok (.invokevirtual 474, 3) := by decide +kernel
theorem d_mo_chainOf_52 : decode (q_cc m_mo_chainOf) 52 = .ok (.iload_n 2, 1) := by decide +kernel
theorem d_mo_chainOf_53 : decode (q_cc m_mo_chainOf) 53 = .ok (.if_icmp .ne 25, 3) := by decide +kernel
theorem d_mo_chainOf_56 : decode (q_cc m_mo_chainOf) 56 = .ok (.iload_n 3, 1) := by decide +kernel
theorem d_mo_chainOf_57 : decode (q_cc m_mo_chainOf) 57 = .ok (.aload_n 0, 1) := by decide +kernel
theorem d_mo_chainOf_58 : decode (q_cc m_mo_chainOf) 58 = .ok (.getfield 151, 3) := by decide +kernel
theorem d_mo_chainOf_61 : decode (q_cc m_mo_chainOf) 61 = .ok (.iload 5, 2) := by decide +kernel
theorem d_mo_chainOf_63 : decode (q_cc m_mo_chainOf) 63 = .ok (.iaload, 1) := by decide +kernel
theorem d_mo_chainOf_64 : decode (q_cc m_mo_chainOf) 64 = .ok (.iand, 1) := by decide +kernel
theorem d_mo_chainOf_65 : decode (q_cc m_mo_chainOf) 65 = .ok (.istore_n 3, 1) := by decide +kernel
theorem d_mo_chainOf_66 : decode (q_cc m_mo_chainOf) 66 = .ok (.iload 4, 2) := by decide +kernel
theorem d_mo_chainOf_68 : decode (q_cc m_mo_chainOf) 68 = .ok (.iconst 1, 1) := by decide +kernel
theorem d_mo_chainOf_69 : decode (q_cc m_mo_chainOf) 69 = .ok (.iload 5, 2) := by decide +kernel
theorem d_mo_chainOf_71 : decode (q_cc m_mo_chainOf) 71 = .ok (.ishl, 1) := by decide +kernel
theorem d_mo_chainOf_72 : decode (q_cc m_mo_chainOf) 72 = .ok (.ior, 1) := by decide +kernel
theorem d_mo_chainOf_73 : decode (q_cc m_mo_chainOf) 73 = .ok (.istore 4, 2) := by decide +kernel
theorem d_mo_chainOf_75 : decode (q_cc m_mo_chainOf) 75 = .ok (.goto 12, 3) := by decide +kernel
theorem d_mo_chainOf_78 : decode (q_cc m_mo_chainOf) 78 = .ok (.iload_n 3, 1) := by decide +kernel
theorem d_mo_chainOf_79 : decode (q_cc m_mo_chainOf) 79 = .ok (.iconst 1, 1) := by decide +kernel
theorem d_mo_chainOf_80 : decode (q_cc m_mo_chainOf) 80 = .ok (.iload 5, 2) := by decide +kernel
theorem d_mo_chainOf_82 : decode (q_cc m_mo_chainOf) 82 = .ok (.ishl, 1) := by decide +kernel
theorem d_mo_chainOf_83 : decode (q_cc m_mo_chainOf) 83 = .ok (.iconst (-1), 1) := by decide +kernel
theorem d_mo_chainOf_84 : decode (q_cc m_mo_chainOf) 84 = .ok (.ixor, 1) := by decide +kernel
theorem d_mo_chainOf_85 : decode (q_cc m_mo_chainOf) 85 = .ok (.iand, 1) := by decide +kernel
theorem d_mo_chainOf_86 : decode (q_cc m_mo_chainOf) 86 = .ok (.istore_n 3, 1) := by decide +kernel
theorem d_mo_chainOf_87 : decode (q_cc m_mo_chainOf) 87 = .ok (.iinc 5 1, 3) := by decide +kernel
theorem d_mo_chainOf_90 : decode (q_cc m_mo_chainOf) 90 = .ok (.goto (-72), 3) := by decide +kernel
theorem d_mo_chainOf_93 : decode (q_cc m_mo_chainOf) 93 = .ok (.iload 4, 2) := by decide +kernel
theorem d_mo_chainOf_95 : decode (q_cc m_mo_chainOf) 95 = .ok (.ireturn, 1) := by decide +kernel
theorem d_mo_bitAt_0 : decode (q_cc m_mo_bitAt) 0 = .ok (.iconst 0, 1) := by decide +kernel
theorem d_mo_bitAt_1 : decode (q_cc m_mo_bitAt) 1 = .ok (.istore_n 2, 1) := by decide +kernel
theorem d_mo_bitAt_2 : decode (q_cc m_mo_bitAt) 2 = .ok (.iconst 0, 1) := by decide +kernel
theorem d_mo_bitAt_3 : decode (q_cc m_mo_bitAt) 3 = .ok (.istore_n 3, 1) := by decide +kernel
theorem d_mo_bitAt_4 : decode (q_cc m_mo_bitAt) 4 = .ok (.iload_n 3, 1) := by decide +kernel
theorem d_mo_bitAt_5 : decode (q_cc m_mo_bitAt) 5 = .ok (.bipush 24, 2) := by decide +kernel
theorem d_mo_bitAt_7 : decode (q_cc m_mo_bitAt) 7 = .ok (.if_icmp .ge 30, 3) := by decide +kernel
theorem d_mo_bitAt_10 : decode (q_cc m_mo_bitAt) 10 = .ok (.iload_n 0, 1) := by decide +kernel
theorem d_mo_bitAt_11 : decode (q_cc m_mo_bitAt) 11 = .ok (.iload_n 3, 1) := by decide +kernel
theorem d_mo_bitAt_12 : decode (q_cc m_mo_bitAt) 12 = .ok (.ishr, 1) := by decide +kernel
theorem d_mo_bitAt_13 : decode (q_cc m_mo_bitAt) 13 = .ok (.iconst 1, 1) := by decide +kernel
theorem d_mo_bitAt_14 : decode (q_cc m_mo_bitAt) 14 = .ok (.iand, 1) := by decide +kernel
theorem d_mo_bitAt_15 : decode (q_cc m_mo_bitAt) 15 = .ok (.ifCond .ne 6, 3) := by decide +kernel
theorem d_mo_bitAt_18 : decode (q_cc m_mo_bitAt) 18 = .ok (.goto 13, 3) := by decide +kernel
theorem d_mo_bitAt_21 : decode (q_cc m_mo_bitAt) 21 = .ok (.iload_n 2, 1) := by decide +kernel
theorem d_mo_bitAt_22 : decode (q_cc m_mo_bitAt) 22 = .ok (.iload_n 1, 1) := by decide +kernel
theorem d_mo_bitAt_23 : decode (q_cc m_mo_bitAt) 23 = .ok (.if_icmp .ne 5, 3) := by decide +kernel
theorem d_mo_bitAt_26 : decode (q_cc m_mo_bitAt) 26 = .ok (.iload_n 3, 1) := by decide +kernel
theorem d_mo_bitAt_27 : decode (q_cc m_mo_bitAt) 27 = .ok (.ireturn, 1) := by decide +kernel
theorem d_mo_bitAt_28 : decode (q_cc m_mo_bitAt) 28 = .ok (.iinc 2 1, 3) := by decide +kernel
theorem d_mo_bitAt_31 : decode (q_cc m_mo_bitAt) 31 = .ok (.iinc 3 1, 3) := by decide +kernel
theorem d_mo_bitAt_34 : decode (q_cc m_mo_bitAt) 34 = .ok (.goto (-30), 3) := by decide +kernel
theorem d_mo_bitAt_37 : decode (q_cc m_mo_bitAt) 37 = .ok (.iconst (-1), 1) := by decide +kernel
theorem d_mo_bitAt_38 : decode (q_cc m_mo_bitAt) 38 = .ok (.ireturn, 1) := by decide +kernel
theorem d_mo_chain_0 : decode (q_cc m_mo_chain) 0 = .ok (.aload_n 0, 1) := by decide +kernel
theorem d_mo_chain_1 : decode (q_cc m_mo_chain) 1 = .ok (.iload_n 1, 1) := by decide +kernel
theorem d_mo_chain_2 : decode (q_cc m_mo_chain) 2 = .ok (.invokevirtual 450, 3) := by decide +kernel
theorem d_mo_chain_5 : decode (q_cc m_mo_chain) 5 = .ok (.ifCond .ne 5, 3) := by decide +kernel
theorem d_mo_chain_8 : decode (q_cc m_mo_chain) 8 = .ok (.iconst (-1), 1) := by decide +kernel
theorem d_mo_chain_9 : decode (q_cc m_mo_chain) 9 = .ok (.ireturn, 1) := by decide +kernel
theorem d_mo_chain_10 : decode (q_cc m_mo_chain) 10 = .ok (.aload_n 0, 1) := by decide +kernel
theorem d_mo_chain_11 : decode (q_cc m_mo_chain) 11 = .ok (.aload_n 0, 1) := by decide +kernel
theorem d_mo_chain_12 : decode (q_cc m_mo_chain) 12 = .ok (.iload_n 1, 1) := by decide +kernel
theorem d_mo_chain_13 : decode (q_cc m_mo_chain) 13 = .ok (.invokevirtual 462, 3) := by decide +kernel
theorem d_mo_chain_16 : decode (q_cc m_mo_chain) 16 = .ok (.invokevirtual 477, 3) := by decide +kernel
theorem d_mo_chain_19 : decode (q_cc m_mo_chain) 19 = .ok (.istore_n 3, 1) := by decide +kernel
theorem d_mo_chain_20 : decode (q_cc m_mo_chain) 20 = .ok (.iload_n 2, 1) := by decide +kernel
theorem d_mo_chain_21 : decode (q_cc m_mo_chain) 21 = .ok (.iconst (-1), 1) := by decide +kernel
theorem d_mo_chain_22 : decode (q_cc m_mo_chain) 22 = .ok (.if_icmp .ne 10, 3) := by decide +kernel
theorem d_mo_chain_25 : decode (q_cc m_mo_chain) 25 = .ok (.iload_n 3, 1) := by decide +kernel
theorem d_mo_chain_26 : decode (q_cc m_mo_chain) 26 = .ok (.invokestatic 443, 3) := by decide +kernel
theorem d_mo_chain_29 : decode (q_cc m_mo_chain) 29 = .ok (.goto 8, 3) := by decide +kernel
theorem d_mo_chain_32 : decode (q_cc m_mo_chain) 32 = .ok (.iload_n 3, 1) := by decide +kernel
theorem d_mo_chain_33 : decode (q_cc m_mo_chain) 33 = .ok (.iload_n 2, 1) := by decide +kernel
theorem d_mo_chain_34 : decode (q_cc m_mo_chain) 34 = .ok (.invokestatic 480, 3) := by decide +kernel
theorem d_mo_chain_37 : decode (q_cc m_mo_chain) 37 = .ok (.ireturn, 1) := by decide +kernel
theorem d_mo_fewestOf_0 : decode (q_cc m_mo_fewestOf) 0 = .ok (.aload_n 0, 1) := by decide +kernel
theorem d_mo_fewestOf_1 : decode (q_cc m_mo_fewestOf) 1 = .ok (.invokevirtual 471, 3) := by decide +kernel
theorem d_mo_fewestOf_4 : decode (q_cc m_mo_fewestOf) 4 = .ok (.aload_n 0, 1) := by decide +kernel
theorem d_mo_fewestOf_5 : decode (q_cc m_mo_fewestOf) 5 = .ok (.iload_n 1, 1) := by decide +kernel
theorem d_mo_fewestOf_6 : decode (q_cc m_mo_fewestOf) 6 = .ok (.invokevirtual 462, 3) := by decide +kernel
theorem d_mo_fewestOf_9 : decode (q_cc m_mo_fewestOf) 9 = .ok (.invokestatic 443, 3) := by decide +kernel
theorem d_mo_fewestOf_12 : decode (q_cc m_mo_fewestOf) 12 = .ok (.aload_n 0, 1) := by decide +kernel
theorem d_mo_fewestOf_13 : decode (q_cc m_mo_fewestOf) 13 = .ok (.aload_n 0, 1) := by decide +kernel
theorem d_mo_fewestOf_14 : decode (q_cc m_mo_fewestOf) 14 = .ok (.iload_n 1, 1) := by decide +kernel
theorem d_mo_fewestOf_15 : decode (q_cc m_mo_fewestOf) 15 = .ok (.invokevirtual 462, 3) := by decide +kernel
theorem d_mo_fewestOf_18 : decode (q_cc m_mo_fewestOf) 18 = .ok (.invokevirtual 474, 3) := by decide +kernel
theorem d_mo_fewestOf_21 : decode (q_cc m_mo_fewestOf) 21 = .ok (.isub, 1) := by decide +kernel
theorem d_mo_fewestOf_22 : decode (q_cc m_mo_fewestOf) 22 = .ok (.ireturn, 1) := by decide +kernel
theorem d_mo_shades_0 : decode (q_cc m_mo_shades) 0 = .ok (.iload_n 1, 1) := by decide +kernel
theorem d_mo_shades_1 : decode (q_cc m_mo_shades) 1 = .ok (.iconst (-1), 1) := by decide +kernel
theorem d_mo_shades_2 : decode (q_cc m_mo_shades) 2 = .ok (.if_icmp .eq 13, 3) := by decide +kernel
theorem d_mo_shades_5 : decode (q_cc m_mo_shades) 5 = .ok (.aload_n 0, 1) := by decide +kernel
theorem d_mo_shades_6 : decode (q_cc m_mo_shades) 6 = .ok (.iload_n 1, 1) := by decide +kernel
theorem d_mo_shades_7 : decode (q_cc m_mo_shades) 7 = .ok (.invokevirtual 450, 3) := by decide +kernel
theorem d_mo_shades_10 : decode (q_cc m_mo_shades) 10 = .ok (.ifCond .ne 5, 3) := by decide +kernel
theorem d_mo_shades_13 : decode (q_cc m_mo_shades) 13 = .ok (.iconst (-1), 1) := by decide +kernel
theorem d_mo_shades_14 : decode (q_cc m_mo_shades) 14 = .ok (.ireturn, 1) := by decide +kernel
theorem d_mo_shades_15 : decode (q_cc m_mo_shades) 15 = .ok (.iconst 0, 1) := by decide +kernel
theorem d_mo_shades_16 : decode (q_cc m_mo_shades) 16 = .ok (.istore_n 2, 1) := by decide +kernel
theorem d_mo_shades_17 : decode (q_cc m_mo_shades) 17 = .ok (.iconst 0, 1) := by decide +kernel
theorem d_mo_shades_18 : decode (q_cc m_mo_shades) 18 = .ok (.istore_n 3, 1) := by decide +kernel
theorem d_mo_shades_19 : decode (q_cc m_mo_shades) 19 = .ok (.iload_n 3, 1) := by decide +kernel
theorem d_mo_shades_20 : decode (q_cc m_mo_shades) 20 = .ok (.aload_n 0, 1) := by decide +kernel
theorem d_mo_shades_21 : decode (q_cc m_mo_shades) 21 = .ok (.invokevirtual 422, 3) := by decide +kernel
theorem d_mo_shades_24 : decode (q_cc m_mo_shades) 24 = .ok (.if_icmp .ge 27, 3) := by decide +kernel
theorem d_mo_shades_27 : decode (q_cc m_mo_shades) 27 = .ok (.iload_n 1, 1) := by decide +kernel
theorem d_mo_shades_28 : decode (q_cc m_mo_shades) 28 = .ok (.iconst (-1), 1) := by decide +kernel
theorem d_mo_shades_29 : decode (q_cc m_mo_shades) 29 = .ok (.if_icmp .eq 8, 3) := by decide +kernel
theorem d_mo_shades_32 : decode (q_cc m_mo_shades) 32 = .ok (.iload_n 1, 1) := by decide +kernel
theorem d_mo_shades_33 : decode (q_cc m_mo_shades) 33 = .ok (.iload_n 3, 1) := by decide +kernel
theorem d_mo_shades_34 : decode (q_cc m_mo_shades) 34 = .ok (.if_icmp .ne 11, 3) := by decide +kernel
theorem d_mo_shades_37 : decode (q_cc m_mo_shades) 37 = .ok (.iload_n 2, 1) := by decide +kernel
theorem d_mo_shades_38 : decode (q_cc m_mo_shades) 38 = .ok (.aload_n 0, 1) := by decide +kernel
theorem d_mo_shades_39 : decode (q_cc m_mo_shades) 39 = .ok (.iload_n 3, 1) := by decide +kernel
theorem d_mo_shades_40 : decode (q_cc m_mo_shades) 40 = .ok (.invokevirtual 483, 3) := by decide +kernel
theorem d_mo_shades_43 : decode (q_cc m_mo_shades) 43 = .ok (.iadd, 1) := by decide +kernel
theorem d_mo_shades_44 : decode (q_cc m_mo_shades) 44 = .ok (.istore_n 2, 1) := by decide +kernel
theorem d_mo_shades_45 : decode (q_cc m_mo_shades) 45 = .ok (.iinc 3 1, 3) := by decide +kernel
theorem d_mo_shades_48 : decode (q_cc m_mo_shades) 48 = .ok (.goto (-29), 3) := by decide +kernel
theorem d_mo_shades_51 : decode (q_cc m_mo_shades) 51 = .ok (.iload_n 2, 1) := by decide +kernel
theorem d_mo_shades_52 : decode (q_cc m_mo_shades) 52 = .ok (.ireturn, 1) := by decide +kernel
theorem d_mo_must_0 : decode (q_cc m_mo_must) 0 = .ok (.aload_n 0, 1) := by decide +kernel
theorem d_mo_must_1 : decode (q_cc m_mo_must) 1 = .ok (.iload_n 1, 1) := by decide +kernel
theorem d_mo_must_2 : decode (q_cc m_mo_must) 2 = .ok (.invokevirtual 456, 3) := by decide +kernel
theorem d_mo_must_5 : decode (q_cc m_mo_must) 5 = .ok (.ifCond .eq 13, 3) := by decide +kernel
theorem d_mo_must_8 : decode (q_cc m_mo_must) 8 = .ok (.aload_n 0, 1) := by decide +kernel
theorem d_mo_must_9 : decode (q_cc m_mo_must) 9 = .ok (.getfield 148, 3) := by decide +kernel
theorem d_mo_must_12 : decode (q_cc m_mo_must) 12 = .ok (.iload_n 1, 1) := by decide +kernel
theorem d_mo_must_13 : decode (q_cc m_mo_must) 13 = .ok (.iaload, 1) := by decide +kernel
theorem d_mo_must_14 : decode (q_cc m_mo_must) 14 = .ok (.iconst (-1), 1) := by decide +kernel
theorem d_mo_must_15 : decode (q_cc m_mo_must) 15 = .ok (.if_icmp .eq 5, 3) := by decide +kernel
theorem d_mo_must_18 : decode (q_cc m_mo_must) 18 = .ok (.iconst (-1), 1) := by decide +kernel
theorem d_mo_must_19 : decode (q_cc m_mo_must) 19 = .ok (.ireturn, 1) := by decide +kernel
theorem d_mo_must_20 : decode (q_cc m_mo_must) 20 = .ok (.aload_n 0, 1) := by decide +kernel
theorem d_mo_must_21 : decode (q_cc m_mo_must) 21 = .ok (.invokevirtual 471, 3) := by decide +kernel
theorem d_mo_must_24 : decode (q_cc m_mo_must) 24 = .ok (.aload_n 0, 1) := by decide +kernel
theorem d_mo_must_25 : decode (q_cc m_mo_must) 25 = .ok (.aload_n 0, 1) := by decide +kernel
theorem d_mo_must_26 : decode (q_cc m_mo_must) 26 = .ok (.iload_n 1, 1) := by decide +kernel
theorem d_mo_must_27 : decode (q_cc m_mo_must) 27 = .ok (.invokevirtual 425, 3) := by decide +kernel
theorem d_mo_must_30 : decode (q_cc m_mo_must) 30 = .ok (.invokevirtual 462, 3) := by decide +kernel
theorem d_mo_must_33 : decode (q_cc m_mo_must) 33 = .ok (.istore_n 2, 1) := by decide +kernel
theorem d_mo_must_34 : decode (q_cc m_mo_must) 34 = .ok (.aload_n 0, 1) := by decide +kernel
theorem d_mo_must_35 : decode (q_cc m_mo_must) 35 = .ok (.iload_n 2, 1) := by decide +kernel
theorem d_mo_must_36 : decode (q_cc m_mo_must) 36 = .ok (.invokevirtual 474, 3) := by decide +kernel
theorem d_mo_must_39 : decode (q_cc m_mo_must) 39 = .ok (.istore_n 3, 1) := by decide +kernel
theorem d_mo_must_40 : decode (q_cc m_mo_must) 40 = .ok (.aload_n 0, 1) := by decide +kernel
theorem d_mo_must_41 : decode (q_cc m_mo_must) 41 = .ok (.iload_n 2, 1) := by decide +kernel
theorem d_mo_must_42 : decode (q_cc m_mo_must) 42 = .ok (.aload_n 0, 1) := by decide +kernel
theorem d_mo_must_43 : decode (q_cc m_mo_must) 43 = .ok (.getfield 151, 3) := by decide +kernel
theorem d_mo_must_46 : decode (q_cc m_mo_must) 46 = .ok (.iload_n 1, 1) := by decide +kernel
theorem d_mo_must_47 : decode (q_cc m_mo_must) 47 = .ok (.iaload, 1) := by decide +kernel
theorem d_mo_must_48 : decode (q_cc m_mo_must) 48 = .ok (.iand, 1) := by decide +kernel
theorem d_mo_must_49 : decode (q_cc m_mo_must) 49 = .ok (.invokevirtual 474, 3) := by decide +kernel
theorem d_mo_must_52 : decode (q_cc m_mo_must) 52 = .ok (.iload_n 3, 1) := by decide +kernel
theorem d_mo_must_53 : decode (q_cc m_mo_must) 53 = .ok (.if_icmp .ge 5, 3) := by decide +kernel
theorem d_mo_must_56 : decode (q_cc m_mo_must) 56 = .ok (.iconst 0, 1) := by decide +kernel
theorem d_mo_must_57 : decode (q_cc m_mo_must) 57 = .ok (.ireturn, 1) := by decide +kernel
theorem d_mo_must_58 : decode (q_cc m_mo_must) 58 = .ok (.aload_n 0, 1) := by decide +kernel
theorem d_mo_must_59 : decode (q_cc m_mo_must) 59 = .ok (.iload_n 2, 1) := by decide +kernel
theorem d_mo_must_60 : decode (q_cc m_mo_must) 60 = .ok (.iconst 1, 1) := by decide +kernel
theorem d_mo_must_61 : decode (q_cc m_mo_must) 61 = .ok (.iload_n 1, 1) := by decide +kernel
theorem d_mo_must_62 : decode (q_cc m_mo_must) 62 = .ok (.ishl, 1) := by decide +kernel
theorem d_mo_must_63 : decode (q_cc m_mo_must) 63 = .ok (.iconst (-1), 1) := by decide +kernel
theorem d_mo_must_64 : decode (q_cc m_mo_must) 64 = .ok (.ixor, 1) := by decide +kernel
theorem d_mo_must_65 : decode (q_cc m_mo_must) 65 = .ok (.iand, 1) := by decide +kernel
theorem d_mo_must_66 : decode (q_cc m_mo_must) 66 = .ok (.invokevirtual 474, 3) := by decide +kernel
theorem d_mo_must_69 : decode (q_cc m_mo_must) 69 = .ok (.iload_n 3, 1) := by decide +kernel
theorem d_mo_must_70 : decode (q_cc m_mo_must) 70 = .ok (.if_icmp .ge 7, 3) := by decide +kernel
theorem d_mo_must_73 : decode (q_cc m_mo_must) 73 = .ok (.iconst 2, 1) := by decide +kernel
theorem d_mo_must_74 : decode (q_cc m_mo_must) 74 = .ok (.goto 4, 3) := by decide +kernel
theorem d_mo_must_77 : decode (q_cc m_mo_must) 77 = .ok (.iconst 1, 1) := by decide +kernel
theorem d_mo_must_78 : decode (q_cc m_mo_must) 78 = .ok (.ireturn, 1) := by decide +kernel
theorem d_mo_canBe_0 : decode (q_cc m_mo_canBe) 0 = .ok (.aload_n 0, 1) := by decide +kernel
theorem d_mo_canBe_1 : decode (q_cc m_mo_canBe) 1 = .ok (.iload_n 1, 1) := by decide +kernel
theorem d_mo_canBe_2 : decode (q_cc m_mo_canBe) 2 = .ok (.invokevirtual 456, 3) := by decide +kernel
theorem d_mo_canBe_5 : decode (q_cc m_mo_canBe) 5 = .ok (.ifCond .eq 16, 3) := by decide +kernel
theorem d_mo_canBe_8 : decode (q_cc m_mo_canBe) 8 = .ok (.aload_n 0, 1) := by decide +kernel
theorem d_mo_canBe_9 : decode (q_cc m_mo_canBe) 9 = .ok (.iload_n 2, 1) := by decide +kernel
theorem d_mo_canBe_10 : decode (q_cc m_mo_canBe) 10 = .ok (.invokevirtual 456, 3) := by decide +kernel
theorem d_mo_canBe_13 : decode (q_cc m_mo_canBe) 13 = .ok (.ifCond .eq 8, 3) := by decide +kernel
theorem d_mo_canBe_16 : decode (q_cc m_mo_canBe) 16 = .ok (.iload_n 1, 1) := by decide +kernel
theorem d_mo_canBe_17 : decode (q_cc m_mo_canBe) 17 = .ok (.iload_n 2, 1) := by decide +kernel
theorem d_mo_canBe_18 : decode (q_cc m_mo_canBe) 18 = .ok (.if_icmp .ne 7, 3) := by decide +kernel
theorem d_mo_canBe_21 : decode (q_cc m_mo_canBe) 21 = .ok (.iconst (-1), 1) := by decide +kernel
theorem d_mo_canBe_22 : decode (q_cc m_mo_canBe) 22 = .ok (.goto 13, 3) := by decide +kernel
theorem d_mo_canBe_25 : decode (q_cc m_mo_canBe) 25 = .ok (.aload_n 0, 1) := by decide +kernel
theorem d_mo_canBe_26 : decode (q_cc m_mo_canBe) 26 = .ok (.getfield 151, 3) := by decide +kernel
theorem d_mo_canBe_29 : decode (q_cc m_mo_canBe) 29 = .ok (.iload_n 1, 1) := by decide +kernel
theorem d_mo_canBe_30 : decode (q_cc m_mo_canBe) 30 = .ok (.iaload, 1) := by decide +kernel
theorem d_mo_canBe_31 : decode (q_cc m_mo_canBe) 31 = .ok (.iload_n 2, 1) := by decide +kernel
theorem d_mo_canBe_32 : decode (q_cc m_mo_canBe) 32 = .ok (.ishr, 1) := by decide +kernel
theorem d_mo_canBe_33 : decode (q_cc m_mo_canBe) 33 = .ok (.iconst 1, 1) := by decide +kernel
theorem d_mo_canBe_34 : decode (q_cc m_mo_canBe) 34 = .ok (.iand, 1) := by decide +kernel
theorem d_mo_canBe_35 : decode (q_cc m_mo_canBe) 35 = .ok (.ireturn, 1) := by decide +kernel
theorem d_mo_clash_0 : decode (q_cc m_mo_clash) 0 = .ok (.iconst 0, 1) := by decide +kernel
theorem d_mo_clash_1 : decode (q_cc m_mo_clash) 1 = .ok (.istore_n 2, 1) := by decide +kernel
theorem d_mo_clash_2 : decode (q_cc m_mo_clash) 2 = .ok (.iconst 0, 1) := by decide +kernel
theorem d_mo_clash_3 : decode (q_cc m_mo_clash) 3 = .ok (.istore_n 3, 1) := by decide +kernel
theorem d_mo_clash_4 : decode (q_cc m_mo_clash) 4 = .ok (.iload_n 3, 1) := by decide +kernel
theorem d_mo_clash_5 : decode (q_cc m_mo_clash) 5 = .ok (.aload_n 0, 1) := by decide +kernel
theorem d_mo_clash_6 : decode (q_cc m_mo_clash) 6 = .ok (.invokevirtual 328, 3) := by decide +kernel
theorem d_mo_clash_9 : decode (q_cc m_mo_clash) 9 = .ok (.if_icmp .ge 98, 3) := by decide +kernel
theorem d_mo_clash_12 : decode (q_cc m_mo_clash) 12 = .ok (.iload_n 3, 1) := by decide +kernel
theorem d_mo_clash_13 : decode (q_cc m_mo_clash) 13 = .ok (.iconst 1, 1) := by decide +kernel
theorem d_mo_clash_14 : decode (q_cc m_mo_clash) 14 = .ok (.iadd, 1) := by decide +kernel
theorem d_mo_clash_15 : decode (q_cc m_mo_clash) 15 = .ok (.istore 4, 2) := by decide +kernel
theorem d_mo_clash_17 : decode (q_cc m_mo_clash) 17 = .ok (.iload 4, 2) := by decide +kernel
theorem d_mo_clash_19 : decode (q_cc m_mo_clash) 19 = .ok (.aload_n 0, 1) := by decide +kernel
theorem d_mo_clash_20 : decode (q_cc m_mo_clash) 20 = .ok (.invokevirtual 328, 3) := by decide +kernel
theorem d_mo_clash_23 : decode (q_cc m_mo_clash) 23 = .ok (.if_icmp .ge 78, 3) := by decide +kernel
theorem d_mo_clash_26 : decode (q_cc m_mo_clash) 26 = .ok (.aload_n 0, 1) := by decide +kernel
theorem d_mo_clash_27 : decode (q_cc m_mo_clash) 27 = .ok (.getfield 148, 3) := by decide +kernel
theorem d_mo_clash_30 : decode (q_cc m_mo_clash) 30 = .ok (.iload_n 3, 1) := by decide +kernel
theorem d_mo_clash_31 : decode (q_cc m_mo_clash) 31 = .ok (.iaload, 1) := by decide +kernel
theorem d_mo_clash_32 : decode (q_cc m_mo_clash) 32 = .ok (.iconst (-1), 1) := by decide +kernel
theorem d_mo_clash_33 : decode (q_cc m_mo_clash) 33 = .ok (.if_icmp .ne 62, 3) := by decide +kernel
theorem d_mo_clash_36 : decode (q_cc m_mo_clash) 36 = .ok (.aload_n 0, 1) := by decide +kernel
theorem d_mo_clash_37 : decode (q_cc m_mo_clash) 37 = .ok (.getfield 148, 3) := by decide +kernel
theorem d_mo_clash_40 : decode (q_cc m_mo_clash) 40 = .ok (.iload 4, 2) := by decide +kernel
theorem d_mo_clash_42 : decode (q_cc m_mo_clash) 42 = .ok (.iaload, 1) := by decide +kernel
theorem d_mo_clash_43 : decode (q_cc m_mo_clash) 43 = .ok (.iconst (-1), 1) := by decide +kernel
theorem d_mo_clash_44 : decode (q_cc m_mo_clash) 44 = .ok (.if_icmp .ne 51, 3) := by decide +kernel
theorem d_mo_clash_47 : decode (q_cc m_mo_clash) 47 = .ok (.aload_n 0, 1) := by decide +kernel
theorem d_mo_clash_48 : decode (q_cc m_mo_clash) 48 = .ok (.iload_n 3, 1) := by decide +kernel
theorem d_mo_clash_49 : decode (q_cc m_mo_clash) 49 = .ok (.invokevirtual 425, 3) := by decide +kernel
theorem d_mo_clash_52 : decode (q_cc m_mo_clash) 52 = .ok (.aload_n 0, 1) := by decide +kernel
theorem d_mo_clash_53 : decode (q_cc m_mo_clash) 53 = .ok (.iload 4, 2) := by decide +kernel
theorem d_mo_clash_55 : decode (q_cc m_mo_clash) 55 = .ok (.invokevirtual 425, 3) := by decide +kernel
theorem d_mo_clash_58 : decode (q_cc m_mo_clash) 58 = .ok (.if_icmp .ne 37, 3) := by decide +kernel
theorem d_mo_clash_61 : decode (q_cc m_mo_clash) 61 = .ok (.aload_n 0, 1) := by decide +kernel
theorem d_mo_clash_62 : decode (q_cc m_mo_clash) 62 = .ok (.getfield 151, 3) := by decide +kernel
theorem d_mo_clash_65 : decode (q_cc m_mo_clash) 65 = .ok (.iload_n 3, 1) := by decide +kernel
theorem d_mo_clash_66 : decode (q_cc m_mo_clash) 66 = .ok (.iaload, 1) := by decide +kernel
theorem d_mo_clash_67 : decode (q_cc m_mo_clash) 67 = .ok (.iload 4, 2) := by decide +kernel
theorem d_mo_clash_69 : decode (q_cc m_mo_clash) 69 = .ok (.ishr, 1) := by decide +kernel
theorem d_mo_clash_70 : decode (q_cc m_mo_clash) 70 = .ok (.iconst 1, 1) := by decide +kernel
theorem d_mo_clash_71 : decode (q_cc m_mo_clash) 71 = .ok (.iand, 1) := by decide +kernel
theorem d_mo_clash_72 : decode (q_cc m_mo_clash) 72 = .ok (.iconst 1, 1) := by decide +kernel
theorem d_mo_clash_73 : decode (q_cc m_mo_clash) 73 = .ok (.if_icmp .ne 6, 3) := by decide +kernel
theorem d_mo_clash_76 : decode (q_cc m_mo_clash) 76 = .ok (.goto 19, 3) := by decide +kernel
theorem d_mo_clash_79 : decode (q_cc m_mo_clash) 79 = .ok (.iload_n 2, 1) := by decide +kernel
theorem d_mo_clash_80 : decode (q_cc m_mo_clash) 80 = .ok (.iload_n 1, 1) := by decide +kernel
theorem d_mo_clash_81 : decode (q_cc m_mo_clash) 81 = .ok (.if_icmp .ne 11, 3) := by decide +kernel
theorem d_mo_clash_84 : decode (q_cc m_mo_clash) 84 = .ok (.bipush 100, 2) := by decide +kernel
theorem d_mo_clash_86 : decode (q_cc m_mo_clash) 86 = .ok (.iload_n 3, 1) := by decide +kernel
theorem d_mo_clash_87 : decode (q_cc m_mo_clash) 87 = .ok (.imul, 1) := by decide +kernel
theorem d_mo_clash_88 : decode (q_cc m_mo_clash) 88 = .ok (.iload 4, 2) := by decide +kernel
theorem d_mo_clash_90 : decode (q_cc m_mo_clash) 90 = .ok (.iadd, 1) := by decide +kernel
theorem d_mo_clash_91 : decode (q_cc m_mo_clash) 91 = .ok (.ireturn, 1) := by decide +kernel
theorem d_mo_clash_92 : decode (q_cc m_mo_clash) 92 = .ok (.iinc 2 1, 3) := by decide +kernel
theorem d_mo_clash_95 : decode (q_cc m_mo_clash) 95 = .ok (.iinc 4 1, 3) := by decide +kernel
theorem d_mo_clash_98 : decode (q_cc m_mo_clash) 98 = .ok (.goto (-81), 3) := by decide +kernel
theorem d_mo_clash_101 : decode (q_cc m_mo_clash) 101 = .ok (.iinc 3 1, 3) := by decide +kernel
theorem d_mo_clash_104 : decode (q_cc m_mo_clash) 104 = .ok (.goto (-100), 3) := by decide +kernel
theorem d_mo_clash_107 : decode (q_cc m_mo_clash) 107 = .ok (.iconst (-1), 1) := by decide +kernel
theorem d_mo_clash_108 : decode (q_cc m_mo_clash) 108 = .ok (.ireturn, 1) := by decide +kernel
theorem d_mo_couldBe_0 : decode (q_cc m_mo_couldBe) 0 = .ok (.iconst 0, 1) := by decide +kernel
theorem d_mo_couldBe_1 : decode (q_cc m_mo_couldBe) 1 = .ok (.istore 4, 2) := by decide +kernel
theorem d_mo_couldBe_3 : decode (q_cc m_mo_couldBe) 3 = .ok (.iload 4, 2) := by decide +kernel
theorem d_mo_couldBe_5 : decode (q_cc m_mo_couldBe) 5 = .ok (.aload_n 0, 1) := by decide +kernel
theorem d_mo_couldBe_6 : decode (q_cc m_mo_couldBe) 6 = .ok (.invokevirtual 328, 3) := by decide +kernel
theorem d_mo_couldBe_9 : decode (q_cc m_mo_couldBe) 9 = .ok (.if_icmp .ge 42, 3) := by decide +kernel
theorem d_mo_couldBe_12 : decode (q_cc m_mo_couldBe) 12 = .ok (.iload_n 1, 1) := by decide +kernel
theorem d_mo_couldBe_13 : decode (q_cc m_mo_couldBe) 13 = .ok (.iload 4, 2) := by decide +kernel
theorem d_mo_couldBe_15 : decode (q_cc m_mo_couldBe) 15 = .ok (.ishr, 1) := by decide +kernel
theorem d_mo_couldBe_16 : decode (q_cc m_mo_couldBe) 16 = .ok (.iconst 1, 1) := by decide +kernel
theorem d_mo_couldBe_17 : decode (q_cc m_mo_couldBe) 17 = .ok (.iand, 1) := by decide +kernel
theorem d_mo_couldBe_18 : decode (q_cc m_mo_couldBe) 18 = .ok (.iconst 1, 1) := by decide +kernel
theorem d_mo_couldBe_19 : decode (q_cc m_mo_couldBe) 19 = .ok (.if_icmp .ne 26, 3) := by decide +kernel
theorem d_mo_couldBe_22 : decode (q_cc m_mo_couldBe) 22 = .ok (.aload_n 0, 1) := by decide +kernel
theorem d_mo_couldBe_23 : decode (q_cc m_mo_couldBe) 23 = .ok (.aload_n 0, 1) := by decide +kernel
theorem d_mo_couldBe_24 : decode (q_cc m_mo_couldBe) 24 = .ok (.iload 4, 2) := by decide +kernel
theorem d_mo_couldBe_26 : decode (q_cc m_mo_couldBe) 26 = .ok (.invokevirtual 331, 3) := by decide +kernel
theorem d_mo_couldBe_29 : decode (q_cc m_mo_couldBe) 29 = .ok (.aload_n 0, 1) := by decide +kernel
theorem d_mo_couldBe_30 : decode (q_cc m_mo_couldBe) 30 = .ok (.iload 4, 2) := by decide +kernel
theorem d_mo_couldBe_32 : decode (q_cc m_mo_couldBe) 32 = .ok (.invokevirtual 334, 3) := by decide +kernel
theorem d_mo_couldBe_35 : decode (q_cc m_mo_couldBe) 35 = .ok (.iload_n 2, 1) := by decide +kernel
theorem d_mo_couldBe_36 : decode (q_cc m_mo_couldBe) 36 = .ok (.iload_n 3, 1) := by decide +kernel
theorem d_mo_couldBe_37 : decode (q_cc m_mo_couldBe) 37 = .ok (.invokevirtual 337, 3) := by decide +kernel
theorem d_mo_couldBe_40 : decode (q_cc m_mo_couldBe) 40 = .ok (.ifCond .ne 5, 3) := by decide +kernel
theorem d_mo_couldBe_43 : decode (q_cc m_mo_couldBe) 43 = .ok (.iconst 0, 1) := by decide +kernel
theorem d_mo_couldBe_44 : decode (q_cc m_mo_couldBe) 44 = .ok (.ireturn, 1) := by decide +kernel
theorem d_mo_couldBe_45 : decode (q_cc m_mo_couldBe) 45 = .ok (.iinc 4 1, 3) := by decide +kernel
theorem d_mo_couldBe_48 : decode (q_cc m_mo_couldBe) 48 = .ok (.goto (-45), 3) := by decide +kernel
theorem d_mo_couldBe_51 : decode (q_cc m_mo_couldBe) 51 = .ok (.iconst 1, 1) := by decide +kernel
theorem d_mo_couldBe_52 : decode (q_cc m_mo_couldBe) 52 = .ok (.ireturn, 1) := by decide +kernel
theorem d_mo_could_0 : decode (q_cc m_mo_could) 0 = .ok (.aload_n 0, 1) := by decide +kernel
theorem d_mo_could_1 : decode (q_cc m_mo_could) 1 = .ok (.iload_n 1, 1) := by decide +kernel
theorem d_mo_could_2 : decode (q_cc m_mo_could) 2 = .ok (.invokevirtual 459, 3) := by decide +kernel
theorem d_mo_could_5 : decode (q_cc m_mo_could) 5 = .ok (.ifCond .eq 15, 3) := by decide +kernel
theorem d_mo_could_8 : decode (q_cc m_mo_could) 8 = .ok (.iload_n 2, 1) := by decide +kernel
theorem d_mo_could_9 : decode (q_cc m_mo_could) 9 = .ok (.i2l, 1) := by decide +kernel
theorem d_mo_could_10 : decode (q_cc m_mo_could) 10 = .ok (.lconst 0, 1) := by decide +kernel
theorem d_mo_could_11 : decode (q_cc m_mo_could) 11 = .ok (.ldc2_w 486, 3) := by decide +kernel
theorem d_mo_could_14 : decode (q_cc m_mo_could) 14 = .ok (.invokestatic 225, 3) := by decide +kernel
theorem d_mo_could_17 : decode (q_cc m_mo_could) 17 = .ok (.ifCond .ne 5, 3) := by decide +kernel
theorem d_mo_could_20 : decode (q_cc m_mo_could) 20 = .ok (.iconst (-1), 1) := by decide +kernel
theorem d_mo_could_21 : decode (q_cc m_mo_could) 21 = .ok (.ireturn, 1) := by decide +kernel
theorem d_mo_could_22 : decode (q_cc m_mo_could) 22 = .ok (.iconst 0, 1) := by decide +kernel
theorem d_mo_could_23 : decode (q_cc m_mo_could) 23 = .ok (.istore 4, 2) := by decide +kernel
theorem d_mo_could_25 : decode (q_cc m_mo_could) 25 = .ok (.iload_n 3, 1) := by decide +kernel
theorem d_mo_could_26 : decode (q_cc m_mo_could) 26 = .ok (.ifCond .eq 10, 3) := by decide +kernel
theorem d_mo_could_29 : decode (q_cc m_mo_could) 29 = .ok (.aload_n 0, 1) := by decide +kernel
theorem d_mo_could_30 : decode (q_cc m_mo_could) 30 = .ok (.invokevirtual 419, 3) := by decide +kernel
theorem d_mo_could_33 : decode (q_cc m_mo_could) 33 = .ok (.goto 7, 3) := by decide +kernel
theorem d_mo_could_36 : decode (q_cc m_mo_could) 36 = .ok (.aload_n 0, 1) := by decide +kernel
theorem d_mo_could_37 : decode (q_cc m_mo_could) 37 = .ok (.invokevirtual 422, 3) := by decide +kernel
theorem d_mo_could_40 : decode (q_cc m_mo_could) 40 = .ok (.istore 5, 2) := by decide +kernel
theorem d_mo_could_42 : decode (q_cc m_mo_could) 42 = .ok (.iconst 0, 1) := by decide +kernel
theorem d_mo_could_43 : decode (q_cc m_mo_could) 43 = .ok (.istore 6, 2) := by decide +kernel
theorem d_mo_could_45 : decode (q_cc m_mo_could) 45 = .ok (.iload 6, 2) := by decide +kernel
theorem d_mo_could_47 : decode (q_cc m_mo_could) 47 = .ok (.iload 5, 2) := by decide +kernel
theorem d_mo_could_49 : decode (q_cc m_mo_could) 49 = .ok (.if_icmp .ge 46, 3) := by decide +kernel
theorem d_mo_could_52 : decode (q_cc m_mo_could) 52 = .ok (.aload_n 0, 1) := by decide +kernel
theorem d_mo_could_53 : decode (q_cc m_mo_could) 53 = .ok (.iload_n 3, 1) := by decide +kernel
theorem d_mo_could_54 : decode (q_cc m_mo_could) 54 = .ok (.ifCond .eq 12, 3) := by decide +kernel
theorem d_mo_could_57 : decode (q_cc m_mo_could) 57 = .ok (.aload_n 0, 1) := by decide +kernel
theorem d_mo_could_58 : decode (q_cc m_mo_could) 58 = .ok (.iload 6, 2) := by decide +kernel
theorem d_mo_could_60 : decode (q_cc m_mo_could) 60 = .ok (.invokevirtual 440, 3) := by decide +kernel
theorem d_mo_could_63 : decode (q_cc m_mo_could) 63 = .ok (.goto 9, 3) := by decide +kernel
theorem d_mo_could_66 : decode (q_cc m_mo_could) 66 = .ok (.aload_n 0, 1) := by decide +kernel
theorem d_mo_could_67 : decode (q_cc m_mo_could) 67 = .ok (.iload 6, 2) := by decide +kernel
theorem d_mo_could_69 : decode (q_cc m_mo_could) 69 = .ok (.invokevirtual 462, 3) := by decide +kernel
theorem d_mo_could_72 : decode (q_cc m_mo_could) 72 = .ok (.iload_n 1, 1) := by decide +kernel
theorem d_mo_could_73 : decode (q_cc m_mo_could) 73 = .ok (.iload_n 2, 1) := by decide +kernel
theorem d_mo_could_74 : decode (q_cc m_mo_could) 74 = .ok (.invokevirtual 488, 3) := by decide +kernel
theorem d_mo_could_77 : decode (q_cc m_mo_could) 77 = .ok (.ifCond .eq 12, 3) := by decide +kernel
theorem d_mo_could_80 : decode (q_cc m_mo_could) 80 = .ok (.iload 4, 2) := by decide +kernel
theorem d_mo_could_82 : decode (q_cc m_mo_could) 82 = .ok (.iconst 1, 1) := by decide +kernel
theorem d_mo_could_83 : decode (q_cc m_mo_could) 83 = .ok (.iload 6, 2) := by decide +kernel
theorem d_mo_could_85 : decode (q_cc m_mo_could) 85 = .ok (.ishl, 1) := by decide +kernel
theorem d_mo_could_86 : decode (q_cc m_mo_could) 86 = .ok (.ior, 1) := by decide +kernel
theorem d_mo_could_87 : decode (q_cc m_mo_could) 87 = .ok (.istore 4, 2) := by decide +kernel
theorem d_mo_could_89 : decode (q_cc m_mo_could) 89 = .ok (.iinc 6 1, 3) := by decide +kernel
theorem d_mo_could_92 : decode (q_cc m_mo_could) 92 = .ok (.goto (-47), 3) := by decide +kernel
theorem d_mo_could_95 : decode (q_cc m_mo_could) 95 = .ok (.iload 4, 2) := by decide +kernel
theorem d_mo_could_97 : decode (q_cc m_mo_could) 97 = .ok (.ireturn, 1) := by decide +kernel
theorem d_mo_opens1_0 : decode (q_cc m_mo_opens1) 0 = .ok (.aload_n 0, 1) := by decide +kernel
theorem d_mo_opens1_1 : decode (q_cc m_mo_opens1) 1 = .ok (.iconst 0, 1) := by decide +kernel
theorem d_mo_opens1_2 : decode (q_cc m_mo_opens1) 2 = .ok (.putfield 491, 3) := by decide +kernel
theorem d_mo_opens1_5 : decode (q_cc m_mo_opens1) 5 = .ok (.iconst 0, 1) := by decide +kernel
theorem d_mo_opens1_6 : decode (q_cc m_mo_opens1) 6 = .ok (.istore_n 2, 1) := by decide +kernel
theorem d_mo_opens1_7 : decode (q_cc m_mo_opens1) 7 = .ok (.iload_n 2, 1) := by decide +kernel
theorem d_mo_opens1_8 : decode (q_cc m_mo_opens1) 8 = .ok (.aload_n 0, 1) := by decide +kernel
theorem d_mo_opens1_9 : decode (q_cc m_mo_opens1) 9 = .ok (.invokevirtual 328, 3) := by decide +kernel
theorem d_mo_opens1_12 : decode (q_cc m_mo_opens1) 12 = .ok (.if_icmp .ge 40, 3) := by decide +kernel
theorem d_mo_opens1_15 : decode (q_cc m_mo_opens1) 15 = .ok (.iload_n 1, 1) := by decide +kernel
theorem d_mo_opens1_16 : decode (q_cc m_mo_opens1) 16 = .ok (.iload_n 2, 1) := by decide +kernel
theorem d_mo_opens1_17 : decode (q_cc m_mo_opens1) 17 = .ok (.ishr, 1) := by decide +kernel
theorem d_mo_opens1_18 : decode (q_cc m_mo_opens1) 18 = .ok (.iconst 1, 1) := by decide +kernel
theorem d_mo_opens1_19 : decode (q_cc m_mo_opens1) 19 = .ok (.iand, 1) := by decide +kernel
theorem d_mo_opens1_20 : decode (q_cc m_mo_opens1) 20 = .ok (.ifCond .ne 6, 3) := by decide +kernel
theorem d_mo_opens1_23 : decode (q_cc m_mo_opens1) 23 = .ok (.goto 23, 3) := by decide +kernel
theorem d_mo_opens1_26 : decode (q_cc m_mo_opens1) 26 = .ok (.aload_n 0, 1) := by decide +kernel
theorem d_mo_opens1_27 : decode (q_cc m_mo_opens1) 27 = .ok (.getfield 163, 3) := by decide +kernel
theorem d_mo_opens1_30 : decode (q_cc m_mo_opens1) 30 = .ok (.aload_n 0, 1) := by decide +kernel
theorem d_mo_opens1_31 : decode (q_cc m_mo_opens1) 31 = .ok (.getfield 491, 3) := by decide +kernel
theorem d_mo_opens1_34 : decode (q_cc m_mo_opens1) 34 = .ok (.iload_n 2, 1) := by decide +kernel
theorem d_mo_opens1_35 : decode (q_cc m_mo_opens1) 35 = .ok (.iastore, 1) := by decide +kernel
theorem d_mo_opens1_36 : decode (q_cc m_mo_opens1) 36 = .ok (.aload_n 0, 1) := by decide +kernel
theorem d_mo_opens1_37 : decode (q_cc m_mo_opens1) 37 = .ok (.dup, 1) := by decide +kernel
theorem d_mo_opens1_38 : decode (q_cc m_mo_opens1) 38 = .ok (.getfield 491, 3) := by decide +kernel
theorem d_mo_opens1_41 : decode (q_cc m_mo_opens1) 41 = .ok (.iconst 1, 1) := by decide +kernel
theorem d_mo_opens1_42 : decode (q_cc m_mo_opens1) 42 = .ok (.iadd, 1) := by decide +kernel
theorem d_mo_opens1_43 : decode (q_cc m_mo_opens1) 43 = .ok (.putfield 491, 3) := by decide +kernel
theorem d_mo_opens1_46 : decode (q_cc m_mo_opens1) 46 = .ok (.iinc 2 1, 3) := by decide +kernel
theorem d_mo_opens1_49 : decode (q_cc m_mo_opens1) 49 = .ok (.goto (-42), 3) := by decide +kernel
theorem d_mo_opens1_52 : decode (q_cc m_mo_opens1) 52 = .ok (.iconst 0, 1) := by decide +kernel
theorem d_mo_opens1_53 : decode (q_cc m_mo_opens1) 53 = .ok (.istore_n 2, 1) := by decide +kernel
theorem d_mo_opens1_54 : decode (q_cc m_mo_opens1) 54 = .ok (.iload_n 2, 1) := by decide +kernel
theorem d_mo_opens1_55 : decode (q_cc m_mo_opens1) 55 = .ok (.aload_n 0, 1) := by decide +kernel
theorem d_mo_opens1_56 : decode (q_cc m_mo_opens1) 56 = .ok (.invokevirtual 419, 3) := by decide +kernel
theorem d_mo_opens1_59 : decode (q_cc m_mo_opens1) 59 = .ok (.if_icmp .ge 20, 3) := by decide +kernel
theorem d_mo_opens1_62 : decode (q_cc m_mo_opens1) 62 = .ok (.aload_n 0, 1) := by decide +kernel
theorem d_mo_opens1_63 : decode (q_cc m_mo_opens1) 63 = .ok (.getfield 169, 3) := by decide +kernel
theorem d_mo_opens1_66 : decode (q_cc m_mo_opens1) 66 = .ok (.iload_n 2, 1) := by decide +kernel
theorem d_mo_opens1_67 : decode (q_cc m_mo_opens1) 67 = .ok (.aload_n 0, 1) := by decide +kernel
theorem d_mo_opens1_68 : decode (q_cc m_mo_opens1) 68 = .ok (.iload_n 2, 1) := by decide +kernel
theorem d_mo_opens1_69 : decode (q_cc m_mo_opens1) 69 = .ok (.invokevirtual 440, 3) := by decide +kernel
theorem d_mo_opens1_72 : decode (q_cc m_mo_opens1) 72 = .ok (.iastore, 1) := by decide +kernel
theorem d_mo_opens1_73 : decode (q_cc m_mo_opens1) 73 = .ok (.iinc 2 1, 3) := by decide +kernel
theorem d_mo_opens1_76 : decode (q_cc m_mo_opens1) 76 = .ok (.goto (-22), 3) := by decide +kernel
theorem d_mo_opens1_79 : decode (q_cc m_mo_opens1) 79 = .ok (.iconst 0, 1) := by decide +kernel
theorem d_mo_opens1_80 : decode (q_cc m_mo_opens1) 80 = .ok (.istore_n 2, 1) := by decide +kernel
theorem d_mo_opens1_81 : decode (q_cc m_mo_opens1) 81 = .ok (.iload_n 2, 1) := by decide +kernel
theorem d_mo_opens1_82 : decode (q_cc m_mo_opens1) 82 = .ok (.aload_n 0, 1) := by decide +kernel
theorem d_mo_opens1_83 : decode (q_cc m_mo_opens1) 83 = .ok (.invokevirtual 422, 3) := by decide +kernel
theorem d_mo_opens1_86 : decode (q_cc m_mo_opens1) 86 = .ok (.if_icmp .ge 18, 3) := by decide +kernel
theorem d_mo_opens1_89 : decode (q_cc m_mo_opens1) 89 = .ok (.aload_n 0, 1) := by decide +kernel
theorem d_mo_opens1_90 : decode (q_cc m_mo_opens1) 90 = .ok (.getfield 169, 3) := by decide +kernel
theorem d_mo_opens1_93 : decode (q_cc m_mo_opens1) 93 = .ok (.iconst 5, 1) := by decide +kernel
theorem d_mo_opens1_94 : decode (q_cc m_mo_opens1) 94 = .ok (.iload_n 2, 1) := by decide +kernel
theorem d_mo_opens1_95 : decode (q_cc m_mo_opens1) 95 = .ok (.iadd, 1) := by decide +kernel
theorem d_mo_opens1_96 : decode (q_cc m_mo_opens1) 96 = .ok (.iconst 0, 1) := by decide +kernel
theorem d_mo_opens1_97 : decode (q_cc m_mo_opens1) 97 = .ok (.iastore, 1) := by decide +kernel
theorem d_mo_opens1_98 : decode (q_cc m_mo_opens1) 98 = .ok (.iinc 2 1, 3) := by decide +kernel
theorem d_mo_opens1_101 : decode (q_cc m_mo_opens1) 101 = .ok (.goto (-20), 3) := by decide +kernel
theorem d_mo_opens1_104 : decode (q_cc m_mo_opens1) 104 = .ok (.return_, 1) := by decide +kernel
theorem d_mo_hasOf_0 : decode (q_cc m_mo_hasOf) 0 = .ok (.aload_n 0, 1) := by decide +kernel
theorem d_mo_hasOf_1 : decode (q_cc m_mo_hasOf) 1 = .ok (.getfield 166, 3) := by decide +kernel
theorem d_mo_hasOf_4 : decode (q_cc m_mo_hasOf) 4 = .ok (.iload_n 1, 1) := by decide +kernel
theorem d_mo_hasOf_5 : decode (q_cc m_mo_hasOf) 5 = .ok (.iaload, 1) := by decide +kernel
theorem d_mo_hasOf_6 : decode (q_cc m_mo_hasOf) 6 = .ok (.aload_n 0, 1) := by decide +kernel
theorem d_mo_hasOf_7 : decode (q_cc m_mo_hasOf) 7 = .ok (.invokevirtual 419, 3) := by decide +kernel
theorem d_mo_hasOf_10 : decode (q_cc m_mo_hasOf) 10 = .ok (.if_icmp .ge 12, 3) := by decide +kernel
theorem d_mo_hasOf_13 : decode (q_cc m_mo_hasOf) 13 = .ok (.aload_n 0, 1) := by decide +kernel
theorem d_mo_hasOf_14 : decode (q_cc m_mo_hasOf) 14 = .ok (.getfield 166, 3) := by decide +kernel
theorem d_mo_hasOf_17 : decode (q_cc m_mo_hasOf) 17 = .ok (.iload_n 1, 1) := by decide +kernel
theorem d_mo_hasOf_18 : decode (q_cc m_mo_hasOf) 18 = .ok (.iaload, 1) := by decide +kernel
theorem d_mo_hasOf_19 : decode (q_cc m_mo_hasOf) 19 = .ok (.goto 15, 3) := by decide +kernel
theorem d_mo_hasOf_22 : decode (q_cc m_mo_hasOf) 22 = .ok (.iconst 5, 1) := by decide +kernel
theorem d_mo_hasOf_23 : decode (q_cc m_mo_hasOf) 23 = .ok (.aload_n 0, 1) := by decide +kernel
theorem d_mo_hasOf_24 : decode (q_cc m_mo_hasOf) 24 = .ok (.aload_n 0, 1) := by decide +kernel
theorem d_mo_hasOf_25 : decode (q_cc m_mo_hasOf) 25 = .ok (.getfield 163, 3) := by decide +kernel
theorem d_mo_hasOf_28 : decode (q_cc m_mo_hasOf) 28 = .ok (.iload_n 1, 1) := by decide +kernel
theorem d_mo_hasOf_29 : decode (q_cc m_mo_hasOf) 29 = .ok (.iaload, 1) := by decide +kernel
theorem d_mo_hasOf_30 : decode (q_cc m_mo_hasOf) 30 = .ok (.invokevirtual 425, 3) := by decide +kernel
theorem d_mo_hasOf_33 : decode (q_cc m_mo_hasOf) 33 = .ok (.iadd, 1) := by decide +kernel
theorem d_mo_hasOf_34 : decode (q_cc m_mo_hasOf) 34 = .ok (.ireturn, 1) := by decide +kernel
theorem d_mo_canHave_0 : decode (q_cc m_mo_canHave) 0 = .ok (.aload_n 0, 1) := by decide +kernel
theorem d_mo_canHave_1 : decode (q_cc m_mo_canHave) 1 = .ok (.getfield 163, 3) := by decide +kernel
theorem d_mo_canHave_4 : decode (q_cc m_mo_canHave) 4 = .ok (.iload_n 1, 1) := by decide +kernel
theorem d_mo_canHave_5 : decode (q_cc m_mo_canHave) 5 = .ok (.iaload, 1) := by decide +kernel
theorem d_mo_canHave_6 : decode (q_cc m_mo_canHave) 6 = .ok (.istore_n 3, 1) := by decide +kernel
theorem d_mo_canHave_7 : decode (q_cc m_mo_canHave) 7 = .ok (.aload_n 0, 1) := by decide +kernel
theorem d_mo_canHave_8 : decode (q_cc m_mo_canHave) 8 = .ok (.getfield 166, 3) := by decide +kernel
theorem d_mo_canHave_11 : decode (q_cc m_mo_canHave) 11 = .ok (.iload_n 1, 1) := by decide +kernel
theorem d_mo_canHave_12 : decode (q_cc m_mo_canHave) 12 = .ok (.iaload, 1) := by decide +kernel
theorem d_mo_canHave_13 : decode (q_cc m_mo_canHave) 13 = .ok (.aload_n 0, 1) := by decide +kernel
theorem d_mo_canHave_14 : decode (q_cc m_mo_canHave) 14 = .ok (.invokevirtual 419, 3) := by decide +kernel
theorem d_mo_canHave_17 : decode (q_cc m_mo_canHave) 17 = .ok (.if_icmp .ge 25, 3) := by decide +kernel
theorem d_mo_canHave_20 : decode (q_cc m_mo_canHave) 20 = .ok (.aload_n 0, 1) := by decide +kernel
theorem d_mo_canHave_21 : decode (q_cc m_mo_canHave) 21 = .ok (.getfield 142, 3) := by decide +kernel
theorem d_mo_canHave_24 : decode (q_cc m_mo_canHave) 24 = .ok (.bipush 24, 2) := by decide +kernel
theorem d_mo_canHave_26 : decode (q_cc m_mo_canHave) 26 = .ok (.aload_n 0, 1) := by decide +kernel
theorem d_mo_canHave_27 : decode (q_cc m_mo_canHave) 27 = .ok (.getfield 166, 3) := by decide +kernel
theorem d_mo_canHave_30 : decode (q_cc m_mo_canHave) 30 = .ok (.iload_n 1, 1) := by decide +kernel
theorem d_mo_canHave_31 : decode (q_cc m_mo_canHave) 31 = .ok (.iaload, 1) := by decide +kernel
theorem d_mo_canHave_32 : decode (q_cc m_mo_canHave) 32 = .ok (.imul, 1) := by decide +kernel
theorem d_mo_canHave_33 : decode (q_cc m_mo_canHave) 33 = .ok (.iload_n 3, 1) := by decide +kernel
theorem d_mo_canHave_34 : decode (q_cc m_mo_canHave) 34 = .ok (.iadd, 1) := by decide +kernel
theorem d_mo_canHave_35 : decode (q_cc m_mo_canHave) 35 = .ok (.iaload, 1) := by decide +kernel
theorem d_mo_canHave_36 : decode (q_cc m_mo_canHave) 36 = .ok (.iload_n 2, 1) := by decide +kernel
theorem d_mo_canHave_37 : decode (q_cc m_mo_canHave) 37 = .ok (.if_icmp .ge 5, 3) := by decide +kernel
theorem d_mo_canHave_40 : decode (q_cc m_mo_canHave) 40 = .ok (.iconst 0, 1) := by decide +kernel
theorem d_mo_canHave_41 : decode (q_cc m_mo_canHave) 41 = .ok (.ireturn, 1) := by decide +kernel
theorem d_mo_canHave_42 : decode (q_cc m_mo_canHave) 42 = .ok (.aload_n 0, 1) := by decide +kernel
theorem d_mo_canHave_43 : decode (q_cc m_mo_canHave) 43 = .ok (.getfield 169, 3) := by decide +kernel
theorem d_mo_canHave_46 : decode (q_cc m_mo_canHave) 46 = .ok (.aload_n 0, 1) := by decide +kernel
theorem d_mo_canHave_47 : decode (q_cc m_mo_canHave) 47 = .ok (.iload_n 1, 1) := by decide +kernel
theorem d_mo_canHave_48 : decode (q_cc m_mo_canHave) 48 = .ok (.invokevirtual 494, 3) := by decide +kernel
theorem d_mo_canHave_51 : decode (q_cc m_mo_canHave) 51 = .ok (.iaload, 1) := by decide +kernel
theorem d_mo_canHave_52 : decode (q_cc m_mo_canHave) 52 = .ok (.aload_n 0, 1) := by decide +kernel
theorem d_mo_canHave_53 : decode (q_cc m_mo_canHave) 53 = .ok (.getfield 151, 3) := by decide +kernel
theorem d_mo_canHave_56 : decode (q_cc m_mo_canHave) 56 = .ok (.iload_n 3, 1) := by decide +kernel
theorem d_mo_canHave_57 : decode (q_cc m_mo_canHave) 57 = .ok (.iaload, 1) := by decide +kernel
theorem d_mo_canHave_58 : decode (q_cc m_mo_canHave) 58 = .ok (.iconst (-1), 1) := by decide +kernel
theorem d_mo_canHave_59 : decode (q_cc m_mo_canHave) 59 = .ok (.ixor, 1) := by decide +kernel
theorem d_mo_canHave_60 : decode (q_cc m_mo_canHave) 60 = .ok (.iand, 1) := by decide +kernel
theorem d_mo_canHave_61 : decode (q_cc m_mo_canHave) 61 = .ok (.ifCond .ne 7, 3) := by decide +kernel
theorem d_mo_canHave_64 : decode (q_cc m_mo_canHave) 64 = .ok (.iconst 1, 1) := by decide +kernel
theorem d_mo_canHave_65 : decode (q_cc m_mo_canHave) 65 = .ok (.goto 4, 3) := by decide +kernel
theorem d_mo_canHave_68 : decode (q_cc m_mo_canHave) 68 = .ok (.iconst 0, 1) := by decide +kernel
theorem d_mo_canHave_69 : decode (q_cc m_mo_canHave) 69 = .ok (.ireturn, 1) := by decide +kernel
theorem d_mo_isNext_0 : decode (q_cc m_mo_isNext) 0 = .ok (.aload_n 0, 1) := by decide +kernel
theorem d_mo_isNext_1 : decode (q_cc m_mo_isNext) 1 = .ok (.getfield 166, 3) := by decide +kernel
theorem d_mo_isNext_4 : decode (q_cc m_mo_isNext) 4 = .ok (.iload_n 1, 1) := by decide +kernel
theorem d_mo_isNext_5 : decode (q_cc m_mo_isNext) 5 = .ok (.dup2, 1) := by decide +kernel
theorem d_mo_isNext_6 : decode (q_cc m_mo_isNext) 6 = .ok (.iaload, 1) := by decide +kernel
theorem d_mo_isNext_7 : decode (q_cc m_mo_isNext) 7 = .ok (.iconst 1, 1) := by decide +kernel
theorem d_mo_isNext_8 : decode (q_cc m_mo_isNext) 8 = .ok (.iadd, 1) := by decide +kernel
theorem d_mo_isNext_9 : decode (q_cc m_mo_isNext) 9 = .ok (.iastore, 1) := by decide +kernel
theorem d_mo_isNext_10 : decode (q_cc m_mo_isNext) 10 = .ok (.aload_n 0, 1) := by decide +kernel
theorem d_mo_isNext_11 : decode (q_cc m_mo_isNext) 11 = .ok (.getfield 166, 3) := by decide +kernel
theorem d_mo_isNext_14 : decode (q_cc m_mo_isNext) 14 = .ok (.iload_n 1, 1) := by decide +kernel
theorem d_mo_isNext_15 : decode (q_cc m_mo_isNext) 15 = .ok (.iaload, 1) := by decide +kernel
theorem d_mo_isNext_16 : decode (q_cc m_mo_isNext) 16 = .ok (.iload_n 2, 1) := by decide +kernel
theorem d_mo_isNext_17 : decode (q_cc m_mo_isNext) 17 = .ok (.if_icmp .ge 25, 3) := by decide +kernel
theorem d_mo_isNext_20 : decode (q_cc m_mo_isNext) 20 = .ok (.aload_n 0, 1) := by decide +kernel
theorem d_mo_isNext_21 : decode (q_cc m_mo_isNext) 21 = .ok (.iload_n 1, 1) := by decide +kernel
theorem d_mo_isNext_22 : decode (q_cc m_mo_isNext) 22 = .ok (.iload_n 3, 1) := by decide +kernel
theorem d_mo_isNext_23 : decode (q_cc m_mo_isNext) 23 = .ok (.invokevirtual 497, 3) := by decide +kernel
theorem d_mo_isNext_26 : decode (q_cc m_mo_isNext) 26 = .ok (.ifCond .ne 16, 3) := by decide +kernel
theorem d_mo_isNext_29 : decode (q_cc m_mo_isNext) 29 = .ok (.aload_n 0, 1) := by decide +kernel
theorem d_mo_isNext_30 : decode (q_cc m_mo_isNext) 30 = .ok (.getfield 166, 3) := by decide +kernel
theorem d_mo_isNext_33 : decode (q_cc m_mo_isNext) 33 = .ok (.iload_n 1, 1) := by decide +kernel
theorem d_mo_isNext_34 : decode (q_cc m_mo_isNext) 34 = .ok (.dup2, 1) := by decide +kernel
theorem d_mo_isNext_35 : decode (q_cc m_mo_isNext) 35 = .ok (.iaload, 1) := by decide +kernel
theorem d_mo_isNext_36 : decode (q_cc m_mo_isNext) 36 = .ok (.iconst 1, 1) := by decide +kernel
theorem d_mo_isNext_37 : decode (q_cc m_mo_isNext) 37 = .ok (.iadd, 1) := by decide +kernel
theorem d_mo_isNext_38 : decode (q_cc m_mo_isNext) 38 = .ok (.iastore, 1) := by decide +kernel
theorem d_mo_isNext_39 : decode (q_cc m_mo_isNext) 39 = .ok (.goto (-29), 3) := by decide +kernel
theorem d_mo_isNext_42 : decode (q_cc m_mo_isNext) 42 = .ok (.aload_n 0, 1) := by decide +kernel
theorem d_mo_isNext_43 : decode (q_cc m_mo_isNext) 43 = .ok (.getfield 166, 3) := by decide +kernel
theorem d_mo_isNext_46 : decode (q_cc m_mo_isNext) 46 = .ok (.iload_n 1, 1) := by decide +kernel
theorem d_mo_isNext_47 : decode (q_cc m_mo_isNext) 47 = .ok (.iaload, 1) := by decide +kernel
theorem d_mo_isNext_48 : decode (q_cc m_mo_isNext) 48 = .ok (.iload_n 2, 1) := by decide +kernel
theorem d_mo_isNext_49 : decode (q_cc m_mo_isNext) 49 = .ok (.if_icmp .ge 7, 3) := by decide +kernel
theorem d_mo_isNext_52 : decode (q_cc m_mo_isNext) 52 = .ok (.iconst 1, 1) := by decide +kernel
theorem d_mo_isNext_53 : decode (q_cc m_mo_isNext) 53 = .ok (.goto 4, 3) := by decide +kernel
theorem d_mo_isNext_56 : decode (q_cc m_mo_isNext) 56 = .ok (.iconst 0, 1) := by decide +kernel
theorem d_mo_isNext_57 : decode (q_cc m_mo_isNext) 57 = .ok (.ireturn, 1) := by decide +kernel
theorem d_mo_ways_0 : decode (q_cc m_mo_ways) 0 = .ok (.iload_n 1, 1) := by decide +kernel
theorem d_mo_ways_1 : decode (q_cc m_mo_ways) 1 = .ok (.ifCond .ge 5, 3) := by decide +kernel
theorem d_mo_ways_4 : decode (q_cc m_mo_ways) 4 = .ok (.iconst (-1), 1) := by decide +kernel
theorem d_mo_ways_5 : decode (q_cc m_mo_ways) 5 = .ok (.ireturn, 1) := by decide +kernel
theorem d_mo_ways_6 : decode (q_cc m_mo_ways) 6 = .ok (.aload_n 0, 1) := by decide +kernel
theorem d_mo_ways_7 : decode (q_cc m_mo_ways) 7 = .ok (.iconst (-1), 1) := by decide +kernel
theorem d_mo_ways_8 : decode (q_cc m_mo_ways) 8 = .ok (.invokevirtual 440, 3) := by decide +kernel
theorem d_mo_ways_11 : decode (q_cc m_mo_ways) 11 = .ok (.istore_n 2, 1) := by decide +kernel
theorem d_mo_ways_12 : decode (q_cc m_mo_ways) 12 = .ok (.iload_n 2, 1) := by decide +kernel
theorem d_mo_ways_13 : decode (q_cc m_mo_ways) 13 = .ok (.invokestatic 443, 3) := by decide +kernel
theorem d_mo_ways_16 : decode (q_cc m_mo_ways) 16 = .ok (.bipush 8, 2) := by decide +kernel
theorem d_mo_ways_18 : decode (q_cc m_mo_ways) 18 = .ok (.if_icmp .le 5, 3) := by decide +kernel
theorem d_mo_ways_21 : decode (q_cc m_mo_ways) 21 = .ok (.iconst (-1), 1) := by decide +kernel
theorem d_mo_ways_22 : decode (q_cc m_mo_ways) 22 = .ok (.ireturn, 1) := by decide +kernel
theorem d_mo_ways_23 : decode (q_cc m_mo_ways) 23 = .ok (.aload_n 0, 1) := by decide +kernel
theorem d_mo_ways_24 : decode (q_cc m_mo_ways) 24 = .ok (.iload_n 2, 1) := by decide +kernel
theorem d_mo_ways_25 : decode (q_cc m_mo_ways) 25 = .ok (.invokevirtual 501, 3) := by decide +kernel
theorem d_mo_ways_28 : decode (q_cc m_mo_ways) 28 = .ok (.aload_n 0, 1) := by decide +kernel
theorem d_mo_ways_29 : decode (q_cc m_mo_ways) 29 = .ok (.getfield 491, 3) := by decide +kernel
theorem d_mo_ways_32 : decode (q_cc m_mo_ways) 32 = .ok (.ifCond .ne 5, 3) := by decide +kernel
theorem d_mo_ways_35 : decode (q_cc m_mo_ways) 35 = .ok (.iconst 1, 1) := by decide +kernel
theorem d_mo_ways_36 : decode (q_cc m_mo_ways) 36 = .ok (.ireturn, 1) := by decide +kernel
theorem d_mo_ways_37 : decode (q_cc m_mo_ways) 37 = .ok (.iconst 0, 1) := by decide +kernel
theorem d_mo_ways_38 : decode (q_cc m_mo_ways) 38 = .ok (.istore_n 3, 1) := by decide +kernel
theorem d_mo_ways_39 : decode (q_cc m_mo_ways) 39 = .ok (.iconst 0, 1) := by decide +kernel
theorem d_mo_ways_40 : decode (q_cc m_mo_ways) 40 = .ok (.istore 4, 2) := by decide +kernel
theorem d_mo_ways_42 : decode (q_cc m_mo_ways) 42 = .ok (.aload_n 0, 1) := by decide +kernel
theorem d_mo_ways_43 : decode (q_cc m_mo_ways) 43 = .ok (.getfield 166, 3) := by decide +kernel
theorem d_mo_ways_46 : decode (q_cc m_mo_ways) 46 = .ok (.iconst 0, 1) := by decide +kernel
theorem d_mo_ways_47 : decode (q_cc m_mo_ways) 47 = .ok (.iconst (-1), 1) := by decide +kernel
theorem d_mo_ways_48 : decode (q_cc m_mo_ways) 48 = .ok (.iastore, 1) := by decide +kernel
theorem d_mo_ways_49 : decode (q_cc m_mo_ways) 49 = .ok (.iload 4, 2) := by decide +kernel
theorem d_mo_ways_51 : decode (q_cc m_mo_ways) 51 = .ok (.ifCond .lt 114, 3) := by decide +kernel
theorem d_mo_ways_54 : decode (q_cc m_mo_ways) 54 = .ok (.aload_n 0, 1) := by decide +kernel
theorem d_mo_ways_55 : decode (q_cc m_mo_ways) 55 = .ok (.getfield 166, 3) := by decide +kernel
theorem d_mo_ways_58 : decode (q_cc m_mo_ways) 58 = .ok (.iload 4, 2) := by decide +kernel
theorem d_mo_ways_60 : decode (q_cc m_mo_ways) 60 = .ok (.iaload, 1) := by decide +kernel
theorem d_mo_ways_61 : decode (q_cc m_mo_ways) 61 = .ok (.ifCond .lt 28, 3) := by decide +kernel
theorem d_mo_ways_64 : decode (q_cc m_mo_ways) 64 = .ok (.aload_n 0, 1) := by decide +kernel
theorem d_mo_ways_65 : decode (q_cc m_mo_ways) 65 = .ok (.getfield 169, 3) := by decide +kernel
theorem d_mo_ways_68 : decode (q_cc m_mo_ways) 68 = .ok (.aload_n 0, 1) := by decide +kernel
theorem d_mo_ways_69 : decode (q_cc m_mo_ways) 69 = .ok (.iload 4, 2) := by decide +kernel
theorem d_mo_ways_71 : decode (q_cc m_mo_ways) 71 = .ok (.invokevirtual 494, 3) := by decide +kernel
theorem d_mo_ways_74 : decode (q_cc m_mo_ways) 74 = .ok (.dup2, 1) := by decide +kernel
theorem d_mo_ways_75 : decode (q_cc m_mo_ways) 75 = .ok (.iaload, 1) := by decide +kernel
theorem d_mo_ways_76 : decode (q_cc m_mo_ways) 76 = .ok (.iconst 1, 1) := by decide +kernel
theorem d_mo_ways_77 : decode (q_cc m_mo_ways) 77 = .ok (.aload_n 0, 1) := by decide +kernel
theorem d_mo_ways_78 : decode (q_cc m_mo_ways) 78 = .ok (.getfield 163, 3) := by decide +kernel
theorem d_mo_ways_81 : decode (q_cc m_mo_ways) 81 = .ok (.iload 4, 2) := by decide +kernel
theorem d_mo_ways_83 : decode (q_cc m_mo_ways) 83 = .ok (.iaload, 1) := by decide +kernel
theorem d_mo_ways_84 : decode (q_cc m_mo_ways) 84 = .ok (.ishl, 1) := by decide +kernel
theorem d_mo_ways_85 : decode (q_cc m_mo_ways) 85 = .ok (.iconst (-1), 1) := by decide +kernel
theorem d_mo_ways_86 : decode (q_cc m_mo_ways) 86 = .ok (.ixor, 1) := by decide +kernel
theorem d_mo_ways_87 : decode (q_cc m_mo_ways) 87 = .ok (.iand, 1) := by decide +kernel
theorem d_mo_ways_88 : decode (q_cc m_mo_ways) 88 = .ok (.iastore, 1) := by decide +kernel
theorem d_mo_ways_89 : decode (q_cc m_mo_ways) 89 = .ok (.aload_n 0, 1) := by decide +kernel
theorem d_mo_ways_90 : decode (q_cc m_mo_ways) 90 = .ok (.iload 4, 2) := by decide +kernel
theorem d_mo_ways_92 : decode (q_cc m_mo_ways) 92 = .ok (.aload_n 0, 1) := by decide +kernel
theorem d_mo_ways_93 : decode (q_cc m_mo_ways) 93 = .ok (.invokevirtual 419, 3) := by decide +kernel
theorem d_mo_ways_96 : decode (q_cc m_mo_ways) 96 = .ok (.iconst 1, 1) := by decide +kernel
theorem d_mo_ways_97 : decode (q_cc m_mo_ways) 97 = .ok (.iadd, 1) := by decide +kernel
theorem d_mo_ways_98 : decode (q_cc m_mo_ways) 98 = .ok (.iload_n 1, 1) := by decide +kernel
theorem d_mo_ways_99 : decode (q_cc m_mo_ways) 99 = .ok (.invokevirtual 503, 3) := by decide +kernel
theorem d_mo_ways_102 : decode (q_cc m_mo_ways) 102 = .ok (.ifCond .ne 9, 3) := by decide +kernel
theorem d_mo_ways_105 : decode (q_cc m_mo_ways) 105 = .ok (.iinc 4 (-1), 3) := by decide +kernel
theorem d_mo_ways_108 : decode (q_cc m_mo_ways) 108 = .ok (.goto (-59), 3) := by decide +kernel
theorem d_mo_ways_111 : decode (q_cc m_mo_ways) 111 = .ok (.aload_n 0, 1) := by decide +kernel
theorem d_mo_ways_112 : decode (q_cc m_mo_ways) 112 = .ok (.getfield 169, 3) := by decide +kernel
theorem d_mo_ways_115 : decode (q_cc m_mo_ways) 115 = .ok (.aload_n 0, 1) := by decide +kernel
theorem d_mo_ways_116 : decode (q_cc m_mo_ways) 116 = .ok (.iload 4, 2) := by decide +kernel
theorem d_mo_ways_118 : decode (q_cc m_mo_ways) 118 = .ok (.invokevirtual 494, 3) := by decide +kernel
theorem d_mo_ways_121 : decode (q_cc m_mo_ways) 121 = .ok (.dup2, 1) := by decide +kernel
theorem d_mo_ways_122 : decode (q_cc m_mo_ways) 122 = .ok (.iaload, 1) := by decide +kernel
theorem d_mo_ways_123 : decode (q_cc m_mo_ways) 123 = .ok (.iconst 1, 1) := by decide +kernel
theorem d_mo_ways_124 : decode (q_cc m_mo_ways) 124 = .ok (.aload_n 0, 1) := by decide +kernel
theorem d_mo_ways_125 : decode (q_cc m_mo_ways) 125 = .ok (.getfield 163, 3) := by decide +kernel
theorem d_mo_ways_128 : decode (q_cc m_mo_ways) 128 = .ok (.iload 4, 2) := by decide +kernel
theorem d_mo_ways_130 : decode (q_cc m_mo_ways) 130 = .ok (.iaload, 1) := by decide +kernel
theorem d_mo_ways_131 : decode (q_cc m_mo_ways) 131 = .ok (.ishl, 1) := by decide +kernel
theorem d_mo_ways_132 : decode (q_cc m_mo_ways) 132 = .ok (.ior, 1) := by decide +kernel
theorem d_mo_ways_133 : decode (q_cc m_mo_ways) 133 = .ok (.iastore, 1) := by decide +kernel
theorem d_mo_ways_134 : decode (q_cc m_mo_ways) 134 = .ok (.iload 4, 2) := by decide +kernel
theorem d_mo_ways_136 : decode (q_cc m_mo_ways) 136 = .ok (.aload_n 0, 1) := by decide +kernel
theorem d_mo_ways_137 : decode (q_cc m_mo_ways) 137 = .ok (.getfield 491, 3) := by decide +kernel
theorem d_mo_ways_140 : decode (q_cc m_mo_ways) 140 = .ok (.iconst 1, 1) := by decide +kernel
theorem d_mo_ways_141 : decode (q_cc m_mo_ways) 141 = .ok (.isub, 1) := by decide +kernel
theorem d_mo_ways_142 : decode (q_cc m_mo_ways) 142 = .ok (.if_icmp .ne 9, 3) := by decide +kernel
theorem d_mo_ways_145 : decode (q_cc m_mo_ways) 145 = .ok (.iinc 3 1, 3) := by decide +kernel
theorem d_mo_ways_148 : decode (q_cc m_mo_ways) 148 = .ok (.goto (-99), 3) := by decide +kernel
theorem d_mo_ways_151 : decode (q_cc m_mo_ways) 151 = .ok (.iinc 4 1, 3) := by decide +kernel
theorem d_mo_ways_154 : decode (q_cc m_mo_ways) 154 = .ok (.aload_n 0, 1) := by decide +kernel
theorem d_mo_ways_155 : decode (q_cc m_mo_ways) 155 = .ok (.getfield 166, 3) := by decide +kernel
theorem d_mo_ways_158 : decode (q_cc m_mo_ways) 158 = .ok (.iload 4, 2) := by decide +kernel
theorem d_mo_ways_160 : decode (q_cc m_mo_ways) 160 = .ok (.iconst (-1), 1) := by decide +kernel
theorem d_mo_ways_161 : decode (q_cc m_mo_ways) 161 = .ok (.iastore, 1) := by decide +kernel
theorem d_mo_ways_162 : decode (q_cc m_mo_ways) 162 = .ok (.goto (-113), 3) := by decide +kernel
theorem d_mo_ways_165 : decode (q_cc m_mo_ways) 165 = .ok (.iload_n 3, 1) := by decide +kernel
theorem d_mo_ways_166 : decode (q_cc m_mo_ways) 166 = .ok (.ireturn, 1) := by decide +kernel
theorem d_mo_hire_0 : decode (q_cc m_mo_hire) 0 = .ok (.aload_n 0, 1) := by decide +kernel
theorem d_mo_hire_1 : decode (q_cc m_mo_hire) 1 = .ok (.iload_n 1, 1) := by decide +kernel
theorem d_mo_hire_2 : decode (q_cc m_mo_hire) 2 = .ok (.invokevirtual 456, 3) := by decide +kernel
theorem d_mo_hire_5 : decode (q_cc m_mo_hire) 5 = .ok (.ifCond .eq 26, 3) := by decide +kernel
theorem d_mo_hire_8 : decode (q_cc m_mo_hire) 8 = .ok (.iload_n 2, 1) := by decide +kernel
theorem d_mo_hire_9 : decode (q_cc m_mo_hire) 9 = .ok (.iconst (-1), 1) := by decide +kernel
theorem d_mo_hire_10 : decode (q_cc m_mo_hire) 10 = .ok (.if_icmp .eq 11, 3) := by decide +kernel
theorem d_mo_hire_13 : decode (q_cc m_mo_hire) 13 = .ok (.aload_n 0, 1) := by decide +kernel
theorem d_mo_hire_14 : decode (q_cc m_mo_hire) 14 = .ok (.iload_n 2, 1) := by decide +kernel
theorem d_mo_hire_15 : decode (q_cc m_mo_hire) 15 = .ok (.invokevirtual 453, 3) := by decide +kernel
theorem d_mo_hire_18 : decode (q_cc m_mo_hire) 18 = .ok (.ifCond .eq 13, 3) := by decide +kernel
theorem d_mo_hire_21 : decode (q_cc m_mo_hire) 21 = .ok (.aload_n 0, 1) := by decide +kernel
theorem d_mo_hire_22 : decode (q_cc m_mo_hire) 22 = .ok (.getfield 148, 3) := by decide +kernel
theorem d_mo_hire_25 : decode (q_cc m_mo_hire) 25 = .ok (.iload_n 1, 1) := by decide +kernel
theorem d_mo_hire_26 : decode (q_cc m_mo_hire) 26 = .ok (.iaload, 1) := by decide +kernel
theorem d_mo_hire_27 : decode (q_cc m_mo_hire) 27 = .ok (.iload_n 2, 1) := by decide +kernel
theorem d_mo_hire_28 : decode (q_cc m_mo_hire) 28 = .ok (.if_icmp .ne 5, 3) := by decide +kernel
theorem d_mo_hire_31 : decode (q_cc m_mo_hire) 31 = .ok (.iconst 0, 1) := by decide +kernel
theorem d_mo_hire_32 : decode (q_cc m_mo_hire) 32 = .ok (.ireturn, 1) := by decide +kernel
theorem d_mo_hire_33 : decode (q_cc m_mo_hire) 33 = .ok (.iload_n 2, 1) := by decide +kernel
theorem d_mo_hire_34 : decode (q_cc m_mo_hire) 34 = .ok (.iconst (-1), 1) := by decide +kernel
theorem d_mo_hire_35 : decode (q_cc m_mo_hire) 35 = .ok (.if_icmp .eq 21, 3) := by decide +kernel
theorem d_mo_hire_38 : decode (q_cc m_mo_hire) 38 = .ok (.aload_n 0, 1) := by decide +kernel
theorem d_mo_hire_39 : decode (q_cc m_mo_hire) 39 = .ok (.aload_n 0, 1) := by decide +kernel
theorem d_mo_hire_40 : decode (q_cc m_mo_hire) 40 = .ok (.iload_n 2, 1) := by decide +kernel
theorem d_mo_hire_41 : decode (q_cc m_mo_hire) 41 = .ok (.invokevirtual 440, 3) := by decide +kernel
theorem d_mo_hire_44 : decode (q_cc m_mo_hire) 44 = .ok (.iconst 1, 1) := by decide +kernel
theorem d_mo_hire_45 : decode (q_cc m_mo_hire) 45 = .ok (.iload_n 1, 1) := by decide +kernel
theorem d_mo_hire_46 : decode (q_cc m_mo_hire) 46 = .ok (.ishl, 1) := by decide +kernel
theorem d_mo_hire_47 : decode (q_cc m_mo_hire) 47 = .ok (.ior, 1) := by decide +kernel
theorem d_mo_hire_48 : decode (q_cc m_mo_hire) 48 = .ok (.invokevirtual 465, 3) := by decide +kernel
theorem d_mo_hire_51 : decode (q_cc m_mo_hire) 51 = .ok (.ifCond .ne 5, 3) := by decide +kernel
theorem d_mo_hire_54 : decode (q_cc m_mo_hire) 54 = .ok (.iconst 0, 1) := by decide +kernel
theorem d_mo_hire_55 : decode (q_cc m_mo_hire) 55 = .ok (.ireturn, 1) := by decide +kernel
theorem d_mo_hire_56 : decode (q_cc m_mo_hire) 56 = .ok (.aload_n 0, 1) := by decide +kernel
theorem d_mo_hire_57 : decode (q_cc m_mo_hire) 57 = .ok (.invokevirtual 506, 3) := by decide +kernel
theorem d_mo_hire_60 : decode (q_cc m_mo_hire) 60 = .ok (.aload_n 0, 1) := by decide +kernel
theorem d_mo_hire_61 : decode (q_cc m_mo_hire) 61 = .ok (.getfield 148, 3) := by decide +kernel
theorem d_mo_hire_64 : decode (q_cc m_mo_hire) 64 = .ok (.iload_n 1, 1) := by decide +kernel
theorem d_mo_hire_65 : decode (q_cc m_mo_hire) 65 = .ok (.iload_n 2, 1) := by decide +kernel
theorem d_mo_hire_66 : decode (q_cc m_mo_hire) 66 = .ok (.iastore, 1) := by decide +kernel
theorem d_mo_hire_67 : decode (q_cc m_mo_hire) 67 = .ok (.iconst 1, 1) := by decide +kernel
theorem d_mo_hire_68 : decode (q_cc m_mo_hire) 68 = .ok (.ireturn, 1) := by decide +kernel
theorem d_mo_undo_0 : decode (q_cc m_mo_undo) 0 = .ok (.aload_n 0, 1) := by decide +kernel
theorem d_mo_undo_1 : decode (q_cc m_mo_undo) 1 = .ok (.getfield 341, 3) := by decide +kernel
theorem d_mo_undo_4 : decode (q_cc m_mo_undo) 4 = .ok (.ifCond .ne 5, 3) := by decide +kernel
theorem d_mo_undo_7 : decode (q_cc m_mo_undo) 7 = .ok (.iconst 0, 1) := by decide +kernel
theorem d_mo_undo_8 : decode (q_cc m_mo_undo) 8 = .ok (.ireturn, 1) := by decide +kernel
theorem d_mo_undo_9 : decode (q_cc m_mo_undo) 9 = .ok (.iconst 0, 1) := by decide +kernel
theorem d_mo_undo_10 : decode (q_cc m_mo_undo) 10 = .ok (.istore_n 1, 1) := by decide +kernel
theorem d_mo_undo_11 : decode (q_cc m_mo_undo) 11 = .ok (.iload_n 1, 1) := by decide +kernel
theorem d_mo_undo_12 : decode (q_cc m_mo_undo) 12 = .ok (.bipush 24, 2) := by decide +kernel
theorem d_mo_undo_14 : decode (q_cc m_mo_undo) 14 = .ok (.if_icmp .ge 29, 3) := by decide +kernel
theorem d_mo_undo_17 : decode (q_cc m_mo_undo) 17 = .ok (.aload_n 0, 1) := by decide +kernel
theorem d_mo_undo_18 : decode (q_cc m_mo_undo) 18 = .ok (.getfield 148, 3) := by decide +kernel
theorem d_mo_undo_21 : decode (q_cc m_mo_undo) 21 = .ok (.iload_n 1, 1) := by decide +kernel
theorem d_mo_undo_22 : decode (q_cc m_mo_undo) 22 = .ok (.aload_n 0, 1) := by decide +kernel
theorem d_mo_undo_23 : decode (q_cc m_mo_undo) 23 = .ok (.getfield 154, 3) := by decide +kernel
theorem d_mo_undo_26 : decode (q_cc m_mo_undo) 26 = .ok (.bipush 24, 2) := by decide +kernel
theorem d_mo_undo_28 : decode (q_cc m_mo_undo) 28 = .ok (.aload_n 0, 1) := by decide +kernel
theorem d_mo_undo_29 : decode (q_cc m_mo_undo) 29 = .ok (.getfield 437, 3) := by decide +kernel
theorem d_mo_undo_32 : decode (q_cc m_mo_undo) 32 = .ok (.imul, 1) := by decide +kernel
theorem d_mo_undo_33 : decode (q_cc m_mo_undo) 33 = .ok (.iload_n 1, 1) := by decide +kernel
theorem d_mo_undo_34 : decode (q_cc m_mo_undo) 34 = .ok (.iadd, 1) := by decide +kernel
theorem d_mo_undo_35 : decode (q_cc m_mo_undo) 35 = .ok (.iaload, 1) := by decide +kernel
theorem d_mo_undo_36 : decode (q_cc m_mo_undo) 36 = .ok (.iastore, 1) := by decide +kernel
theorem d_mo_undo_37 : decode (q_cc m_mo_undo) 37 = .ok (.iinc 1 1, 3) := by decide +kernel
theorem d_mo_undo_40 : decode (q_cc m_mo_undo) 40 = .ok (.goto (-29), 3) := by decide +kernel
theorem d_mo_undo_43 : decode (q_cc m_mo_undo) 43 = .ok (.aload_n 0, 1) := by decide +kernel
theorem d_mo_undo_44 : decode (q_cc m_mo_undo) 44 = .ok (.aload_n 0, 1) := by decide +kernel
theorem d_mo_undo_45 : decode (q_cc m_mo_undo) 45 = .ok (.getfield 437, 3) := by decide +kernel
theorem d_mo_undo_48 : decode (q_cc m_mo_undo) 48 = .ok (.bipush 30, 2) := by decide +kernel
theorem d_mo_undo_50 : decode (q_cc m_mo_undo) 50 = .ok (.iadd, 1) := by decide +kernel
theorem d_mo_undo_51 : decode (q_cc m_mo_undo) 51 = .ok (.iconst 1, 1) := by decide +kernel
theorem d_mo_undo_52 : decode (q_cc m_mo_undo) 52 = .ok (.isub, 1) := by decide +kernel
theorem d_mo_undo_53 : decode (q_cc m_mo_undo) 53 = .ok (.bipush 30, 2) := by decide +kernel
theorem d_mo_undo_55 : decode (q_cc m_mo_undo) 55 = .ok (.irem, 1) := by decide +kernel
theorem d_mo_undo_56 : decode (q_cc m_mo_undo) 56 = .ok (.putfield 437, 3) := by decide +kernel
theorem d_mo_undo_59 : decode (q_cc m_mo_undo) 59 = .ok (.aload_n 0, 1) := by decide +kernel
theorem d_mo_undo_60 : decode (q_cc m_mo_undo) 60 = .ok (.dup, 1) := by decide +kernel
theorem d_mo_undo_61 : decode (q_cc m_mo_undo) 61 = .ok (.getfield 341, 3) := by decide +kernel
theorem d_mo_undo_64 : decode (q_cc m_mo_undo) 64 = .ok (.iconst 1, 1) := by decide +kernel
theorem d_mo_undo_65 : decode (q_cc m_mo_undo) 65 = .ok (.isub, 1) := by decide +kernel
theorem d_mo_undo_66 : decode (q_cc m_mo_undo) 66 = .ok (.putfield 341, 3) := by decide +kernel
theorem d_mo_undo_69 : decode (q_cc m_mo_undo) 69 = .ok (.iconst 1, 1) := by decide +kernel
theorem d_mo_undo_70 : decode (q_cc m_mo_undo) 70 = .ok (.ireturn, 1) := by decide +kernel
theorem d_mo_crewOf_0 : decode (q_cc m_mo_crewOf) 0 = .ok (.iconst (-1), 1) := by decide +kernel
theorem d_mo_crewOf_1 : decode (q_cc m_mo_crewOf) 1 = .ok (.istore_n 2, 1) := by decide +kernel
theorem d_mo_crewOf_2 : decode (q_cc m_mo_crewOf) 2 = .ok (.iconst 0, 1) := by decide +kernel
theorem d_mo_crewOf_3 : decode (q_cc m_mo_crewOf) 3 = .ok (.istore_n 3, 1) := by decide +kernel
theorem d_mo_crewOf_4 : decode (q_cc m_mo_crewOf) 4 = .ok (.aload_n 0, 1) := by decide +kernel
theorem d_mo_crewOf_5 : decode (q_cc m_mo_crewOf) 5 = .ok (.getfield 166, 3) := by decide +kernel
theorem d_mo_crewOf_8 : decode (q_cc m_mo_crewOf) 8 = .ok (.iconst 0, 1) := by decide +kernel
theorem d_mo_crewOf_9 : decode (q_cc m_mo_crewOf) 9 = .ok (.iconst (-1), 1) := by decide +kernel
theorem d_mo_crewOf_10 : decode (q_cc m_mo_crewOf) 10 = .ok (.iastore, 1) := by decide +kernel
theorem d_mo_crewOf_11 : decode (q_cc m_mo_crewOf) 11 = .ok (.iload_n 3, 1) := by decide +kernel
theorem d_mo_crewOf_12 : decode (q_cc m_mo_crewOf) 12 = .ok (.ifCond .lt 199, 3) := by decide +kernel
theorem d_mo_crewOf_15 : decode (q_cc m_mo_crewOf) 15 = .ok (.aload_n 0, 1) := by decide +kernel
theorem d_mo_crewOf_16 : decode (q_cc m_mo_crewOf) 16 = .ok (.getfield 166, 3) := by decide +kernel
theorem d_mo_crewOf_19 : decode (q_cc m_mo_crewOf) 19 = .ok (.iload_n 3, 1) := by decide +kernel
theorem d_mo_crewOf_20 : decode (q_cc m_mo_crewOf) 20 = .ok (.iaload, 1) := by decide +kernel
theorem d_mo_crewOf_21 : decode (q_cc m_mo_crewOf) 21 = .ok (.ifCond .lt 26, 3) := by decide +kernel
theorem d_mo_crewOf_24 : decode (q_cc m_mo_crewOf) 24 = .ok (.aload_n 0, 1) := by decide +kernel
theorem d_mo_crewOf_25 : decode (q_cc m_mo_crewOf) 25 = .ok (.getfield 169, 3) := by decide +kernel
theorem d_mo_crewOf_28 : decode (q_cc m_mo_crewOf) 28 = .ok (.aload_n 0, 1) := by decide +kernel
theorem d_mo_crewOf_29 : decode (q_cc m_mo_crewOf) 29 = .ok (.iload_n 3, 1) := by decide +kernel
theorem d_mo_crewOf_30 : decode (q_cc m_mo_crewOf) 30 = .ok (.invokevirtual 494, 3) := by decide +kernel
theorem d_mo_crewOf_33 : decode (q_cc m_mo_crewOf) 33 = .ok (.dup2, 1) := by decide +kernel
theorem d_mo_crewOf_34 : decode (q_cc m_mo_crewOf) 34 = .ok (.iaload, 1) := by decide +kernel
theorem d_mo_crewOf_35 : decode (q_cc m_mo_crewOf) 35 = .ok (.iconst 1, 1) := by decide +kernel
theorem d_mo_crewOf_36 : decode (q_cc m_mo_crewOf) 36 = .ok (.aload_n 0, 1) := by decide +kernel
theorem d_mo_crewOf_37 : decode (q_cc m_mo_crewOf) 37 = .ok (.getfield 163, 3) := by decide +kernel
theorem d_mo_crewOf_40 : decode (q_cc m_mo_crewOf) 40 = .ok (.iload_n 3, 1) := by decide +kernel
theorem d_mo_crewOf_41 : decode (q_cc m_mo_crewOf) 41 = .ok (.iaload, 1) := by decide +kernel
theorem d_mo_crewOf_42 : decode (q_cc m_mo_crewOf) 42 = .ok (.ishl, 1) := by decide +kernel
theorem d_mo_crewOf_43 : decode (q_cc m_mo_crewOf) 43 = .ok (.iconst (-1), 1) := by decide +kernel
theorem d_mo_crewOf_44 : decode (q_cc m_mo_crewOf) 44 = .ok (.ixor, 1) := by decide +kernel
theorem d_mo_crewOf_45 : decode (q_cc m_mo_crewOf) 45 = .ok (.iand, 1) := by decide +kernel
theorem d_mo_crewOf_46 : decode (q_cc m_mo_crewOf) 46 = .ok (.iastore, 1) := by decide +kernel
theorem d_mo_crewOf_47 : decode (q_cc m_mo_crewOf) 47 = .ok (.aload_n 0, 1) := by decide +kernel
theorem d_mo_crewOf_48 : decode (q_cc m_mo_crewOf) 48 = .ok (.iload_n 3, 1) := by decide +kernel
theorem d_mo_crewOf_49 : decode (q_cc m_mo_crewOf) 49 = .ok (.aload_n 0, 1) := by decide +kernel
theorem d_mo_crewOf_50 : decode (q_cc m_mo_crewOf) 50 = .ok (.invokevirtual 419, 3) := by decide +kernel
theorem d_mo_crewOf_53 : decode (q_cc m_mo_crewOf) 53 = .ok (.iload_n 1, 1) := by decide +kernel
theorem d_mo_crewOf_54 : decode (q_cc m_mo_crewOf) 54 = .ok (.invokevirtual 503, 3) := by decide +kernel
theorem d_mo_crewOf_57 : decode (q_cc m_mo_crewOf) 57 = .ok (.ifCond .ne 9, 3) := by decide +kernel
theorem d_mo_crewOf_60 : decode (q_cc m_mo_crewOf) 60 = .ok (.iinc 3 (-1), 3) := by decide +kernel
theorem d_mo_crewOf_63 : decode (q_cc m_mo_crewOf) 63 = .ok (.goto (-52), 3) := by decide +kernel
theorem d_mo_crewOf_66 : decode (q_cc m_mo_crewOf) 66 = .ok (.aload_n 0, 1) := by decide +kernel
theorem d_mo_crewOf_67 : decode (q_cc m_mo_crewOf) 67 = .ok (.getfield 169, 3) := by decide +kernel
theorem d_mo_crewOf_70 : decode (q_cc m_mo_crewOf) 70 = .ok (.aload_n 0, 1) := by decide +kernel
theorem d_mo_crewOf_71 : decode (q_cc m_mo_crewOf) 71 = .ok (.iload_n 3, 1) := by decide +kernel
theorem d_mo_crewOf_72 : decode (q_cc m_mo_crewOf) 72 = .ok (.invokevirtual 494, 3) := by decide +kernel
theorem d_mo_crewOf_75 : decode (q_cc m_mo_crewOf) 75 = .ok (.dup2, 1) := by decide +kernel
theorem d_mo_crewOf_76 : decode (q_cc m_mo_crewOf) 76 = .ok (.iaload, 1) := by decide +kernel
theorem d_mo_crewOf_77 : decode (q_cc m_mo_crewOf) 77 = .ok (.iconst 1, 1) := by decide +kernel
theorem d_mo_crewOf_78 : decode (q_cc m_mo_crewOf) 78 = .ok (.aload_n 0, 1) := by decide +kernel
theorem d_mo_crewOf_79 : decode (q_cc m_mo_crewOf) 79 = .ok (.getfield 163, 3) := by decide +kernel
theorem d_mo_crewOf_82 : decode (q_cc m_mo_crewOf) 82 = .ok (.iload_n 3, 1) := by decide +kernel
theorem d_mo_crewOf_83 : decode (q_cc m_mo_crewOf) 83 = .ok (.iaload, 1) := by decide +kernel
theorem d_mo_crewOf_84 : decode (q_cc m_mo_crewOf) 84 = .ok (.ishl, 1) := by decide +kernel
theorem d_mo_crewOf_85 : decode (q_cc m_mo_crewOf) 85 = .ok (.ior, 1) := by decide +kernel
theorem d_mo_crewOf_86 : decode (q_cc m_mo_crewOf) 86 = .ok (.iastore, 1) := by decide +kernel
theorem d_mo_crewOf_87 : decode (q_cc m_mo_crewOf) 87 = .ok (.iload_n 3, 1) := by decide +kernel
theorem d_mo_crewOf_88 : decode (q_cc m_mo_crewOf) 88 = .ok (.aload_n 0, 1) := by decide +kernel
theorem d_mo_crewOf_89 : decode (q_cc m_mo_crewOf) 89 = .ok (.getfield 491, 3) := by decide +kernel
theorem d_mo_crewOf_92 : decode (q_cc m_mo_crewOf) 92 = .ok (.iconst 1, 1) := by decide +kernel
theorem d_mo_crewOf_93 : decode (q_cc m_mo_crewOf) 93 = .ok (.isub, 1) := by decide +kernel
theorem d_mo_crewOf_94 : decode (q_cc m_mo_crewOf) 94 = .ok (.if_icmp .ge 16, 3) := by decide +kernel
theorem d_mo_crewOf_97 : decode (q_cc m_mo_crewOf) 97 = .ok (.iinc 3 1, 3) := by decide +kernel
theorem d_mo_crewOf_100 : decode (q_cc m_mo_crewOf) 100 = .ok (.aload_n 0, 1) := by decide +kernel
theorem d_mo_crewOf_101 : decode (q_cc m_mo_crewOf) 101 = .ok (.getfield 166, 3) := by decide +kernel
theorem d_mo_crewOf_104 : decode (q_cc m_mo_crewOf) 104 = .ok (.iload_n 3, 1) := by decide +kernel
theorem d_mo_crewOf_105 : decode (q_cc m_mo_crewOf) 105 = .ok (.iconst (-1), 1) := by decide +kernel
theorem d_mo_crewOf_106 : decode (q_cc m_mo_crewOf) 106 = .ok (.iastore, 1) := by decide +kernel
theorem d_mo_crewOf_107 : decode (q_cc m_mo_crewOf) 107 = .ok (.goto (-96), 3) := by decide +kernel
theorem d_mo_crewOf_110 : decode (q_cc m_mo_crewOf) 110 = .ok (.iconst 0, 1) := by decide +kernel
theorem d_mo_crewOf_111 : decode (q_cc m_mo_crewOf) 111 = .ok (.istore 4, 2) := by decide +kernel
theorem d_mo_crewOf_113 : decode (q_cc m_mo_crewOf) 113 = .ok (.iconst 0, 1) := by decide +kernel
theorem d_mo_crewOf_114 : decode (q_cc m_mo_crewOf) 114 = .ok (.istore 5, 2) := by decide +kernel
theorem d_mo_crewOf_116 : decode (q_cc m_mo_crewOf) 116 = .ok (.iload 5, 2) := by decide +kernel
theorem d_mo_crewOf_118 : decode (q_cc m_mo_crewOf) 118 = .ok (.aload_n 0, 1) := by decide +kernel
theorem d_mo_crewOf_119 : decode (q_cc m_mo_crewOf) 119 = .ok (.getfield 491, 3) := by decide +kernel
theorem d_mo_crewOf_122 : decode (q_cc m_mo_crewOf) 122 = .ok (.if_icmp .ge 37, 3) := by decide +kernel
theorem d_mo_crewOf_125 : decode (q_cc m_mo_crewOf) 125 = .ok (.iload 4, 2) := by decide +kernel
theorem d_mo_crewOf_127 : decode (q_cc m_mo_crewOf) 127 = .ok (.aload_n 0, 1) := by decide +kernel
theorem d_mo_crewOf_128 : decode (q_cc m_mo_crewOf) 128 = .ok (.getfield 145, 3) := by decide +kernel
theorem d_mo_crewOf_131 : decode (q_cc m_mo_crewOf) 131 = .ok (.bipush 24, 2) := by decide +kernel
theorem d_mo_crewOf_133 : decode (q_cc m_mo_crewOf) 133 = .ok (.aload_n 0, 1) := by decide +kernel
theorem d_mo_crewOf_134 : decode (q_cc m_mo_crewOf) 134 = .ok (.getfield 166, 3) := by decide +kernel
theorem d_mo_crewOf_137 : decode (q_cc m_mo_crewOf) 137 = .ok (.iload 5, 2) := by decide +kernel
theorem d_mo_crewOf_139 : decode (q_cc m_mo_crewOf) 139 = .ok (.iaload, 1) := by decide +kernel
theorem d_mo_crewOf_140 : decode (q_cc m_mo_crewOf) 140 = .ok (.imul, 1) := by decide +kernel
theorem d_mo_crewOf_141 : decode (q_cc m_mo_crewOf) 141 = .ok (.aload_n 0, 1) := by decide +kernel
theorem d_mo_crewOf_142 : decode (q_cc m_mo_crewOf) 142 = .ok (.getfield 163, 3) := by decide +kernel
theorem d_mo_crewOf_145 : decode (q_cc m_mo_crewOf) 145 = .ok (.iload 5, 2) := by decide +kernel
theorem d_mo_crewOf_147 : decode (q_cc m_mo_crewOf) 147 = .ok (.iaload, 1) := by decide +kernel
theorem d_mo_crewOf_148 : decode (q_cc m_mo_crewOf) 148 = .ok (.iadd, 1) := by decide +kernel
theorem d_mo_crewOf_149 : decode (q_cc m_mo_crewOf) 149 = .ok (.iaload, 1) := by decide +kernel
theorem d_mo_crewOf_150 : decode (q_cc m_mo_crewOf) 150 = .ok (.iadd, 1) := by decide +kernel
theorem d_mo_crewOf_151 : decode (q_cc m_mo_crewOf) 151 = .ok (.istore 4, 2) := by decide +kernel
theorem d_mo_crewOf_153 : decode (q_cc m_mo_crewOf) 153 = .ok (.iinc 5 1, 3) := by decide +kernel
theorem d_mo_crewOf_156 : decode (q_cc m_mo_crewOf) 156 = .ok (.goto (-40), 3) := by decide +kernel
theorem d_mo_crewOf_159 : decode (q_cc m_mo_crewOf) 159 = .ok (.iload_n 2, 1) := by decide +kernel
theorem d_mo_crewOf_160 : decode (q_cc m_mo_crewOf) 160 = .ok (.iconst (-1), 1) := by decide +kernel
theorem d_mo_crewOf_161 : decode (q_cc m_mo_crewOf) 161 = .ok (.if_icmp .eq 12, 3) := by decide +kernel
theorem d_mo_crewOf_164 : decode (q_cc m_mo_crewOf) 164 = .ok (.iload 4, 2) := by decide +kernel
theorem d_mo_crewOf_166 : decode (q_cc m_mo_crewOf) 166 = .ok (.iload_n 2, 1) := by decide +kernel
theorem d_mo_crewOf_167 : decode (q_cc m_mo_crewOf) 167 = .ok (.if_icmp .lt 6, 3) := by decide +kernel
theorem d_mo_crewOf_170 : decode (q_cc m_mo_crewOf) 170 = .ok (.goto (-159), 3) := by decide +kernel
theorem d_mo_crewOf_173 : decode (q_cc m_mo_crewOf) 173 = .ok (.iload 4, 2) := by decide +kernel
theorem d_mo_crewOf_175 : decode (q_cc m_mo_crewOf) 175 = .ok (.istore_n 2, 1) := by decide +kernel
theorem d_mo_crewOf_176 : decode (q_cc m_mo_crewOf) 176 = .ok (.iconst 0, 1) := by decide +kernel
theorem d_mo_crewOf_177 : decode (q_cc m_mo_crewOf) 177 = .ok (.istore 5, 2) := by decide +kernel
theorem d_mo_crewOf_179 : decode (q_cc m_mo_crewOf) 179 = .ok (.iload 5, 2) := by decide +kernel
theorem d_mo_crewOf_181 : decode (q_cc m_mo_crewOf) 181 = .ok (.aload_n 0, 1) := by decide +kernel
theorem d_mo_crewOf_182 : decode (q_cc m_mo_crewOf) 182 = .ok (.getfield 491, 3) := by decide +kernel
theorem d_mo_crewOf_185 : decode (q_cc m_mo_crewOf) 185 = .ok (.if_icmp .ge 23, 3) := by decide +kernel
theorem d_mo_crewOf_188 : decode (q_cc m_mo_crewOf) 188 = .ok (.aload_n 0, 1) := by decide +kernel
theorem d_mo_crewOf_189 : decode (q_cc m_mo_crewOf) 189 = .ok (.getfield 172, 3) := by decide +kernel
theorem d_mo_crewOf_192 : decode (q_cc m_mo_crewOf) 192 = .ok (.iload 5, 2) := by decide +kernel
theorem d_mo_crewOf_194 : decode (q_cc m_mo_crewOf) 194 = .ok (.aload_n 0, 1) := by decide +kernel
theorem d_mo_crewOf_195 : decode (q_cc m_mo_crewOf) 195 = .ok (.getfield 166, 3) := by decide +kernel
theorem d_mo_crewOf_198 : decode (q_cc m_mo_crewOf) 198 = .ok (.iload 5, 2) := by decide +kernel
theorem d_mo_crewOf_200 : decode (q_cc m_mo_crewOf) 200 = .ok (.iaload, 1) := by decide +kernel
theorem d_mo_crewOf_201 : decode (q_cc m_mo_crewOf) 201 = .ok (.iastore, 1) := by decide +kernel
theorem d_mo_crewOf_202 : decode (q_cc m_mo_crewOf) 202 = .ok (.iinc 5 1, 3) := by decide +kernel
theorem d_mo_crewOf_205 : decode (q_cc m_mo_crewOf) 205 = .ok (.goto (-26), 3) := by decide +kernel
theorem d_mo_crewOf_208 : decode (q_cc m_mo_crewOf) 208 = .ok (.goto (-197), 3) := by decide +kernel
theorem d_mo_crewOf_211 : decode (q_cc m_mo_crewOf) 211 = .ok (.iload_n 2, 1) := by decide +kernel
theorem d_mo_crewOf_212 : decode (q_cc m_mo_crewOf) 212 = .ok (.ireturn, 1) := by decide +kernel
theorem d_mo_crewFor_0 : decode (q_cc m_mo_crewFor) 0 = .ok (.iload_n 2, 1) := by decide +kernel
theorem d_mo_crewFor_1 : decode (q_cc m_mo_crewFor) 1 = .ok (.ifCond .lt 42, 3) := by decide +kernel
theorem d_mo_crewFor_4 : decode (q_cc m_mo_crewFor) 4 = .ok (.iload_n 1, 1) := by decide +kernel
theorem d_mo_crewFor_5 : decode (q_cc m_mo_crewFor) 5 = .ok (.i2l, 1) := by decide +kernel
theorem d_mo_crewFor_6 : decode (q_cc m_mo_crewFor) 6 = .ok (.lconst 0, 1) := by decide +kernel
theorem d_mo_crewFor_7 : decode (q_cc m_mo_crewFor) 7 = .ok (.iconst 1, 1) := by decide +kernel
theorem d_mo_crewFor_8 : decode (q_cc m_mo_crewFor) 8 = .ok (.aload_n 0, 1) := by decide +kernel
theorem d_mo_crewFor_9 : decode (q_cc m_mo_crewFor) 9 = .ok (.invokevirtual 328, 3) := by decide +kernel
theorem d_mo_crewFor_12 : decode (q_cc m_mo_crewFor) 12 = .ok (.ishl, 1) := by decide +kernel
theorem d_mo_crewFor_13 : decode (q_cc m_mo_crewFor) 13 = .ok (.iconst 1, 1) := by decide +kernel
theorem d_mo_crewFor_14 : decode (q_cc m_mo_crewFor) 14 = .ok (.isub, 1) := by decide +kernel
theorem d_mo_crewFor_15 : decode (q_cc m_mo_crewFor) 15 = .ok (.i2l, 1) := by decide +kernel
theorem d_mo_crewFor_16 : decode (q_cc m_mo_crewFor) 16 = .ok (.invokestatic 225, 3) := by decide +kernel
theorem d_mo_crewFor_19 : decode (q_cc m_mo_crewFor) 19 = .ok (.ifCond .eq 24, 3) := by decide +kernel
theorem d_mo_crewFor_22 : decode (q_cc m_mo_crewFor) 22 = .ok (.iload_n 1, 1) := by decide +kernel
theorem d_mo_crewFor_23 : decode (q_cc m_mo_crewFor) 23 = .ok (.invokestatic 443, 3) := by decide +kernel
theorem d_mo_crewFor_26 : decode (q_cc m_mo_crewFor) 26 = .ok (.bipush 7, 2) := by decide +kernel
theorem d_mo_crewFor_28 : decode (q_cc m_mo_crewFor) 28 = .ok (.if_icmp .gt 15, 3) := by decide +kernel
theorem d_mo_crewFor_31 : decode (q_cc m_mo_crewFor) 31 = .ok (.iload_n 1, 1) := by decide +kernel
theorem d_mo_crewFor_32 : decode (q_cc m_mo_crewFor) 32 = .ok (.aload_n 0, 1) := by decide +kernel
theorem d_mo_crewFor_33 : decode (q_cc m_mo_crewFor) 33 = .ok (.iconst (-1), 1) := by decide +kernel
theorem d_mo_crewFor_34 : decode (q_cc m_mo_crewFor) 34 = .ok (.invokevirtual 440, 3) := by decide +kernel
theorem d_mo_crewFor_37 : decode (q_cc m_mo_crewFor) 37 = .ok (.iconst (-1), 1) := by decide +kernel
theorem d_mo_crewFor_38 : decode (q_cc m_mo_crewFor) 38 = .ok (.ixor, 1) := by decide +kernel
theorem d_mo_crewFor_39 : decode (q_cc m_mo_crewFor) 39 = .ok (.iand, 1) := by decide +kernel
theorem d_mo_crewFor_40 : decode (q_cc m_mo_crewFor) 40 = .ok (.ifCond .eq 5, 3) := by decide +kernel
theorem d_mo_crewFor_43 : decode (q_cc m_mo_crewFor) 43 = .ok (.iconst (-1), 1) := by decide +kernel
theorem d_mo_crewFor_44 : decode (q_cc m_mo_crewFor) 44 = .ok (.ireturn, 1) := by decide +kernel
theorem d_mo_crewFor_45 : decode (q_cc m_mo_crewFor) 45 = .ok (.aload_n 0, 1) := by decide +kernel
theorem d_mo_crewFor_46 : decode (q_cc m_mo_crewFor) 46 = .ok (.iload_n 1, 1) := by decide +kernel
theorem d_mo_crewFor_47 : decode (q_cc m_mo_crewFor) 47 = .ok (.invokevirtual 501, 3) := by decide +kernel
theorem d_mo_crewFor_50 : decode (q_cc m_mo_crewFor) 50 = .ok (.aload_n 0, 1) := by decide +kernel
theorem d_mo_crewFor_51 : decode (q_cc m_mo_crewFor) 51 = .ok (.getfield 491, 3) := by decide +kernel
theorem d_mo_crewFor_54 : decode (q_cc m_mo_crewFor) 54 = .ok (.ifCond .ne 7, 3) := by decide +kernel
theorem d_mo_crewFor_57 : decode (q_cc m_mo_crewFor) 57 = .ok (.iconst 0, 1) := by decide +kernel
theorem d_mo_crewFor_58 : decode (q_cc m_mo_crewFor) 58 = .ok (.goto 8, 3) := by decide +kernel
theorem d_mo_crewFor_61 : decode (q_cc m_mo_crewFor) 61 = .ok (.aload_n 0, 1) := by decide +kernel
theorem d_mo_crewFor_62 : decode (q_cc m_mo_crewFor) 62 = .ok (.iload_n 2, 1) := by decide +kernel
theorem d_mo_crewFor_63 : decode (q_cc m_mo_crewFor) 63 = .ok (.invokevirtual 509, 3) := by decide +kernel
theorem d_mo_crewFor_66 : decode (q_cc m_mo_crewFor) 66 = .ok (.ireturn, 1) := by decide +kernel
theorem d_mo_crew_0 : decode (q_cc m_mo_crew) 0 = .ok (.aload_n 0, 1) := by decide +kernel
theorem d_mo_crew_1 : decode (q_cc m_mo_crew) 1 = .ok (.iload_n 1, 1) := by decide +kernel
theorem d_mo_crew_2 : decode (q_cc m_mo_crew) 2 = .ok (.iload_n 2, 1) := by decide +kernel
theorem d_mo_crew_3 : decode (q_cc m_mo_crew) 3 = .ok (.invokevirtual 512, 3) := by decide +kernel
theorem d_mo_crew_6 : decode (q_cc m_mo_crew) 6 = .ok (.istore 4, 2) := by decide +kernel
theorem d_mo_crew_8 : decode (q_cc m_mo_crew) 8 = .ok (.iload 4, 2) := by decide +kernel
theorem d_mo_crew_10 : decode (q_cc m_mo_crew) 10 = .ok (.iconst (-1), 1) := by decide +kernel
theorem d_mo_crew_11 : decode (q_cc m_mo_crew) 11 = .ok (.if_icmp .eq 8, 3) := by decide +kernel
theorem d_mo_crew_14 : decode (q_cc m_mo_crew) 14 = .ok (.iload_n 3, 1) := by decide +kernel
theorem d_mo_crew_15 : decode (q_cc m_mo_crew) 15 = .ok (.iconst (-1), 1) := by decide +kernel
theorem d_mo_crew_16 : decode (q_cc m_mo_crew) 16 = .ok (.if_icmp .ne 6, 3) := by decide +kernel
theorem d_mo_crew_19 : decode (q_cc m_mo_crew) 19 = .ok (.iload 4, 2) := by decide +kernel
theorem d_mo_crew_21 : decode (q_cc m_mo_crew) 21 = .ok (.ireturn, 1) := by decide +kernel
theorem d_mo_crew_22 : decode (q_cc m_mo_crew) 22 = .ok (.iload_n 3, 1) := by decide +kernel
theorem d_mo_crew_23 : decode (q_cc m_mo_crew) 23 = .ok (.i2l, 1) := by decide +kernel
theorem d_mo_crew_24 : decode (q_cc m_mo_crew) 24 = .ok (.lconst 0, 1) := by decide +kernel
theorem d_mo_crew_25 : decode (q_cc m_mo_crew) 25 = .ok (.aload_n 0, 1) := by decide +kernel
theorem d_mo_crew_26 : decode (q_cc m_mo_crew) 26 = .ok (.getfield 491, 3) := by decide +kernel
theorem d_mo_crew_29 : decode (q_cc m_mo_crew) 29 = .ok (.iconst 1, 1) := by decide +kernel
theorem d_mo_crew_30 : decode (q_cc m_mo_crew) 30 = .ok (.isub, 1) := by decide +kernel
theorem d_mo_crew_31 : decode (q_cc m_mo_crew) 31 = .ok (.i2l, 1) := by decide +kernel
theorem d_mo_crew_32 : decode (q_cc m_mo_crew) 32 = .ok (.invokestatic 225, 3) := by decide +kernel
theorem d_mo_crew_35 : decode (q_cc m_mo_crew) 35 = .ok (.ifCond .eq 12, 3) := by decide +kernel
theorem d_mo_crew_38 : decode (q_cc m_mo_crew) 38 = .ok (.aload_n 0, 1) := by decide +kernel
theorem d_mo_crew_39 : decode (q_cc m_mo_crew) 39 = .ok (.getfield 172, 3) := by decide +kernel
theorem d_mo_crew_42 : decode (q_cc m_mo_crew) 42 = .ok (.iload_n 3, 1) := by decide +kernel
theorem d_mo_crew_43 : decode (q_cc m_mo_crew) 43 = .ok (.iaload, 1) := by decide +kernel
theorem d_mo_crew_44 : decode (q_cc m_mo_crew) 44 = .ok (.goto 4, 3) := by decide +kernel
theorem d_mo_crew_47 : decode (q_cc m_mo_crew) 47 = .ok (.iconst (-1), 1) := by decide +kernel
theorem d_mo_crew_48 : decode (q_cc m_mo_crew) 48 = .ok (.ireturn, 1) := by decide +kernel
theorem d_mo_take_0 : decode (q_cc m_mo_take) 0 = .ok (.aload_n 0, 1) := by decide +kernel
theorem d_mo_take_1 : decode (q_cc m_mo_take) 1 = .ok (.iload_n 1, 1) := by decide +kernel
theorem d_mo_take_2 : decode (q_cc m_mo_take) 2 = .ok (.iload_n 2, 1) := by decide +kernel
theorem d_mo_take_3 : decode (q_cc m_mo_take) 3 = .ok (.invokevirtual 512, 3) := by decide +kernel
theorem d_mo_take_6 : decode (q_cc m_mo_take) 6 = .ok (.istore_n 3, 1) := by decide +kernel
theorem d_mo_take_7 : decode (q_cc m_mo_take) 7 = .ok (.iload_n 3, 1) := by decide +kernel
theorem d_mo_take_8 : decode (q_cc m_mo_take) 8 = .ok (.iconst (-1), 1) := by decide +kernel
theorem d_mo_take_9 : decode (q_cc m_mo_take) 9 = .ok (.if_icmp .eq 10, 3) := by decide +kernel
theorem d_mo_take_12 : decode (q_cc m_mo_take) 12 = .ok (.aload_n 0, 1) := by decide +kernel
theorem d_mo_take_13 : decode (q_cc m_mo_take) 13 = .ok (.getfield 491, 3) := by decide +kernel
theorem d_mo_take_16 : decode (q_cc m_mo_take) 16 = .ok (.ifCond .ne 5, 3) := by decide +kernel
theorem d_mo_take_19 : decode (q_cc m_mo_take) 19 = .ok (.iconst (-1), 1) := by decide +kernel
theorem d_mo_take_20 : decode (q_cc m_mo_take) 20 = .ok (.ireturn, 1) := by decide +kernel
theorem d_mo_take_21 : decode (q_cc m_mo_take) 21 = .ok (.aload_n 0, 1) := by decide +kernel
theorem d_mo_take_22 : decode (q_cc m_mo_take) 22 = .ok (.invokevirtual 506, 3) := by decide +kernel
theorem d_mo_take_25 : decode (q_cc m_mo_take) 25 = .ok (.iconst 0, 1) := by decide +kernel
theorem d_mo_take_26 : decode (q_cc m_mo_take) 26 = .ok (.istore 4, 2) := by decide +kernel
theorem d_mo_take_28 : decode (q_cc m_mo_take) 28 = .ok (.iload 4, 2) := by decide +kernel
theorem d_mo_take_30 : decode (q_cc m_mo_take) 30 = .ok (.aload_n 0, 1) := by decide +kernel
theorem d_mo_take_31 : decode (q_cc m_mo_take) 31 = .ok (.getfield 491, 3) := by decide +kernel
theorem d_mo_take_34 : decode (q_cc m_mo_take) 34 = .ok (.if_icmp .ge 28, 3) := by decide +kernel
theorem d_mo_take_37 : decode (q_cc m_mo_take) 37 = .ok (.aload_n 0, 1) := by decide +kernel
theorem d_mo_take_38 : decode (q_cc m_mo_take) 38 = .ok (.getfield 148, 3) := by decide +kernel
theorem d_mo_take_41 : decode (q_cc m_mo_take) 41 = .ok (.aload_n 0, 1) := by decide +kernel
theorem d_mo_take_42 : decode (q_cc m_mo_take) 42 = .ok (.getfield 163, 3) := by decide +kernel
theorem d_mo_take_45 : decode (q_cc m_mo_take) 45 = .ok (.iload 4, 2) := by decide +kernel
theorem d_mo_take_47 : decode (q_cc m_mo_take) 47 = .ok (.iaload, 1) := by decide +kernel
theorem d_mo_take_48 : decode (q_cc m_mo_take) 48 = .ok (.aload_n 0, 1) := by decide +kernel
theorem d_mo_take_49 : decode (q_cc m_mo_take) 49 = .ok (.getfield 172, 3) := by decide +kernel
theorem d_mo_take_52 : decode (q_cc m_mo_take) 52 = .ok (.iload 4, 2) := by decide +kernel
theorem d_mo_take_54 : decode (q_cc m_mo_take) 54 = .ok (.iaload, 1) := by decide +kernel
theorem d_mo_take_55 : decode (q_cc m_mo_take) 55 = .ok (.iastore, 1) := by decide +kernel
theorem d_mo_take_56 : decode (q_cc m_mo_take) 56 = .ok (.iinc 4 1, 3) := by decide +kernel
theorem d_mo_take_59 : decode (q_cc m_mo_take) 59 = .ok (.goto (-31), 3) := by decide +kernel
theorem d_mo_take_62 : decode (q_cc m_mo_take) 62 = .ok (.iload_n 3, 1) := by decide +kernel
theorem d_mo_take_63 : decode (q_cc m_mo_take) 63 = .ok (.ireturn, 1) := by decide +kernel
theorem d_mo_crowd_0 : decode (q_cc m_mo_crowd) 0 = .ok (.aload_n 0, 1) := by decide +kernel
theorem d_mo_crowd_1 : decode (q_cc m_mo_crowd) 1 = .ok (.iload_n 1, 1) := by decide +kernel
theorem d_mo_crowd_2 : decode (q_cc m_mo_crowd) 2 = .ok (.invokevirtual 459, 3) := by decide +kernel
theorem d_mo_crowd_5 : decode (q_cc m_mo_crowd) 5 = .ok (.ifCond .eq 27, 3) := by decide +kernel
theorem d_mo_crowd_8 : decode (q_cc m_mo_crowd) 8 = .ok (.iload_n 2, 1) := by decide +kernel
theorem d_mo_crowd_9 : decode (q_cc m_mo_crowd) 9 = .ok (.i2l, 1) := by decide +kernel
theorem d_mo_crowd_10 : decode (q_cc m_mo_crowd) 10 = .ok (.lconst 0, 1) := by decide +kernel
theorem d_mo_crowd_11 : decode (q_cc m_mo_crowd) 11 = .ok (.ldc2_w 486, 3) := by decide +kernel
theorem d_mo_crowd_14 : decode (q_cc m_mo_crowd) 14 = .ok (.invokestatic 225, 3) := by decide +kernel
theorem d_mo_crowd_17 : decode (q_cc m_mo_crowd) 17 = .ok (.ifCond .eq 15, 3) := by decide +kernel
theorem d_mo_crowd_20 : decode (q_cc m_mo_crowd) 20 = .ok (.iload_n 3, 1) := by decide +kernel
theorem d_mo_crowd_21 : decode (q_cc m_mo_crowd) 21 = .ok (.i2l, 1) := by decide +kernel
theorem d_mo_crowd_22 : decode (q_cc m_mo_crowd) 22 = .ok (.lconst 1, 1) := by decide +kernel
theorem d_mo_crowd_23 : decode (q_cc m_mo_crowd) 23 = .ok (.ldc2_w 448, 3) := by decide +kernel
theorem d_mo_crowd_26 : decode (q_cc m_mo_crowd) 26 = .ok (.invokestatic 225, 3) := by decide +kernel
theorem d_mo_crowd_29 : decode (q_cc m_mo_crowd) 29 = .ok (.ifCond .ne 5, 3) := by decide +kernel
theorem d_mo_crowd_32 : decode (q_cc m_mo_crowd) 32 = .ok (.iconst (-1), 1) := by decide +kernel
theorem d_mo_crowd_33 : decode (q_cc m_mo_crowd) 33 = .ok (.ireturn, 1) := by decide +kernel
theorem d_mo_crowd_34 : decode (q_cc m_mo_crowd) 34 = .ok (.iconst 0, 1) := by decide +kernel
theorem d_mo_crowd_35 : decode (q_cc m_mo_crowd) 35 = .ok (.istore 5, 2) := by decide +kernel
theorem d_mo_crowd_37 : decode (q_cc m_mo_crowd) 37 = .ok (.iconst 0, 1) := by decide +kernel
theorem d_mo_crowd_38 : decode (q_cc m_mo_crowd) 38 = .ok (.istore 6, 2) := by decide +kernel
theorem d_mo_crowd_40 : decode (q_cc m_mo_crowd) 40 = .ok (.iconst (-1), 1) := by decide +kernel
theorem d_mo_crowd_41 : decode (q_cc m_mo_crowd) 41 = .ok (.istore 7, 2) := by decide +kernel
theorem d_mo_crowd_43 : decode (q_cc m_mo_crowd) 43 = .ok (.iconst 0, 1) := by decide +kernel
theorem d_mo_crowd_44 : decode (q_cc m_mo_crowd) 44 = .ok (.istore 8, 2) := by decide +kernel
theorem d_mo_crowd_46 : decode (q_cc m_mo_crowd) 46 = .ok (.iload 8, 2) := by decide +kernel
theorem d_mo_crowd_48 : decode (q_cc m_mo_crowd) 48 = .ok (.iload_n 3, 1) := by decide +kernel
theorem d_mo_crowd_49 : decode (q_cc m_mo_crowd) 49 = .ok (.if_icmp .ge 128, 3) := by decide +kernel
theorem d_mo_crowd_52 : decode (q_cc m_mo_crowd) 52 = .ok (.iconst (-1), 1) := by decide +kernel
theorem d_mo_crowd_53 : decode (q_cc m_mo_crowd) 53 = .ok (.istore 9, 2) := by decide +kernel
theorem d_mo_crowd_55 : decode (q_cc m_mo_crowd) 55 = .ok (.iconst 0, 1) := by decide +kernel
theorem d_mo_crowd_56 : decode (q_cc m_mo_crowd) 56 = .ok (.istore 10, 2) := by decide +kernel
theorem d_mo_crowd_58 : decode (q_cc m_mo_crowd) 58 = .ok (.iload 10, 2) := by decide +kernel
theorem d_mo_crowd_60 : decode (q_cc m_mo_crowd) 60 = .ok (.aload_n 0, 1) := by decide +kernel
theorem d_mo_crowd_61 : decode (q_cc m_mo_crowd) 61 = .ok (.invokevirtual 419, 3) := by decide +kernel
theorem d_mo_crowd_64 : decode (q_cc m_mo_crowd) 64 = .ok (.if_icmp .ge 65, 3) := by decide +kernel
theorem d_mo_crowd_67 : decode (q_cc m_mo_crowd) 67 = .ok (.iload 5, 2) := by decide +kernel
theorem d_mo_crowd_69 : decode (q_cc m_mo_crowd) 69 = .ok (.iload 10, 2) := by decide +kernel
theorem d_mo_crowd_71 : decode (q_cc m_mo_crowd) 71 = .ok (.ishr, 1) := by decide +kernel
theorem d_mo_crowd_72 : decode (q_cc m_mo_crowd) 72 = .ok (.iconst 1, 1) := by decide +kernel
theorem d_mo_crowd_73 : decode (q_cc m_mo_crowd) 73 = .ok (.iand, 1) := by decide +kernel
theorem d_mo_crowd_74 : decode (q_cc m_mo_crowd) 74 = .ok (.ifCond .ne 49, 3) := by decide +kernel
theorem d_mo_crowd_77 : decode (q_cc m_mo_crowd) 77 = .ok (.aload_n 0, 1) := by decide +kernel
theorem d_mo_crowd_78 : decode (q_cc m_mo_crowd) 78 = .ok (.aload_n 0, 1) := by decide +kernel
theorem d_mo_crowd_79 : decode (q_cc m_mo_crowd) 79 = .ok (.iload 10, 2) := by decide +kernel
theorem d_mo_crowd_81 : decode (q_cc m_mo_crowd) 81 = .ok (.invokevirtual 440, 3) := by decide +kernel
theorem d_mo_crowd_84 : decode (q_cc m_mo_crowd) 84 = .ok (.iload_n 1, 1) := by decide +kernel
theorem d_mo_crowd_85 : decode (q_cc m_mo_crowd) 85 = .ok (.iload_n 2, 1) := by decide +kernel
theorem d_mo_crowd_86 : decode (q_cc m_mo_crowd) 86 = .ok (.invokevirtual 488, 3) := by decide +kernel
theorem d_mo_crowd_89 : decode (q_cc m_mo_crowd) 89 = .ok (.ifCond .eq 34, 3) := by decide +kernel
theorem d_mo_crowd_92 : decode (q_cc m_mo_crowd) 92 = .ok (.iload 9, 2) := by decide +kernel
theorem d_mo_crowd_94 : decode (q_cc m_mo_crowd) 94 = .ok (.iconst (-1), 1) := by decide +kernel
theorem d_mo_crowd_95 : decode (q_cc m_mo_crowd) 95 = .ok (.if_icmp .eq 24, 3) := by decide +kernel
theorem d_mo_crowd_98 : decode (q_cc m_mo_crowd) 98 = .ok (.aload_n 0, 1) := by decide +kernel
theorem d_mo_crowd_99 : decode (q_cc m_mo_crowd) 99 = .ok (.getfield 112, 3) := by decide +kernel
theorem d_mo_crowd_102 : decode (q_cc m_mo_crowd) 102 = .ok (.iconst 5, 1) := by decide +kernel
theorem d_mo_crowd_103 : decode (q_cc m_mo_crowd) 103 = .ok (.iload 10, 2) := by decide +kernel
theorem d_mo_crowd_105 : decode (q_cc m_mo_crowd) 105 = .ok (.iadd, 1) := by decide +kernel
theorem d_mo_crowd_106 : decode (q_cc m_mo_crowd) 106 = .ok (.iaload, 1) := by decide +kernel
theorem d_mo_crowd_107 : decode (q_cc m_mo_crowd) 107 = .ok (.aload_n 0, 1) := by decide +kernel
theorem d_mo_crowd_108 : decode (q_cc m_mo_crowd) 108 = .ok (.getfield 112, 3) := by decide +kernel
theorem d_mo_crowd_111 : decode (q_cc m_mo_crowd) 111 = .ok (.iconst 5, 1) := by decide +kernel
theorem d_mo_crowd_112 : decode (q_cc m_mo_crowd) 112 = .ok (.iload 9, 2) := by decide +kernel
theorem d_mo_crowd_114 : decode (q_cc m_mo_crowd) 114 = .ok (.iadd, 1) := by decide +kernel
theorem d_mo_crowd_115 : decode (q_cc m_mo_crowd) 115 = .ok (.iaload, 1) := by decide +kernel
theorem d_mo_crowd_116 : decode (q_cc m_mo_crowd) 116 = .ok (.if_icmp .ge 7, 3) := by decide +kernel
theorem d_mo_crowd_119 : decode (q_cc m_mo_crowd) 119 = .ok (.iload 10, 2) := by decide +kernel
theorem d_mo_crowd_121 : decode (q_cc m_mo_crowd) 121 = .ok (.istore 9, 2) := by decide +kernel
theorem d_mo_crowd_123 : decode (q_cc m_mo_crowd) 123 = .ok (.iinc 10 1, 3) := by decide +kernel
theorem d_mo_crowd_126 : decode (q_cc m_mo_crowd) 126 = .ok (.goto (-68), 3) := by decide +kernel
theorem d_mo_crowd_129 : decode (q_cc m_mo_crowd) 129 = .ok (.iload 9, 2) := by decide +kernel
theorem d_mo_crowd_131 : decode (q_cc m_mo_crowd) 131 = .ok (.iconst (-1), 1) := by decide +kernel
theorem d_mo_crowd_132 : decode (q_cc m_mo_crowd) 132 = .ok (.if_icmp .ne 5, 3) := by decide +kernel
theorem d_mo_crowd_135 : decode (q_cc m_mo_crowd) 135 = .ok (.iconst (-1), 1) := by decide +kernel
theorem d_mo_crowd_136 : decode (q_cc m_mo_crowd) 136 = .ok (.ireturn, 1) := by decide +kernel
theorem d_mo_crowd_137 : decode (q_cc m_mo_crowd) 137 = .ok (.iload 5, 2) := by decide +kernel
theorem d_mo_crowd_139 : decode (q_cc m_mo_crowd) 139 = .ok (.iconst 1, 1) := by decide +kernel
theorem d_mo_crowd_140 : decode (q_cc m_mo_crowd) 140 = .ok (.iload 9, 2) := by decide +kernel
theorem d_mo_crowd_142 : decode (q_cc m_mo_crowd) 142 = .ok (.ishl, 1) := by decide +kernel
theorem d_mo_crowd_143 : decode (q_cc m_mo_crowd) 143 = .ok (.ior, 1) := by decide +kernel
theorem d_mo_crowd_144 : decode (q_cc m_mo_crowd) 144 = .ok (.istore 5, 2) := by decide +kernel
theorem d_mo_crowd_146 : decode (q_cc m_mo_crowd) 146 = .ok (.iload 6, 2) := by decide +kernel
theorem d_mo_crowd_148 : decode (q_cc m_mo_crowd) 148 = .ok (.aload_n 0, 1) := by decide +kernel
theorem d_mo_crowd_149 : decode (q_cc m_mo_crowd) 149 = .ok (.getfield 112, 3) := by decide +kernel
theorem d_mo_crowd_152 : decode (q_cc m_mo_crowd) 152 = .ok (.iconst 5, 1) := by decide +kernel
theorem d_mo_crowd_153 : decode (q_cc m_mo_crowd) 153 = .ok (.iload 9, 2) := by decide +kernel
theorem d_mo_crowd_155 : decode (q_cc m_mo_crowd) 155 = .ok (.iadd, 1) := by decide +kernel
theorem d_mo_crowd_156 : decode (q_cc m_mo_crowd) 156 = .ok (.iaload, 1) := by decide +kernel
theorem d_mo_crowd_157 : decode (q_cc m_mo_crowd) 157 = .ok (.iadd, 1) := by decide +kernel
theorem d_mo_crowd_158 : decode (q_cc m_mo_crowd) 158 = .ok (.istore 6, 2) := by decide +kernel
theorem d_mo_crowd_160 : decode (q_cc m_mo_crowd) 160 = .ok (.iload 8, 2) := by decide +kernel
theorem d_mo_crowd_162 : decode (q_cc m_mo_crowd) 162 = .ok (.iload 4, 2) := by decide +kernel
theorem d_mo_crowd_164 : decode (q_cc m_mo_crowd) 164 = .ok (.if_icmp .ne 7, 3) := by decide +kernel
theorem d_mo_crowd_167 : decode (q_cc m_mo_crowd) 167 = .ok (.iload 9, 2) := by decide +kernel
theorem d_mo_crowd_169 : decode (q_cc m_mo_crowd) 169 = .ok (.istore 7, 2) := by decide +kernel
theorem d_mo_crowd_171 : decode (q_cc m_mo_crowd) 171 = .ok (.iinc 8 1, 3) := by decide +kernel
theorem d_mo_crowd_174 : decode (q_cc m_mo_crowd) 174 = .ok (.goto (-128), 3) := by decide +kernel
theorem d_mo_crowd_177 : decode (q_cc m_mo_crowd) 177 = .ok (.iload 4, 2) := by decide +kernel
theorem d_mo_crowd_179 : decode (q_cc m_mo_crowd) 179 = .ok (.iconst (-1), 1) := by decide +kernel
theorem d_mo_crowd_180 : decode (q_cc m_mo_crowd) 180 = .ok (.if_icmp .ne 8, 3) := by decide +kernel
theorem d_mo_crowd_183 : decode (q_cc m_mo_crowd) 183 = .ok (.iload 6, 2) := by decide +kernel
theorem d_mo_crowd_185 : decode (q_cc m_mo_crowd) 185 = .ok (.goto 5, 3) := by decide +kernel
theorem d_mo_crowd_188 : decode (q_cc m_mo_crowd) 188 = .ok (.iload 7, 2) := by decide +kernel
theorem d_mo_crowd_190 : decode (q_cc m_mo_crowd) 190 = .ok (.ireturn, 1) := by decide +kernel
theorem d_mo_shade_0 : decode (q_cc m_mo_shade) 0 = .ok (.aload_n 0, 1) := by decide +kernel
theorem d_mo_shade_1 : decode (q_cc m_mo_shade) 1 = .ok (.iload_n 1, 1) := by decide +kernel
theorem d_mo_shade_2 : decode (q_cc m_mo_shade) 2 = .ok (.invokevirtual 453, 3) := by decide +kernel
theorem d_mo_shade_5 : decode (q_cc m_mo_shade) 5 = .ok (.ifCond .ne 5, 3) := by decide +kernel
theorem d_mo_shade_8 : decode (q_cc m_mo_shade) 8 = .ok (.iconst (-1), 1) := by decide +kernel
theorem d_mo_shade_9 : decode (q_cc m_mo_shade) 9 = .ok (.ireturn, 1) := by decide +kernel
theorem d_mo_shade_10 : decode (q_cc m_mo_shade) 10 = .ok (.aload_n 0, 1) := by decide +kernel
theorem d_mo_shade_11 : decode (q_cc m_mo_shade) 11 = .ok (.iload_n 1, 1) := by decide +kernel
theorem d_mo_shade_12 : decode (q_cc m_mo_shade) 12 = .ok (.invokevirtual 440, 3) := by decide +kernel
theorem d_mo_shade_15 : decode (q_cc m_mo_shade) 15 = .ok (.istore_n 3, 1) := by decide +kernel
theorem d_mo_shade_16 : decode (q_cc m_mo_shade) 16 = .ok (.iconst 0, 1) := by decide +kernel
theorem d_mo_shade_17 : decode (q_cc m_mo_shade) 17 = .ok (.istore 4, 2) := by decide +kernel
theorem d_mo_shade_19 : decode (q_cc m_mo_shade) 19 = .ok (.iconst (-1), 1) := by decide +kernel
theorem d_mo_shade_20 : decode (q_cc m_mo_shade) 20 = .ok (.istore 5, 2) := by decide +kernel
theorem d_mo_shade_22 : decode (q_cc m_mo_shade) 22 = .ok (.iconst (-1), 1) := by decide +kernel
theorem d_mo_shade_23 : decode (q_cc m_mo_shade) 23 = .ok (.istore 6, 2) := by decide +kernel
theorem d_mo_shade_25 : decode (q_cc m_mo_shade) 25 = .ok (.iconst (-1), 1) := by decide +kernel
theorem d_mo_shade_26 : decode (q_cc m_mo_shade) 26 = .ok (.istore 7, 2) := by decide +kernel
theorem d_mo_shade_28 : decode (q_cc m_mo_shade) 28 = .ok (.iconst 0, 1) := by decide +kernel
theorem d_mo_shade_29 : decode (q_cc m_mo_shade) 29 = .ok (.istore 8, 2) := by decide +kernel
theorem d_mo_shade_31 : decode (q_cc m_mo_shade) 31 = .ok (.iload 8, 2) := by decide +kernel
theorem d_mo_shade_33 : decode (q_cc m_mo_shade) 33 = .ok (.aload_n 0, 1) := by decide +kernel
theorem d_mo_shade_34 : decode (q_cc m_mo_shade) 34 = .ok (.invokevirtual 328, 3) := by decide +kernel
theorem d_mo_shade_37 : decode (q_cc m_mo_shade) 37 = .ok (.if_icmp .ge 125, 3) := by decide +kernel
theorem d_mo_shade_40 : decode (q_cc m_mo_shade) 40 = .ok (.iload_n 3, 1) := by decide +kernel
theorem d_mo_shade_41 : decode (q_cc m_mo_shade) 41 = .ok (.iload 8, 2) := by decide +kernel
theorem d_mo_shade_43 : decode (q_cc m_mo_shade) 43 = .ok (.ishr, 1) := by decide +kernel
theorem d_mo_shade_44 : decode (q_cc m_mo_shade) 44 = .ok (.iconst 1, 1) := by decide +kernel
theorem d_mo_shade_45 : decode (q_cc m_mo_shade) 45 = .ok (.iand, 1) := by decide +kernel
theorem d_mo_shade_46 : decode (q_cc m_mo_shade) 46 = .ok (.ifCond .ne 6, 3) := by decide +kernel
theorem d_mo_shade_49 : decode (q_cc m_mo_shade) 49 = .ok (.goto 107, 3) := by decide +kernel
theorem d_mo_shade_52 : decode (q_cc m_mo_shade) 52 = .ok (.iload 4, 2) := by decide +kernel
theorem d_mo_shade_54 : decode (q_cc m_mo_shade) 54 = .ok (.aload_n 0, 1) := by decide +kernel
theorem d_mo_shade_55 : decode (q_cc m_mo_shade) 55 = .ok (.getfield 145, 3) := by decide +kernel
theorem d_mo_shade_58 : decode (q_cc m_mo_shade) 58 = .ok (.bipush 24, 2) := by decide +kernel
theorem d_mo_shade_60 : decode (q_cc m_mo_shade) 60 = .ok (.iload_n 1, 1) := by decide +kernel
theorem d_mo_shade_61 : decode (q_cc m_mo_shade) 61 = .ok (.imul, 1) := by decide +kernel
theorem d_mo_shade_62 : decode (q_cc m_mo_shade) 62 = .ok (.iload 8, 2) := by decide +kernel
theorem d_mo_shade_64 : decode (q_cc m_mo_shade) 64 = .ok (.iadd, 1) := by decide +kernel
theorem d_mo_shade_65 : decode (q_cc m_mo_shade) 65 = .ok (.iaload, 1) := by decide +kernel
theorem d_mo_shade_66 : decode (q_cc m_mo_shade) 66 = .ok (.iadd, 1) := by decide +kernel
theorem d_mo_shade_67 : decode (q_cc m_mo_shade) 67 = .ok (.istore 4, 2) := by decide +kernel
theorem d_mo_shade_69 : decode (q_cc m_mo_shade) 69 = .ok (.iload 5, 2) := by decide +kernel
theorem d_mo_shade_71 : decode (q_cc m_mo_shade) 71 = .ok (.iconst (-1), 1) := by decide +kernel
theorem d_mo_shade_72 : decode (q_cc m_mo_shade) 72 = .ok (.if_icmp .eq 18, 3) := by decide +kernel
theorem d_mo_shade_75 : decode (q_cc m_mo_shade) 75 = .ok (.aload_n 0, 1) := by decide +kernel
theorem d_mo_shade_76 : decode (q_cc m_mo_shade) 76 = .ok (.iload 8, 2) := by decide +kernel
theorem d_mo_shade_78 : decode (q_cc m_mo_shade) 78 = .ok (.invokevirtual 334, 3) := by decide +kernel
theorem d_mo_shade_81 : decode (q_cc m_mo_shade) 81 = .ok (.aload_n 0, 1) := by decide +kernel
theorem d_mo_shade_82 : decode (q_cc m_mo_shade) 82 = .ok (.iload 5, 2) := by decide +kernel
theorem d_mo_shade_84 : decode (q_cc m_mo_shade) 84 = .ok (.invokevirtual 334, 3) := by decide +kernel
theorem d_mo_shade_87 : decode (q_cc m_mo_shade) 87 = .ok (.if_icmp .ge 7, 3) := by decide +kernel
theorem d_mo_shade_90 : decode (q_cc m_mo_shade) 90 = .ok (.iload 8, 2) := by decide +kernel
theorem d_mo_shade_92 : decode (q_cc m_mo_shade) 92 = .ok (.istore 5, 2) := by decide +kernel
theorem d_mo_shade_94 : decode (q_cc m_mo_shade) 94 = .ok (.iload 6, 2) := by decide +kernel
theorem d_mo_shade_96 : decode (q_cc m_mo_shade) 96 = .ok (.iconst (-1), 1) := by decide +kernel
theorem d_mo_shade_97 : decode (q_cc m_mo_shade) 97 = .ok (.if_icmp .eq 18, 3) := by decide +kernel
theorem d_mo_shade_100 : decode (q_cc m_mo_shade) 100 = .ok (.aload_n 0, 1) := by decide +kernel
theorem d_mo_shade_101 : decode (q_cc m_mo_shade) 101 = .ok (.iload 8, 2) := by decide +kernel
theorem d_mo_shade_103 : decode (q_cc m_mo_shade) 103 = .ok (.invokevirtual 334, 3) := by decide +kernel
theorem d_mo_shade_106 : decode (q_cc m_mo_shade) 106 = .ok (.aload_n 0, 1) := by decide +kernel
theorem d_mo_shade_107 : decode (q_cc m_mo_shade) 107 = .ok (.iload 6, 2) := by decide +kernel
theorem d_mo_shade_109 : decode (q_cc m_mo_shade) 109 = .ok (.invokevirtual 334, 3) := by decide +kernel
theorem d_mo_shade_112 : decode (q_cc m_mo_shade) 112 = .ok (.if_icmp .le 7, 3) := by decide +kernel
theorem d_mo_shade_115 : decode (q_cc m_mo_shade) 115 = .ok (.iload 8, 2) := by decide +kernel
theorem d_mo_shade_117 : decode (q_cc m_mo_shade) 117 = .ok (.istore 6, 2) := by decide +kernel
theorem d_mo_shade_119 : decode (q_cc m_mo_shade) 119 = .ok (.iload 7, 2) := by decide +kernel
theorem d_mo_shade_121 : decode (q_cc m_mo_shade) 121 = .ok (.iconst (-1), 1) := by decide +kernel
theorem d_mo_shade_122 : decode (q_cc m_mo_shade) 122 = .ok (.if_icmp .eq 20, 3) := by decide +kernel
theorem d_mo_shade_125 : decode (q_cc m_mo_shade) 125 = .ok (.aload_n 0, 1) := by decide +kernel
theorem d_mo_shade_126 : decode (q_cc m_mo_shade) 126 = .ok (.getfield 142, 3) := by decide +kernel
theorem d_mo_shade_129 : decode (q_cc m_mo_shade) 129 = .ok (.bipush 24, 2) := by decide +kernel
theorem d_mo_shade_131 : decode (q_cc m_mo_shade) 131 = .ok (.iload_n 1, 1) := by decide +kernel
theorem d_mo_shade_132 : decode (q_cc m_mo_shade) 132 = .ok (.imul, 1) := by decide +kernel
theorem d_mo_shade_133 : decode (q_cc m_mo_shade) 133 = .ok (.iload 8, 2) := by decide +kernel
theorem d_mo_shade_135 : decode (q_cc m_mo_shade) 135 = .ok (.iadd, 1) := by decide +kernel
theorem d_mo_shade_136 : decode (q_cc m_mo_shade) 136 = .ok (.iaload, 1) := by decide +kernel
theorem d_mo_shade_137 : decode (q_cc m_mo_shade) 137 = .ok (.iload 7, 2) := by decide +kernel
theorem d_mo_shade_139 : decode (q_cc m_mo_shade) 139 = .ok (.if_icmp .ge 17, 3) := by decide +kernel
theorem d_mo_shade_142 : decode (q_cc m_mo_shade) 142 = .ok (.aload_n 0, 1) := by decide +kernel
theorem d_mo_shade_143 : decode (q_cc m_mo_shade) 143 = .ok (.getfield 142, 3) := by decide +kernel
theorem d_mo_shade_146 : decode (q_cc m_mo_shade) 146 = .ok (.bipush 24, 2) := by decide +kernel
theorem d_mo_shade_148 : decode (q_cc m_mo_shade) 148 = .ok (.iload_n 1, 1) := by decide +kernel
theorem d_mo_shade_149 : decode (q_cc m_mo_shade) 149 = .ok (.imul, 1) := by decide +kernel
theorem d_mo_shade_150 : decode (q_cc m_mo_shade) 150 = .ok (.iload 8, 2) := by decide +kernel
theorem d_mo_shade_152 : decode (q_cc m_mo_shade) 152 = .ok (.iadd, 1) := by decide +kernel
theorem d_mo_shade_153 : decode (q_cc m_mo_shade) 153 = .ok (.iaload, 1) := by decide +kernel
theorem d_mo_shade_154 : decode (q_cc m_mo_shade) 154 = .ok (.istore 7, 2) := by decide +kernel
theorem d_mo_shade_156 : decode (q_cc m_mo_shade) 156 = .ok (.iinc 8 1, 3) := by decide +kernel
theorem d_mo_shade_159 : decode (q_cc m_mo_shade) 159 = .ok (.goto (-128), 3) := by decide +kernel
theorem d_mo_shade_162 : decode (q_cc m_mo_shade) 162 = .ok (.iload_n 2, 1) := by decide +kernel
theorem d_mo_shade_163 : decode (q_cc m_mo_shade) 163 = .ok (.tableswitch 71 0 4 #[33, 38, 41, 44, 68], 33) := by decide +kernel
theorem d_mo_shade_196 : decode (q_cc m_mo_shade) 196 = .ok (.iload_n 3, 1) := by decide +kernel
theorem d_mo_shade_197 : decode (q_cc m_mo_shade) 197 = .ok (.invokestatic 443, 3) := by decide +kernel
theorem d_mo_shade_200 : decode (q_cc m_mo_shade) 200 = .ok (.ireturn, 1) := by decide +kernel
theorem d_mo_shade_201 : decode (q_cc m_mo_shade) 201 = .ok (.iload 4, 2) := by decide +kernel
theorem d_mo_shade_203 : decode (q_cc m_mo_shade) 203 = .ok (.ireturn, 1) := by decide +kernel
theorem d_mo_shade_204 : decode (q_cc m_mo_shade) 204 = .ok (.iload 5, 2) := by decide +kernel
theorem d_mo_shade_206 : decode (q_cc m_mo_shade) 206 = .ok (.ireturn, 1) := by decide +kernel
theorem d_mo_shade_207 : decode (q_cc m_mo_shade) 207 = .ok (.iload 5, 2) := by decide +kernel
theorem d_mo_shade_209 : decode (q_cc m_mo_shade) 209 = .ok (.iconst (-1), 1) := by decide +kernel
theorem d_mo_shade_210 : decode (q_cc m_mo_shade) 210 = .ok (.if_icmp .ne 7, 3) := by decide +kernel
theorem d_mo_shade_213 : decode (q_cc m_mo_shade) 213 = .ok (.iconst 0, 1) := by decide +kernel
theorem d_mo_shade_214 : decode (q_cc m_mo_shade) 214 = .ok (.goto 16, 3) := by decide +kernel
theorem d_mo_shade_217 : decode (q_cc m_mo_shade) 217 = .ok (.aload_n 0, 1) := by decide +kernel
theorem d_mo_shade_218 : decode (q_cc m_mo_shade) 218 = .ok (.iload 6, 2) := by decide +kernel
theorem d_mo_shade_220 : decode (q_cc m_mo_shade) 220 = .ok (.invokevirtual 334, 3) := by decide +kernel
theorem d_mo_shade_223 : decode (q_cc m_mo_shade) 223 = .ok (.aload_n 0, 1) := by decide +kernel
theorem d_mo_shade_224 : decode (q_cc m_mo_shade) 224 = .ok (.iload 5, 2) := by decide +kernel
theorem d_mo_shade_226 : decode (q_cc m_mo_shade) 226 = .ok (.invokevirtual 334, 3) := by decide +kernel
theorem d_mo_shade_229 : decode (q_cc m_mo_shade) 229 = .ok (.isub, 1) := by decide +kernel
theorem d_mo_shade_230 : decode (q_cc m_mo_shade) 230 = .ok (.ireturn, 1) := by decide +kernel
theorem d_mo_shade_231 : decode (q_cc m_mo_shade) 231 = .ok (.iload 7, 2) := by decide +kernel
theorem d_mo_shade_233 : decode (q_cc m_mo_shade) 233 = .ok (.ireturn, 1) := by decide +kernel
theorem d_mo_shade_234 : decode (q_cc m_mo_shade) 234 = .ok (.iconst (-1), 1) := by decide +kernel
theorem d_mo_shade_235 : decode (q_cc m_mo_shade) 235 = .ok (.ireturn, 1) := by decide +kernel
theorem d_mo_seed_0 : decode (q_cc m_mo_seed) 0 = .ok (.iload_n 1, 1) := by decide +kernel
theorem d_mo_seed_1 : decode (q_cc m_mo_seed) 1 = .ok (.ifCond .ge 5, 3) := by decide +kernel
theorem d_mo_seed_4 : decode (q_cc m_mo_seed) 4 = .ok (.iconst 0, 1) := by decide +kernel
theorem d_mo_seed_5 : decode (q_cc m_mo_seed) 5 = .ok (.ireturn, 1) := by decide +kernel
theorem d_mo_seed_6 : decode (q_cc m_mo_seed) 6 = .ok (.aload_n 0, 1) := by decide +kernel
theorem d_mo_seed_7 : decode (q_cc m_mo_seed) 7 = .ok (.iload_n 1, 1) := by decide +kernel
theorem d_mo_seed_8 : decode (q_cc m_mo_seed) 8 = .ok (.i2l, 1) := by decide +kernel
theorem d_mo_seed_9 : decode (q_cc m_mo_seed) 9 = .ok (.putfield 175, 3) := by decide +kernel
theorem d_mo_seed_12 : decode (q_cc m_mo_seed) 12 = .ok (.iconst 1, 1) := by decide +kernel
theorem d_mo_seed_13 : decode (q_cc m_mo_seed) 13 = .ok (.ireturn, 1) := by decide +kernel
theorem d_mo_drawOf_0 : decode (q_cc m_mo_drawOf) 0 = .ok (.aload_n 0, 1) := by decide +kernel
theorem d_mo_drawOf_1 : decode (q_cc m_mo_drawOf) 1 = .ok (.ldc2_w 515, 3) := by decide +kernel
theorem d_mo_drawOf_4 : decode (q_cc m_mo_drawOf) 4 = .ok (.aload_n 0, 1) := by decide +kernel
theorem d_mo_drawOf_5 : decode (q_cc m_mo_drawOf) 5 = .ok (.getfield 175, 3) := by decide +kernel
theorem d_mo_drawOf_8 : decode (q_cc m_mo_drawOf) 8 = .ok (.lmul, 1) := by decide +kernel
theorem d_mo_drawOf_9 : decode (q_cc m_mo_drawOf) 9 = .ok (.ldc2_w 517, 3) := by decide +kernel
theorem d_mo_drawOf_12 : decode (q_cc m_mo_drawOf) 12 = .ok (.ladd, 1) := by decide +kernel
theorem d_mo_drawOf_13 : decode (q_cc m_mo_drawOf) 13 = .ok (.ldc2_w 519, 3) := by decide +kernel
theorem d_mo_drawOf_16 : decode (q_cc m_mo_drawOf) 16 = .ok (.lrem, 1) := by decide +kernel
theorem d_mo_drawOf_17 : decode (q_cc m_mo_drawOf) 17 = .ok (.putfield 175, 3) := by decide +kernel
theorem d_mo_drawOf_20 : decode (q_cc m_mo_drawOf) 20 = .ok (.aload_n 0, 1) := by decide +kernel
theorem d_mo_drawOf_21 : decode (q_cc m_mo_drawOf) 21 = .ok (.getfield 175, 3) := by decide +kernel
theorem d_mo_drawOf_24 : decode (q_cc m_mo_drawOf) 24 = .ok (.ldc2_w 521, 3) := by decide +kernel
theorem d_mo_drawOf_27 : decode (q_cc m_mo_drawOf) 27 = .ok (.ldiv, 1) := by decide +kernel
theorem d_mo_drawOf_28 : decode (q_cc m_mo_drawOf) 28 = .ok (.iload_n 1, 1) := by decide +kernel
theorem d_mo_drawOf_29 : decode (q_cc m_mo_drawOf) 29 = .ok (.i2l, 1) := by decide +kernel
theorem d_mo_drawOf_30 : decode (q_cc m_mo_drawOf) 30 = .ok (.lrem, 1) := by decide +kernel
theorem d_mo_drawOf_31 : decode (q_cc m_mo_drawOf) 31 = .ok (.l2i, 1) := by decide +kernel
theorem d_mo_drawOf_32 : decode (q_cc m_mo_drawOf) 32 = .ok (.ireturn, 1) := by decide +kernel
theorem d_mo_priceAt_0 : decode (q_cc m_mo_priceAt) 0 = .ok (.aload_n 0, 1) := by decide +kernel
theorem d_mo_priceAt_1 : decode (q_cc m_mo_priceAt) 1 = .ok (.getfield 145, 3) := by decide +kernel
theorem d_mo_priceAt_4 : decode (q_cc m_mo_priceAt) 4 = .ok (.bipush 24, 2) := by decide +kernel
theorem d_mo_priceAt_6 : decode (q_cc m_mo_priceAt) 6 = .ok (.aload_n 0, 1) := by decide +kernel
theorem d_mo_priceAt_7 : decode (q_cc m_mo_priceAt) 7 = .ok (.getfield 148, 3) := by decide +kernel
theorem d_mo_priceAt_10 : decode (q_cc m_mo_priceAt) 10 = .ok (.iload_n 1, 1) := by decide +kernel
theorem d_mo_priceAt_11 : decode (q_cc m_mo_priceAt) 11 = .ok (.iaload, 1) := by decide +kernel
theorem d_mo_priceAt_12 : decode (q_cc m_mo_priceAt) 12 = .ok (.imul, 1) := by decide +kernel
theorem d_mo_priceAt_13 : decode (q_cc m_mo_priceAt) 13 = .ok (.iload_n 1, 1) := by decide +kernel
theorem d_mo_priceAt_14 : decode (q_cc m_mo_priceAt) 14 = .ok (.iadd, 1) := by decide +kernel
theorem d_mo_priceAt_15 : decode (q_cc m_mo_priceAt) 15 = .ok (.iaload, 1) := by decide +kernel
theorem d_mo_priceAt_16 : decode (q_cc m_mo_priceAt) 16 = .ok (.ireturn, 1) := by decide +kernel
theorem d_mo_days_0 : decode (q_cc m_mo_days) 0 = .ok (.iload_n 1, 1) := by decide +kernel
theorem d_mo_days_1 : decode (q_cc m_mo_days) 1 = .ok (.i2l, 1) := by decide +kernel
theorem d_mo_days_2 : decode (q_cc m_mo_days) 2 = .ok (.lconst 1, 1) := by decide +kernel
theorem d_mo_days_3 : decode (q_cc m_mo_days) 3 = .ok (.ldc2_w 523, 3) := by decide +kernel
theorem d_mo_days_6 : decode (q_cc m_mo_days) 6 = .ok (.invokestatic 225, 3) := by decide +kernel
theorem d_mo_days_9 : decode (q_cc m_mo_days) 9 = .ok (.ifCond .eq 13, 3) := by decide +kernel
theorem d_mo_days_12 : decode (q_cc m_mo_days) 12 = .ok (.iload_n 2, 1) := by decide +kernel
theorem d_mo_days_13 : decode (q_cc m_mo_days) 13 = .ok (.i2l, 1) := by decide +kernel
theorem d_mo_days_14 : decode (q_cc m_mo_days) 14 = .ok (.lconst 0, 1) := by decide +kernel
theorem d_mo_days_15 : decode (q_cc m_mo_days) 15 = .ok (.lconst 1, 1) := by decide +kernel
theorem d_mo_days_16 : decode (q_cc m_mo_days) 16 = .ok (.invokestatic 225, 3) := by decide +kernel
theorem d_mo_days_19 : decode (q_cc m_mo_days) 19 = .ok (.ifCond .ne 7, 3) := by decide +kernel
theorem d_mo_days_22 : decode (q_cc m_mo_days) 22 = .ok (.ldc_w 525, 3) := by decide +kernel
theorem d_mo_days_25 : decode (q_cc m_mo_days) 25 = .ok (.ireturn, 1) := by decide +kernel
theorem d_mo_days_26 : decode (q_cc m_mo_days) 26 = .ok (.iconst 0, 1) := by decide +kernel
theorem d_mo_days_27 : decode (q_cc m_mo_days) 27 = .ok (.istore_n 3, 1) := by decide +kernel
theorem d_mo_days_28 : decode (q_cc m_mo_days) 28 = .ok (.iconst 0, 1) := by decide +kernel
theorem d_mo_days_29 : decode (q_cc m_mo_days) 29 = .ok (.istore 4, 2) := by decide +kernel
theorem d_mo_days_31 : decode (q_cc m_mo_days) 31 = .ok (.iconst 0, 1) := by decide +kernel
theorem d_mo_days_32 : decode (q_cc m_mo_days) 32 = .ok (.istore 5, 2) := by decide +kernel
theorem d_mo_days_34 : decode (q_cc m_mo_days) 34 = .ok (.iload 5, 2) := by decide +kernel
theorem d_mo_days_36 : decode (q_cc m_mo_days) 36 = .ok (.iload_n 1, 1) := by decide +kernel
theorem d_mo_days_37 : decode (q_cc m_mo_days) 37 = .ok (.if_icmp .ge 101, 3) := by decide +kernel
theorem d_mo_days_40 : decode (q_cc m_mo_days) 40 = .ok (.iconst 0, 1) := by decide +kernel
theorem d_mo_days_41 : decode (q_cc m_mo_days) 41 = .ok (.istore 6, 2) := by decide +kernel
theorem d_mo_days_43 : decode (q_cc m_mo_days) 43 = .ok (.iload 6, 2) := by decide +kernel
theorem d_mo_days_45 : decode (q_cc m_mo_days) 45 = .ok (.aload_n 0, 1) := by decide +kernel
theorem d_mo_days_46 : decode (q_cc m_mo_days) 46 = .ok (.invokevirtual 328, 3) := by decide +kernel
theorem d_mo_days_49 : decode (q_cc m_mo_days) 49 = .ok (.if_icmp .ge 83, 3) := by decide +kernel
theorem d_mo_days_52 : decode (q_cc m_mo_days) 52 = .ok (.aload_n 0, 1) := by decide +kernel
theorem d_mo_days_53 : decode (q_cc m_mo_days) 53 = .ok (.getfield 148, 3) := by decide +kernel
theorem d_mo_days_56 : decode (q_cc m_mo_days) 56 = .ok (.iload 6, 2) := by decide +kernel
theorem d_mo_days_58 : decode (q_cc m_mo_days) 58 = .ok (.iaload, 1) := by decide +kernel
theorem d_mo_days_59 : decode (q_cc m_mo_days) 59 = .ok (.iconst (-1), 1) := by decide +kernel
theorem d_mo_days_60 : decode (q_cc m_mo_days) 60 = .ok (.if_icmp .ne 6, 3) := by decide +kernel
theorem d_mo_days_63 : decode (q_cc m_mo_days) 63 = .ok (.goto 63, 3) := by decide +kernel
theorem d_mo_days_66 : decode (q_cc m_mo_days) 66 = .ok (.aload_n 0, 1) := by decide +kernel
theorem d_mo_days_67 : decode (q_cc m_mo_days) 67 = .ok (.sipush 1000, 3) := by decide +kernel
theorem d_mo_days_70 : decode (q_cc m_mo_days) 70 = .ok (.invokevirtual 526, 3) := by decide +kernel
theorem d_mo_days_73 : decode (q_cc m_mo_days) 73 = .ok (.aload_n 0, 1) := by decide +kernel
theorem d_mo_days_74 : decode (q_cc m_mo_days) 74 = .ok (.getfield 142, 3) := by decide +kernel
theorem d_mo_days_77 : decode (q_cc m_mo_days) 77 = .ok (.bipush 24, 2) := by decide +kernel
theorem d_mo_days_79 : decode (q_cc m_mo_days) 79 = .ok (.aload_n 0, 1) := by decide +kernel
theorem d_mo_days_80 : decode (q_cc m_mo_days) 80 = .ok (.getfield 148, 3) := by decide +kernel
theorem d_mo_days_83 : decode (q_cc m_mo_days) 83 = .ok (.iload 6, 2) := by decide +kernel
theorem d_mo_days_85 : decode (q_cc m_mo_days) 85 = .ok (.iaload, 1) := by decide +kernel
theorem d_mo_days_86 : decode (q_cc m_mo_days) 86 = .ok (.imul, 1) := by decide +kernel
theorem d_mo_days_87 : decode (q_cc m_mo_days) 87 = .ok (.iload 6, 2) := by decide +kernel
theorem d_mo_days_89 : decode (q_cc m_mo_days) 89 = .ok (.iadd, 1) := by decide +kernel
theorem d_mo_days_90 : decode (q_cc m_mo_days) 90 = .ok (.iaload, 1) := by decide +kernel
theorem d_mo_days_91 : decode (q_cc m_mo_days) 91 = .ok (.if_icmp .ge 23, 3) := by decide +kernel
theorem d_mo_days_94 : decode (q_cc m_mo_days) 94 = .ok (.iload_n 3, 1) := by decide +kernel
theorem d_mo_days_95 : decode (q_cc m_mo_days) 95 = .ok (.aload_n 0, 1) := by decide +kernel
theorem d_mo_days_96 : decode (q_cc m_mo_days) 96 = .ok (.iload 6, 2) := by decide +kernel
theorem d_mo_days_98 : decode (q_cc m_mo_days) 98 = .ok (.invokevirtual 529, 3) := by decide +kernel
theorem d_mo_days_101 : decode (q_cc m_mo_days) 101 = .ok (.aload_n 0, 1) := by decide +kernel
theorem d_mo_days_102 : decode (q_cc m_mo_days) 102 = .ok (.getfield 325, 3) := by decide +kernel
theorem d_mo_days_105 : decode (q_cc m_mo_days) 105 = .ok (.imul, 1) := by decide +kernel
theorem d_mo_days_106 : decode (q_cc m_mo_days) 106 = .ok (.bipush 100, 2) := by decide +kernel
theorem d_mo_days_108 : decode (q_cc m_mo_days) 108 = .ok (.idiv, 1) := by decide +kernel
theorem d_mo_days_109 : decode (q_cc m_mo_days) 109 = .ok (.iadd, 1) := by decide +kernel
theorem d_mo_days_110 : decode (q_cc m_mo_days) 110 = .ok (.istore_n 3, 1) := by decide +kernel
theorem d_mo_days_111 : decode (q_cc m_mo_days) 111 = .ok (.goto 15, 3) := by decide +kernel
theorem d_mo_days_114 : decode (q_cc m_mo_days) 114 = .ok (.iload_n 3, 1) := by decide +kernel
theorem d_mo_days_115 : decode (q_cc m_mo_days) 115 = .ok (.aload_n 0, 1) := by decide +kernel
theorem d_mo_days_116 : decode (q_cc m_mo_days) 116 = .ok (.iload 6, 2) := by decide +kernel
theorem d_mo_days_118 : decode (q_cc m_mo_days) 118 = .ok (.invokevirtual 529, 3) := by decide +kernel
theorem d_mo_days_121 : decode (q_cc m_mo_days) 121 = .ok (.isub, 1) := by decide +kernel
theorem d_mo_days_122 : decode (q_cc m_mo_days) 122 = .ok (.istore_n 3, 1) := by decide +kernel
theorem d_mo_days_123 : decode (q_cc m_mo_days) 123 = .ok (.iinc 4 1, 3) := by decide +kernel
theorem d_mo_days_126 : decode (q_cc m_mo_days) 126 = .ok (.iinc 6 1, 3) := by decide +kernel
theorem d_mo_days_129 : decode (q_cc m_mo_days) 129 = .ok (.goto (-86), 3) := by decide +kernel
theorem d_mo_days_132 : decode (q_cc m_mo_days) 132 = .ok (.iinc 5 1, 3) := by decide +kernel
theorem d_mo_days_135 : decode (q_cc m_mo_days) 135 = .ok (.goto (-101), 3) := by decide +kernel
theorem d_mo_days_138 : decode (q_cc m_mo_days) 138 = .ok (.iload_n 2, 1) := by decide +kernel
theorem d_mo_days_139 : decode (q_cc m_mo_days) 139 = .ok (.ifCond .ne 7, 3) := by decide +kernel
theorem d_mo_days_142 : decode (q_cc m_mo_days) 142 = .ok (.iload_n 3, 1) := by decide +kernel
theorem d_mo_days_143 : decode (q_cc m_mo_days) 143 = .ok (.goto 5, 3) := by decide +kernel
theorem d_mo_days_146 : decode (q_cc m_mo_days) 146 = .ok (.iload 4, 2) := by decide +kernel
theorem d_mo_days_148 : decode (q_cc m_mo_days) 148 = .ok (.ireturn, 1) := by decide +kernel
theorem d_mo_average_0 : decode (q_cc m_mo_average) 0 = .ok (.iconst 0, 1) := by decide +kernel
theorem d_mo_average_1 : decode (q_cc m_mo_average) 1 = .ok (.istore_n 1, 1) := by decide +kernel
theorem d_mo_average_2 : decode (q_cc m_mo_average) 2 = .ok (.iconst 0, 1) := by decide +kernel
theorem d_mo_average_3 : decode (q_cc m_mo_average) 3 = .ok (.istore_n 2, 1) := by decide +kernel
theorem d_mo_average_4 : decode (q_cc m_mo_average) 4 = .ok (.iload_n 2, 1) := by decide +kernel
theorem d_mo_average_5 : decode (q_cc m_mo_average) 5 = .ok (.aload_n 0, 1) := by decide +kernel
theorem d_mo_average_6 : decode (q_cc m_mo_average) 6 = .ok (.invokevirtual 328, 3) := by decide +kernel
theorem d_mo_average_9 : decode (q_cc m_mo_average) 9 = .ok (.if_icmp .ge 69, 3) := by decide +kernel
theorem d_mo_average_12 : decode (q_cc m_mo_average) 12 = .ok (.aload_n 0, 1) := by decide +kernel
theorem d_mo_average_13 : decode (q_cc m_mo_average) 13 = .ok (.getfield 148, 3) := by decide +kernel
theorem d_mo_average_16 : decode (q_cc m_mo_average) 16 = .ok (.iload_n 2, 1) := by decide +kernel
theorem d_mo_average_17 : decode (q_cc m_mo_average) 17 = .ok (.iaload, 1) := by decide +kernel
theorem d_mo_average_18 : decode (q_cc m_mo_average) 18 = .ok (.iconst (-1), 1) := by decide +kernel
theorem d_mo_average_19 : decode (q_cc m_mo_average) 19 = .ok (.if_icmp .ne 6, 3) := by decide +kernel
theorem d_mo_average_22 : decode (q_cc m_mo_average) 22 = .ok (.goto 50, 3) := by decide +kernel
theorem d_mo_average_25 : decode (q_cc m_mo_average) 25 = .ok (.aload_n 0, 1) := by decide +kernel
theorem d_mo_average_26 : decode (q_cc m_mo_average) 26 = .ok (.getfield 142, 3) := by decide +kernel
theorem d_mo_average_29 : decode (q_cc m_mo_average) 29 = .ok (.bipush 24, 2) := by decide +kernel
theorem d_mo_average_31 : decode (q_cc m_mo_average) 31 = .ok (.aload_n 0, 1) := by decide +kernel
theorem d_mo_average_32 : decode (q_cc m_mo_average) 32 = .ok (.getfield 148, 3) := by decide +kernel
theorem d_mo_average_35 : decode (q_cc m_mo_average) 35 = .ok (.iload_n 2, 1) := by decide +kernel
theorem d_mo_average_36 : decode (q_cc m_mo_average) 36 = .ok (.iaload, 1) := by decide +kernel
theorem d_mo_average_37 : decode (q_cc m_mo_average) 37 = .ok (.imul, 1) := by decide +kernel
theorem d_mo_average_38 : decode (q_cc m_mo_average) 38 = .ok (.iload_n 2, 1) := by decide +kernel
theorem d_mo_average_39 : decode (q_cc m_mo_average) 39 = .ok (.iadd, 1) := by decide +kernel
theorem d_mo_average_40 : decode (q_cc m_mo_average) 40 = .ok (.iaload, 1) := by decide +kernel
theorem d_mo_average_41 : decode (q_cc m_mo_average) 41 = .ok (.istore_n 3, 1) := by decide +kernel
theorem d_mo_average_42 : decode (q_cc m_mo_average) 42 = .ok (.iload_n 1, 1) := by decide +kernel
theorem d_mo_average_43 : decode (q_cc m_mo_average) 43 = .ok (.aload_n 0, 1) := by decide +kernel
theorem d_mo_average_44 : decode (q_cc m_mo_average) 44 = .ok (.iload_n 2, 1) := by decide +kernel
theorem d_mo_average_45 : decode (q_cc m_mo_average) 45 = .ok (.invokevirtual 529, 3) := by decide +kernel
theorem d_mo_average_48 : decode (q_cc m_mo_average) 48 = .ok (.aload_n 0, 1) := by decide +kernel
theorem d_mo_average_49 : decode (q_cc m_mo_average) 49 = .ok (.getfield 325, 3) := by decide +kernel
theorem d_mo_average_52 : decode (q_cc m_mo_average) 52 = .ok (.imul, 1) := by decide +kernel
theorem d_mo_average_53 : decode (q_cc m_mo_average) 53 = .ok (.bipush 100, 2) := by decide +kernel
theorem d_mo_average_55 : decode (q_cc m_mo_average) 55 = .ok (.idiv, 1) := by decide +kernel
theorem d_mo_average_56 : decode (q_cc m_mo_average) 56 = .ok (.iload_n 3, 1) := by decide +kernel
theorem d_mo_average_57 : decode (q_cc m_mo_average) 57 = .ok (.imul, 1) := by decide +kernel
theorem d_mo_average_58 : decode (q_cc m_mo_average) 58 = .ok (.aload_n 0, 1) := by decide +kernel
theorem d_mo_average_59 : decode (q_cc m_mo_average) 59 = .ok (.iload_n 2, 1) := by decide +kernel
theorem d_mo_average_60 : decode (q_cc m_mo_average) 60 = .ok (.invokevirtual 529, 3) := by decide +kernel
theorem d_mo_average_63 : decode (q_cc m_mo_average) 63 = .ok (.sipush 1000, 3) := by decide +kernel
theorem d_mo_average_66 : decode (q_cc m_mo_average) 66 = .ok (.iload_n 3, 1) := by decide +kernel
theorem d_mo_average_67 : decode (q_cc m_mo_average) 67 = .ok (.isub, 1) := by decide +kernel
theorem d_mo_average_68 : decode (q_cc m_mo_average) 68 = .ok (.imul, 1) := by decide +kernel
theorem d_mo_average_69 : decode (q_cc m_mo_average) 69 = .ok (.isub, 1) := by decide +kernel
theorem d_mo_average_70 : decode (q_cc m_mo_average) 70 = .ok (.iadd, 1) := by decide +kernel
theorem d_mo_average_71 : decode (q_cc m_mo_average) 71 = .ok (.istore_n 1, 1) := by decide +kernel
theorem d_mo_average_72 : decode (q_cc m_mo_average) 72 = .ok (.iinc 2 1, 3) := by decide +kernel
theorem d_mo_average_75 : decode (q_cc m_mo_average) 75 = .ok (.goto (-71), 3) := by decide +kernel
theorem d_mo_average_78 : decode (q_cc m_mo_average) 78 = .ok (.iload_n 1, 1) := by decide +kernel
theorem d_mo_average_79 : decode (q_cc m_mo_average) 79 = .ok (.ireturn, 1) := by decide +kernel
theorem d_mo_checked_0 : decode (q_cc m_mo_checked) 0 = .ok (.bipush 73, 2) := by decide +kernel
theorem d_mo_checked_2 : decode (q_cc m_mo_checked) 2 = .ok (.istore_n 2, 1) := by decide +kernel
theorem d_mo_checked_3 : decode (q_cc m_mo_checked) 3 = .ok (.iconst 0, 1) := by decide +kernel
theorem d_mo_checked_4 : decode (q_cc m_mo_checked) 4 = .ok (.istore_n 3, 1) := by decide +kernel
theorem d_mo_checked_5 : decode (q_cc m_mo_checked) 5 = .ok (.iload_n 3, 1) := by decide +kernel
theorem d_mo_checked_6 : decode (q_cc m_mo_checked) 6 = .ok (.iload_n 1, 1) := by decide +kernel
theorem d_mo_checked_7 : decode (q_cc m_mo_checked) 7 = .ok (.if_icmp .ge 22, 3) := by decide +kernel
theorem d_mo_checked_10 : decode (q_cc m_mo_checked) 10 = .ok (.bipush 7, 2) := by decide +kernel
theorem d_mo_checked_12 : decode (q_cc m_mo_checked) 12 = .ok (.iload_n 2, 1) := by decide +kernel
theorem d_mo_checked_13 : decode (q_cc m_mo_checked) 13 = .ok (.imul, 1) := by decide +kernel
theorem d_mo_checked_14 : decode (q_cc m_mo_checked) 14 = .ok (.aload_n 0, 1) := by decide +kernel
theorem d_mo_checked_15 : decode (q_cc m_mo_checked) 15 = .ok (.iload_n 3, 1) := by decide +kernel
theorem d_mo_checked_16 : decode (q_cc m_mo_checked) 16 = .ok (.iaload, 1) := by decide +kernel
theorem d_mo_checked_17 : decode (q_cc m_mo_checked) 17 = .ok (.iadd, 1) := by decide +kernel
theorem d_mo_checked_18 : decode (q_cc m_mo_checked) 18 = .ok (.sipush 251, 3) := by decide +kernel
theorem d_mo_checked_21 : decode (q_cc m_mo_checked) 21 = .ok (.irem, 1) := by decide +kernel
theorem d_mo_checked_22 : decode (q_cc m_mo_checked) 22 = .ok (.istore_n 2, 1) := by decide +kernel
theorem d_mo_checked_23 : decode (q_cc m_mo_checked) 23 = .ok (.iinc 3 1, 3) := by decide +kernel
theorem d_mo_checked_26 : decode (q_cc m_mo_checked) 26 = .ok (.goto (-21), 3) := by decide +kernel
theorem d_mo_checked_29 : decode (q_cc m_mo_checked) 29 = .ok (.iload_n 2, 1) := by decide +kernel
theorem d_mo_checked_30 : decode (q_cc m_mo_checked) 30 = .ok (.ireturn, 1) := by decide +kernel
theorem d_mo_image_0 : decode (q_cc m_mo_image) 0 = .ok (.aload_n 0, 1) := by decide +kernel
theorem d_mo_image_1 : decode (q_cc m_mo_image) 1 = .ok (.aload_n 0, 1) := by decide +kernel
theorem d_mo_image_2 : decode (q_cc m_mo_image) 2 = .ok (.invokevirtual 328, 3) := by decide +kernel
theorem d_mo_image_5 : decode (q_cc m_mo_image) 5 = .ok (.putfield 532, 3) := by decide +kernel
theorem d_mo_image_8 : decode (q_cc m_mo_image) 8 = .ok (.iconst 0, 1) := by decide +kernel
theorem d_mo_image_9 : decode (q_cc m_mo_image) 9 = .ok (.istore_n 1, 1) := by decide +kernel
theorem d_mo_image_10 : decode (q_cc m_mo_image) 10 = .ok (.iload_n 1, 1) := by decide +kernel
theorem d_mo_image_11 : decode (q_cc m_mo_image) 11 = .ok (.aload_n 0, 1) := by decide +kernel
theorem d_mo_image_12 : decode (q_cc m_mo_image) 12 = .ok (.getfield 532, 3) := by decide +kernel
theorem d_mo_image_15 : decode (q_cc m_mo_image) 15 = .ok (.if_icmp .ge 23, 3) := by decide +kernel
theorem d_mo_image_18 : decode (q_cc m_mo_image) 18 = .ok (.aload_n 0, 1) := by decide +kernel
theorem d_mo_image_19 : decode (q_cc m_mo_image) 19 = .ok (.getfield 179, 3) := by decide +kernel
theorem d_mo_image_22 : decode (q_cc m_mo_image) 22 = .ok (.iload_n 1, 1) := by decide +kernel
theorem d_mo_image_23 : decode (q_cc m_mo_image) 23 = .ok (.aload_n 0, 1) := by decide +kernel
theorem d_mo_image_24 : decode (q_cc m_mo_image) 24 = .ok (.getfield 148, 3) := by decide +kernel
theorem d_mo_image_27 : decode (q_cc m_mo_image) 27 = .ok (.iload_n 1, 1) := by decide +kernel
theorem d_mo_image_28 : decode (q_cc m_mo_image) 28 = .ok (.iaload, 1) := by decide +kernel
theorem d_mo_image_29 : decode (q_cc m_mo_image) 29 = .ok (.iconst 1, 1) := by decide +kernel
theorem d_mo_image_30 : decode (q_cc m_mo_image) 30 = .ok (.iadd, 1) := by decide +kernel
theorem d_mo_image_31 : decode (q_cc m_mo_image) 31 = .ok (.iastore, 1) := by decide +kernel
theorem d_mo_image_32 : decode (q_cc m_mo_image) 32 = .ok (.iinc 1 1, 3) := by decide +kernel
theorem d_mo_image_35 : decode (q_cc m_mo_image) 35 = .ok (.goto (-25), 3) := by decide +kernel
theorem d_mo_image_38 : decode (q_cc m_mo_image) 38 = .ok (.aload_n 0, 1) := by decide +kernel
theorem d_mo_image_39 : decode (q_cc m_mo_image) 39 = .ok (.getfield 179, 3) := by decide +kernel
theorem d_mo_image_42 : decode (q_cc m_mo_image) 42 = .ok (.aload_n 0, 1) := by decide +kernel
theorem d_mo_image_43 : decode (q_cc m_mo_image) 43 = .ok (.getfield 532, 3) := by decide +kernel
theorem d_mo_image_46 : decode (q_cc m_mo_image) 46 = .ok (.aload_n 0, 1) := by decide +kernel
theorem d_mo_image_47 : decode (q_cc m_mo_image) 47 = .ok (.getfield 179, 3) := by decide +kernel
theorem d_mo_image_50 : decode (q_cc m_mo_image) 50 = .ok (.aload_n 0, 1) := by decide +kernel
theorem d_mo_image_51 : decode (q_cc m_mo_image) 51 = .ok (.getfield 532, 3) := by decide +kernel
theorem d_mo_image_54 : decode (q_cc m_mo_image) 54 = .ok (.invokestatic 535, 3) := by decide +kernel
theorem d_mo_image_57 : decode (q_cc m_mo_image) 57 = .ok (.iastore, 1) := by decide +kernel
theorem d_mo_image_58 : decode (q_cc m_mo_image) 58 = .ok (.aload_n 0, 1) := by decide +kernel
theorem d_mo_image_59 : decode (q_cc m_mo_image) 59 = .ok (.dup, 1) := by decide +kernel
theorem d_mo_image_60 : decode (q_cc m_mo_image) 60 = .ok (.getfield 532, 3) := by decide +kernel
theorem d_mo_image_63 : decode (q_cc m_mo_image) 63 = .ok (.iconst 1, 1) := by decide +kernel
theorem d_mo_image_64 : decode (q_cc m_mo_image) 64 = .ok (.iadd, 1) := by decide +kernel
theorem d_mo_image_65 : decode (q_cc m_mo_image) 65 = .ok (.putfield 532, 3) := by decide +kernel
theorem d_mo_image_68 : decode (q_cc m_mo_image) 68 = .ok (.aload_n 0, 1) := by decide +kernel
theorem d_mo_image_69 : decode (q_cc m_mo_image) 69 = .ok (.getfield 532, 3) := by decide +kernel
theorem d_mo_image_72 : decode (q_cc m_mo_image) 72 = .ok (.ireturn, 1) := by decide +kernel
theorem d_mo_octet_0 : decode (q_cc m_mo_octet) 0 = .ok (.iload_n 1, 1) := by decide +kernel
theorem d_mo_octet_1 : decode (q_cc m_mo_octet) 1 = .ok (.ifCond .lt 20, 3) := by decide +kernel
theorem d_mo_octet_4 : decode (q_cc m_mo_octet) 4 = .ok (.iload_n 1, 1) := by decide +kernel
theorem d_mo_octet_5 : decode (q_cc m_mo_octet) 5 = .ok (.aload_n 0, 1) := by decide +kernel
theorem d_mo_octet_6 : decode (q_cc m_mo_octet) 6 = .ok (.getfield 532, 3) := by decide +kernel
theorem d_mo_octet_9 : decode (q_cc m_mo_octet) 9 = .ok (.if_icmp .ge 12, 3) := by decide +kernel
theorem d_mo_octet_12 : decode (q_cc m_mo_octet) 12 = .ok (.aload_n 0, 1) := by decide +kernel
theorem d_mo_octet_13 : decode (q_cc m_mo_octet) 13 = .ok (.getfield 179, 3) := by decide +kernel
theorem d_mo_octet_16 : decode (q_cc m_mo_octet) 16 = .ok (.iload_n 1, 1) := by decide +kernel
theorem d_mo_octet_17 : decode (q_cc m_mo_octet) 17 = .ok (.iaload, 1) := by decide +kernel
theorem d_mo_octet_18 : decode (q_cc m_mo_octet) 18 = .ok (.goto 4, 3) := by decide +kernel
theorem d_mo_octet_21 : decode (q_cc m_mo_octet) 21 = .ok (.iconst (-1), 1) := by decide +kernel
theorem d_mo_octet_22 : decode (q_cc m_mo_octet) 22 = .ok (.ireturn, 1) := by decide +kernel
theorem d_mo_on_0 : decode (q_cc m_mo_on) 0 = .ok (.aload_n 0, 1) := by decide +kernel
theorem d_mo_on_1 : decode (q_cc m_mo_on) 1 = .ok (.getfield 182, 3) := by decide +kernel
theorem d_mo_on_4 : decode (q_cc m_mo_on) 4 = .ok (.istore_n 1, 1) := by decide +kernel
theorem d_mo_on_5 : decode (q_cc m_mo_on) 5 = .ok (.aload_n 0, 1) := by decide +kernel
theorem d_mo_on_6 : decode (q_cc m_mo_on) 6 = .ok (.iconst 0, 1) := by decide +kernel
theorem d_mo_on_7 : decode (q_cc m_mo_on) 7 = .ok (.putfield 182, 3) := by decide +kernel
theorem d_mo_on_10 : decode (q_cc m_mo_on) 10 = .ok (.iload_n 1, 1) := by decide +kernel
theorem d_mo_on_11 : decode (q_cc m_mo_on) 11 = .ok (.aload_n 0, 1) := by decide +kernel
theorem d_mo_on_12 : decode (q_cc m_mo_on) 12 = .ok (.invokevirtual 328, 3) := by decide +kernel
theorem d_mo_on_15 : decode (q_cc m_mo_on) 15 = .ok (.iconst 1, 1) := by decide +kernel
theorem d_mo_on_16 : decode (q_cc m_mo_on) 16 = .ok (.iadd, 1) := by decide +kernel
theorem d_mo_on_17 : decode (q_cc m_mo_on) 17 = .ok (.if_icmp .ne 24, 3) := by decide +kernel
theorem d_mo_on_20 : decode (q_cc m_mo_on) 20 = .ok (.aload_n 0, 1) := by decide +kernel
theorem d_mo_on_21 : decode (q_cc m_mo_on) 21 = .ok (.getfield 7, 3) := by decide +kernel
theorem d_mo_on_24 : decode (q_cc m_mo_on) 24 = .ok (.iload_n 1, 1) := by decide +kernel
theorem d_mo_on_25 : decode (q_cc m_mo_on) 25 = .ok (.iconst 1, 1) := by decide +kernel
theorem d_mo_on_26 : decode (q_cc m_mo_on) 26 = .ok (.isub, 1) := by decide +kernel
theorem d_mo_on_27 : decode (q_cc m_mo_on) 27 = .ok (.iaload, 1) := by decide +kernel
theorem d_mo_on_28 : decode (q_cc m_mo_on) 28 = .ok (.aload_n 0, 1) := by decide +kernel
theorem d_mo_on_29 : decode (q_cc m_mo_on) 29 = .ok (.getfield 7, 3) := by decide +kernel
theorem d_mo_on_32 : decode (q_cc m_mo_on) 32 = .ok (.iload_n 1, 1) := by decide +kernel
theorem d_mo_on_33 : decode (q_cc m_mo_on) 33 = .ok (.iconst 1, 1) := by decide +kernel
theorem d_mo_on_34 : decode (q_cc m_mo_on) 34 = .ok (.isub, 1) := by decide +kernel
theorem d_mo_on_35 : decode (q_cc m_mo_on) 35 = .ok (.invokestatic 535, 3) := by decide +kernel
theorem d_mo_on_38 : decode (q_cc m_mo_on) 38 = .ok (.if_icmp .eq 5, 3) := by decide +kernel
theorem d_mo_on_41 : decode (q_cc m_mo_on) 41 = .ok (.iconst 0, 1) := by decide +kernel
theorem d_mo_on_42 : decode (q_cc m_mo_on) 42 = .ok (.ireturn, 1) := by decide +kernel
theorem d_mo_on_43 : decode (q_cc m_mo_on) 43 = .ok (.iconst 0, 1) := by decide +kernel
theorem d_mo_on_44 : decode (q_cc m_mo_on) 44 = .ok (.istore_n 2, 1) := by decide +kernel
theorem d_mo_on_45 : decode (q_cc m_mo_on) 45 = .ok (.iload_n 2, 1) := by decide +kernel
theorem d_mo_on_46 : decode (q_cc m_mo_on) 46 = .ok (.aload_n 0, 1) := by decide +kernel
theorem d_mo_on_47 : decode (q_cc m_mo_on) 47 = .ok (.invokevirtual 328, 3) := by decide +kernel
theorem d_mo_on_50 : decode (q_cc m_mo_on) 50 = .ok (.if_icmp .ge 24, 3) := by decide +kernel
theorem d_mo_on_53 : decode (q_cc m_mo_on) 53 = .ok (.aload_n 0, 1) := by decide +kernel
theorem d_mo_on_54 : decode (q_cc m_mo_on) 54 = .ok (.getfield 7, 3) := by decide +kernel
theorem d_mo_on_57 : decode (q_cc m_mo_on) 57 = .ok (.iload_n 2, 1) := by decide +kernel
theorem d_mo_on_58 : decode (q_cc m_mo_on) 58 = .ok (.iaload, 1) := by decide +kernel
theorem d_mo_on_59 : decode (q_cc m_mo_on) 59 = .ok (.aload_n 0, 1) := by decide +kernel
theorem d_mo_on_60 : decode (q_cc m_mo_on) 60 = .ok (.invokevirtual 419, 3) := by decide +kernel
theorem d_mo_on_63 : decode (q_cc m_mo_on) 63 = .ok (.if_icmp .le 5, 3) := by decide +kernel
theorem d_mo_on_66 : decode (q_cc m_mo_on) 66 = .ok (.iconst 0, 1) := by decide +kernel
theorem d_mo_on_67 : decode (q_cc m_mo_on) 67 = .ok (.ireturn, 1) := by decide +kernel
theorem d_mo_on_68 : decode (q_cc m_mo_on) 68 = .ok (.iinc 2 1, 3) := by decide +kernel
theorem d_mo_on_71 : decode (q_cc m_mo_on) 71 = .ok (.goto (-26), 3) := by decide +kernel
theorem d_mo_on_74 : decode (q_cc m_mo_on) 74 = .ok (.iconst 1, 1) := by decide +kernel
theorem d_mo_on_75 : decode (q_cc m_mo_on) 75 = .ok (.istore_n 2, 1) := by decide +kernel
theorem d_mo_on_76 : decode (q_cc m_mo_on) 76 = .ok (.iload_n 2, 1) := by decide +kernel
theorem d_mo_on_77 : decode (q_cc m_mo_on) 77 = .ok (.aload_n 0, 1) := by decide +kernel
theorem d_mo_on_78 : decode (q_cc m_mo_on) 78 = .ok (.invokevirtual 419, 3) := by decide +kernel
theorem d_mo_on_81 : decode (q_cc m_mo_on) 81 = .ok (.if_icmp .gt 57, 3) := by decide +kernel
theorem d_mo_on_84 : decode (q_cc m_mo_on) 84 = .ok (.iconst 0, 1) := by decide +kernel
theorem d_mo_on_85 : decode (q_cc m_mo_on) 85 = .ok (.istore_n 3, 1) := by decide +kernel
theorem d_mo_on_86 : decode (q_cc m_mo_on) 86 = .ok (.iconst 0, 1) := by decide +kernel
theorem d_mo_on_87 : decode (q_cc m_mo_on) 87 = .ok (.istore 4, 2) := by decide +kernel
theorem d_mo_on_89 : decode (q_cc m_mo_on) 89 = .ok (.iload 4, 2) := by decide +kernel
theorem d_mo_on_91 : decode (q_cc m_mo_on) 91 = .ok (.aload_n 0, 1) := by decide +kernel
theorem d_mo_on_92 : decode (q_cc m_mo_on) 92 = .ok (.invokevirtual 328, 3) := by decide +kernel
theorem d_mo_on_95 : decode (q_cc m_mo_on) 95 = .ok (.if_icmp .ge 27, 3) := by decide +kernel
theorem d_mo_on_98 : decode (q_cc m_mo_on) 98 = .ok (.aload_n 0, 1) := by decide +kernel
theorem d_mo_on_99 : decode (q_cc m_mo_on) 99 = .ok (.getfield 7, 3) := by decide +kernel
theorem d_mo_on_102 : decode (q_cc m_mo_on) 102 = .ok (.iload 4, 2) := by decide +kernel
theorem d_mo_on_104 : decode (q_cc m_mo_on) 104 = .ok (.iaload, 1) := by decide +kernel
theorem d_mo_on_105 : decode (q_cc m_mo_on) 105 = .ok (.iload_n 2, 1) := by decide +kernel
theorem d_mo_on_106 : decode (q_cc m_mo_on) 106 = .ok (.if_icmp .ne 10, 3) := by decide +kernel
theorem d_mo_on_109 : decode (q_cc m_mo_on) 109 = .ok (.iload_n 3, 1) := by decide +kernel
theorem d_mo_on_110 : decode (q_cc m_mo_on) 110 = .ok (.iconst 1, 1) := by decide +kernel
theorem d_mo_on_111 : decode (q_cc m_mo_on) 111 = .ok (.iload 4, 2) := by decide +kernel
theorem d_mo_on_113 : decode (q_cc m_mo_on) 113 = .ok (.ishl, 1) := by decide +kernel
theorem d_mo_on_114 : decode (q_cc m_mo_on) 114 = .ok (.ior, 1) := by decide +kernel
theorem d_mo_on_115 : decode (q_cc m_mo_on) 115 = .ok (.istore_n 3, 1) := by decide +kernel
theorem d_mo_on_116 : decode (q_cc m_mo_on) 116 = .ok (.iinc 4 1, 3) := by decide +kernel
theorem d_mo_on_119 : decode (q_cc m_mo_on) 119 = .ok (.goto (-30), 3) := by decide +kernel
theorem d_mo_on_122 : decode (q_cc m_mo_on) 122 = .ok (.aload_n 0, 1) := by decide +kernel
theorem d_mo_on_123 : decode (q_cc m_mo_on) 123 = .ok (.iload_n 3, 1) := by decide +kernel
theorem d_mo_on_124 : decode (q_cc m_mo_on) 124 = .ok (.invokevirtual 465, 3) := by decide +kernel
theorem d_mo_on_127 : decode (q_cc m_mo_on) 127 = .ok (.ifCond .ne 5, 3) := by decide +kernel
theorem d_mo_on_130 : decode (q_cc m_mo_on) 130 = .ok (.iconst 0, 1) := by decide +kernel
theorem d_mo_on_131 : decode (q_cc m_mo_on) 131 = .ok (.ireturn, 1) := by decide +kernel
theorem d_mo_on_132 : decode (q_cc m_mo_on) 132 = .ok (.iinc 2 1, 3) := by decide +kernel
theorem d_mo_on_135 : decode (q_cc m_mo_on) 135 = .ok (.goto (-59), 3) := by decide +kernel
theorem d_mo_on_138 : decode (q_cc m_mo_on) 138 = .ok (.iconst 0, 1) := by decide +kernel
theorem d_mo_on_139 : decode (q_cc m_mo_on) 139 = .ok (.istore_n 2, 1) := by decide +kernel
theorem d_mo_on_140 : decode (q_cc m_mo_on) 140 = .ok (.iload_n 2, 1) := by decide +kernel
theorem d_mo_on_141 : decode (q_cc m_mo_on) 141 = .ok (.aload_n 0, 1) := by decide +kernel
theorem d_mo_on_142 : decode (q_cc m_mo_on) 142 = .ok (.invokevirtual 328, 3) := by decide +kernel
theorem d_mo_on_145 : decode (q_cc m_mo_on) 145 = .ok (.if_icmp .ge 23, 3) := by decide +kernel
theorem d_mo_on_148 : decode (q_cc m_mo_on) 148 = .ok (.aload_n 0, 1) := by decide +kernel
theorem d_mo_on_149 : decode (q_cc m_mo_on) 149 = .ok (.getfield 148, 3) := by decide +kernel
theorem d_mo_on_152 : decode (q_cc m_mo_on) 152 = .ok (.iload_n 2, 1) := by decide +kernel
theorem d_mo_on_153 : decode (q_cc m_mo_on) 153 = .ok (.aload_n 0, 1) := by decide +kernel
theorem d_mo_on_154 : decode (q_cc m_mo_on) 154 = .ok (.getfield 7, 3) := by decide +kernel
theorem d_mo_on_157 : decode (q_cc m_mo_on) 157 = .ok (.iload_n 2, 1) := by decide +kernel
theorem d_mo_on_158 : decode (q_cc m_mo_on) 158 = .ok (.iaload, 1) := by decide +kernel
theorem d_mo_on_159 : decode (q_cc m_mo_on) 159 = .ok (.iconst 1, 1) := by decide +kernel
theorem d_mo_on_160 : decode (q_cc m_mo_on) 160 = .ok (.isub, 1) := by decide +kernel
theorem d_mo_on_161 : decode (q_cc m_mo_on) 161 = .ok (.iastore, 1) := by decide +kernel
theorem d_mo_on_162 : decode (q_cc m_mo_on) 162 = .ok (.iinc 2 1, 3) := by decide +kernel
theorem d_mo_on_165 : decode (q_cc m_mo_on) 165 = .ok (.goto (-25), 3) := by decide +kernel
theorem d_mo_on_168 : decode (q_cc m_mo_on) 168 = .ok (.aload_n 0, 1) := by decide +kernel
theorem d_mo_on_169 : decode (q_cc m_mo_on) 169 = .ok (.iconst 0, 1) := by decide +kernel
theorem d_mo_on_170 : decode (q_cc m_mo_on) 170 = .ok (.putfield 341, 3) := by decide +kernel
theorem d_mo_on_173 : decode (q_cc m_mo_on) 173 = .ok (.iconst 1, 1) := by decide +kernel
theorem d_mo_on_174 : decode (q_cc m_mo_on) 174 = .ok (.ireturn, 1) := by decide +kernel
theorem d_ji_bitCount_0 : decode (q_cc m_ji_bitCount) 0 = .ok (.iload_n 0, 1) := by decide +kernel
theorem d_ji_bitCount_1 : decode (q_cc m_ji_bitCount) 1 = .ok (.iload_n 0, 1) := by decide +kernel
theorem d_ji_bitCount_2 : decode (q_cc m_ji_bitCount) 2 = .ok (.iconst 1, 1) := by decide +kernel
theorem d_ji_bitCount_3 : decode (q_cc m_ji_bitCount) 3 = .ok (.iushr, 1) := by decide +kernel
theorem d_ji_bitCount_4 : decode (q_cc m_ji_bitCount) 4 = .ok (.ldc_w 265, 3) := by decide +kernel
theorem d_ji_bitCount_7 : decode (q_cc m_ji_bitCount) 7 = .ok (.iand, 1) := by decide +kernel
theorem d_ji_bitCount_8 : decode (q_cc m_ji_bitCount) 8 = .ok (.isub, 1) := by decide +kernel
theorem d_ji_bitCount_9 : decode (q_cc m_ji_bitCount) 9 = .ok (.istore_n 0, 1) := by decide +kernel
theorem d_ji_bitCount_10 : decode (q_cc m_ji_bitCount) 10 = .ok (.iload_n 0, 1) := by decide +kernel
theorem d_ji_bitCount_11 : decode (q_cc m_ji_bitCount) 11 = .ok (.ldc_w 266, 3) := by decide +kernel
theorem d_ji_bitCount_14 : decode (q_cc m_ji_bitCount) 14 = .ok (.iand, 1) := by decide +kernel
theorem d_ji_bitCount_15 : decode (q_cc m_ji_bitCount) 15 = .ok (.iload_n 0, 1) := by decide +kernel
theorem d_ji_bitCount_16 : decode (q_cc m_ji_bitCount) 16 = .ok (.iconst 2, 1) := by decide +kernel
theorem d_ji_bitCount_17 : decode (q_cc m_ji_bitCount) 17 = .ok (.iushr, 1) := by decide +kernel
theorem d_ji_bitCount_18 : decode (q_cc m_ji_bitCount) 18 = .ok (.ldc_w 266, 3) := by decide +kernel
theorem d_ji_bitCount_21 : decode (q_cc m_ji_bitCount) 21 = .ok (.iand, 1) := by decide +kernel
theorem d_ji_bitCount_22 : decode (q_cc m_ji_bitCount) 22 = .ok (.iadd, 1) := by decide +kernel
theorem d_ji_bitCount_23 : decode (q_cc m_ji_bitCount) 23 = .ok (.istore_n 0, 1) := by decide +kernel
theorem d_ji_bitCount_24 : decode (q_cc m_ji_bitCount) 24 = .ok (.iload_n 0, 1) := by decide +kernel
theorem d_ji_bitCount_25 : decode (q_cc m_ji_bitCount) 25 = .ok (.iload_n 0, 1) := by decide +kernel
theorem d_ji_bitCount_26 : decode (q_cc m_ji_bitCount) 26 = .ok (.iconst 4, 1) := by decide +kernel
theorem d_ji_bitCount_27 : decode (q_cc m_ji_bitCount) 27 = .ok (.iushr, 1) := by decide +kernel
theorem d_ji_bitCount_28 : decode (q_cc m_ji_bitCount) 28 = .ok (.iadd, 1) := by decide +kernel
theorem d_ji_bitCount_29 : decode (q_cc m_ji_bitCount) 29 = .ok (.ldc_w 267, 3) := by decide +kernel
theorem d_ji_bitCount_32 : decode (q_cc m_ji_bitCount) 32 = .ok (.iand, 1) := by decide +kernel
theorem d_ji_bitCount_33 : decode (q_cc m_ji_bitCount) 33 = .ok (.istore_n 0, 1) := by decide +kernel
theorem d_ji_bitCount_34 : decode (q_cc m_ji_bitCount) 34 = .ok (.iload_n 0, 1) := by decide +kernel
theorem d_ji_bitCount_35 : decode (q_cc m_ji_bitCount) 35 = .ok (.iload_n 0, 1) := by decide +kernel
theorem d_ji_bitCount_36 : decode (q_cc m_ji_bitCount) 36 = .ok (.bipush 8, 2) := by decide +kernel
theorem d_ji_bitCount_38 : decode (q_cc m_ji_bitCount) 38 = .ok (.iushr, 1) := by decide +kernel
theorem d_ji_bitCount_39 : decode (q_cc m_ji_bitCount) 39 = .ok (.iadd, 1) := by decide +kernel
theorem d_ji_bitCount_40 : decode (q_cc m_ji_bitCount) 40 = .ok (.istore_n 0, 1) := by decide +kernel
theorem d_ji_bitCount_41 : decode (q_cc m_ji_bitCount) 41 = .ok (.iload_n 0, 1) := by decide +kernel
theorem d_ji_bitCount_42 : decode (q_cc m_ji_bitCount) 42 = .ok (.iload_n 0, 1) := by decide +kernel
theorem d_ji_bitCount_43 : decode (q_cc m_ji_bitCount) 43 = .ok (.bipush 16, 2) := by decide +kernel
theorem d_ji_bitCount_45 : decode (q_cc m_ji_bitCount) 45 = .ok (.iushr, 1) := by decide +kernel
theorem d_ji_bitCount_46 : decode (q_cc m_ji_bitCount) 46 = .ok (.iadd, 1) := by decide +kernel
theorem d_ji_bitCount_47 : decode (q_cc m_ji_bitCount) 47 = .ok (.istore_n 0, 1) := by decide +kernel
theorem d_ji_bitCount_48 : decode (q_cc m_ji_bitCount) 48 = .ok (.iload_n 0, 1) := by decide +kernel
theorem d_ji_bitCount_49 : decode (q_cc m_ji_bitCount) 49 = .ok (.bipush 63, 2) := by decide +kernel
theorem d_ji_bitCount_51 : decode (q_cc m_ji_bitCount) 51 = .ok (.iand, 1) := by decide +kernel
theorem d_ji_bitCount_52 : decode (q_cc m_ji_bitCount) 52 = .ok (.ireturn, 1) := by decide +kernel
theorem d_jm_floorDiv_0 : decode (q_cc m_jm_floorDiv) 0 = .ok (.iload_n 0, 1) := by decide +kernel
theorem d_jm_floorDiv_1 : decode (q_cc m_jm_floorDiv) 1 = .ok (.iload_n 1, 1) := by decide +kernel
theorem d_jm_floorDiv_2 : decode (q_cc m_jm_floorDiv) 2 = .ok (.idiv, 1) := by decide +kernel
theorem d_jm_floorDiv_3 : decode (q_cc m_jm_floorDiv) 3 = .ok (.istore_n 2, 1) := by decide +kernel
theorem d_jm_floorDiv_4 : decode (q_cc m_jm_floorDiv) 4 = .ok (.iload_n 0, 1) := by decide +kernel
theorem d_jm_floorDiv_5 : decode (q_cc m_jm_floorDiv) 5 = .ok (.iload_n 1, 1) := by decide +kernel
theorem d_jm_floorDiv_6 : decode (q_cc m_jm_floorDiv) 6 = .ok (.ixor, 1) := by decide +kernel
theorem d_jm_floorDiv_7 : decode (q_cc m_jm_floorDiv) 7 = .ok (.ifCond .ge 14, 3) := by decide +kernel
theorem d_jm_floorDiv_10 : decode (q_cc m_jm_floorDiv) 10 = .ok (.iload_n 2, 1) := by decide +kernel
theorem d_jm_floorDiv_11 : decode (q_cc m_jm_floorDiv) 11 = .ok (.iload_n 1, 1) := by decide +kernel
theorem d_jm_floorDiv_12 : decode (q_cc m_jm_floorDiv) 12 = .ok (.imul, 1) := by decide +kernel
theorem d_jm_floorDiv_13 : decode (q_cc m_jm_floorDiv) 13 = .ok (.iload_n 0, 1) := by decide +kernel
theorem d_jm_floorDiv_14 : decode (q_cc m_jm_floorDiv) 14 = .ok (.if_icmp .eq 7, 3) := by decide +kernel
theorem d_jm_floorDiv_17 : decode (q_cc m_jm_floorDiv) 17 = .ok (.iload_n 2, 1) := by decide +kernel
theorem d_jm_floorDiv_18 : decode (q_cc m_jm_floorDiv) 18 = .ok (.iconst 1, 1) := by decide +kernel
theorem d_jm_floorDiv_19 : decode (q_cc m_jm_floorDiv) 19 = .ok (.isub, 1) := by decide +kernel
theorem d_jm_floorDiv_20 : decode (q_cc m_jm_floorDiv) 20 = .ok (.ireturn, 1) := by decide +kernel
theorem d_jm_floorDiv_21 : decode (q_cc m_jm_floorDiv) 21 = .ok (.iload_n 2, 1) := by decide +kernel
theorem d_jm_floorDiv_22 : decode (q_cc m_jm_floorDiv) 22 = .ok (.ireturn, 1) := by decide +kernel
theorem d_jm_abs_0 : decode (q_cc m_jm_abs) 0 = .ok (.iload_n 0, 1) := by decide +kernel
theorem d_jm_abs_1 : decode (q_cc m_jm_abs) 1 = .ok (.ifCond .ge 8, 3) := by decide +kernel
theorem d_jm_abs_4 : decode (q_cc m_jm_abs) 4 = .ok (.iload_n 0, 1) := by decide +kernel
theorem d_jm_abs_5 : decode (q_cc m_jm_abs) 5 = .ok (.ineg, 1) := by decide +kernel
theorem d_jm_abs_6 : decode (q_cc m_jm_abs) 6 = .ok (.goto 4, 3) := by decide +kernel
theorem d_jm_abs_9 : decode (q_cc m_jm_abs) 9 = .ok (.iload_n 0, 1) := by decide +kernel
theorem d_jm_abs_10 : decode (q_cc m_jm_abs) 10 = .ok (.ireturn, 1) := by decide +kernel
theorem d_jm_max_0 : decode (q_cc m_jm_max) 0 = .ok (.iload_n 0, 1) := by decide +kernel
theorem d_jm_max_1 : decode (q_cc m_jm_max) 1 = .ok (.iload_n 1, 1) := by decide +kernel
theorem d_jm_max_2 : decode (q_cc m_jm_max) 2 = .ok (.if_icmp .lt 7, 3) := by decide +kernel
theorem d_jm_max_5 : decode (q_cc m_jm_max) 5 = .ok (.iload_n 0, 1) := by decide +kernel
theorem d_jm_max_6 : decode (q_cc m_jm_max) 6 = .ok (.goto 4, 3) := by decide +kernel
theorem d_jm_max_9 : decode (q_cc m_jm_max) 9 = .ok (.iload_n 1, 1) := by decide +kernel
theorem d_jm_max_10 : decode (q_cc m_jm_max) 10 = .ok (.ireturn, 1) := by decide +kernel
theorem d_jm_maxL_0 : decode (q_cc m_jm_maxL) 0 = .ok (.lload_n 0, 1) := by decide +kernel
theorem d_jm_maxL_1 : decode (q_cc m_jm_maxL) 1 = .ok (.lload_n 2, 1) := by decide +kernel
theorem d_jm_maxL_2 : decode (q_cc m_jm_maxL) 2 = .ok (.lcmp, 1) := by decide +kernel
theorem d_jm_maxL_3 : decode (q_cc m_jm_maxL) 3 = .ok (.ifCond .lt 7, 3) := by decide +kernel
theorem d_jm_maxL_6 : decode (q_cc m_jm_maxL) 6 = .ok (.lload_n 0, 1) := by decide +kernel
theorem d_jm_maxL_7 : decode (q_cc m_jm_maxL) 7 = .ok (.goto 4, 3) := by decide +kernel
theorem d_jm_maxL_10 : decode (q_cc m_jm_maxL) 10 = .ok (.lload_n 2, 1) := by decide +kernel
theorem d_jm_maxL_11 : decode (q_cc m_jm_maxL) 11 = .ok (.lreturn, 1) := by decide +kernel
theorem d_jm_min_0 : decode (q_cc m_jm_min) 0 = .ok (.iload_n 0, 1) := by decide +kernel
theorem d_jm_min_1 : decode (q_cc m_jm_min) 1 = .ok (.iload_n 1, 1) := by decide +kernel
theorem d_jm_min_2 : decode (q_cc m_jm_min) 2 = .ok (.if_icmp .gt 7, 3) := by decide +kernel
theorem d_jm_min_5 : decode (q_cc m_jm_min) 5 = .ok (.iload_n 0, 1) := by decide +kernel
theorem d_jm_min_6 : decode (q_cc m_jm_min) 6 = .ok (.goto 4, 3) := by decide +kernel
theorem d_jm_min_9 : decode (q_cc m_jm_min) 9 = .ok (.iload_n 1, 1) := by decide +kernel
theorem d_jm_min_10 : decode (q_cc m_jm_min) 10 = .ok (.ireturn, 1) := by decide +kernel
theorem d_jm_minL_0 : decode (q_cc m_jm_minL) 0 = .ok (.lload_n 0, 1) := by decide +kernel
theorem d_jm_minL_1 : decode (q_cc m_jm_minL) 1 = .ok (.lload_n 2, 1) := by decide +kernel
theorem d_jm_minL_2 : decode (q_cc m_jm_minL) 2 = .ok (.lcmp, 1) := by decide +kernel
theorem d_jm_minL_3 : decode (q_cc m_jm_minL) 3 = .ok (.ifCond .gt 7, 3) := by decide +kernel
theorem d_jm_minL_6 : decode (q_cc m_jm_minL) 6 = .ok (.lload_n 0, 1) := by decide +kernel
theorem d_jm_minL_7 : decode (q_cc m_jm_minL) 7 = .ok (.goto 4, 3) := by decide +kernel
theorem d_jm_minL_10 : decode (q_cc m_jm_minL) 10 = .ok (.lload_n 2, 1) := by decide +kernel
theorem d_jm_minL_11 : decode (q_cc m_jm_minL) 11 = .ok (.lreturn, 1) := by decide +kernel
theorem d_js_length_0 : decode (q_cc m_js_length) 0 = .ok (.aload_n 0, 1) := by decide +kernel
theorem d_js_length_1 : decode (q_cc m_js_length) 1 = .ok (.getfield 9, 3) := by decide +kernel
theorem d_js_length_4 : decode (q_cc m_js_length) 4 = .ok (.arraylength, 1) := by decide +kernel
theorem d_js_length_5 : decode (q_cc m_js_length) 5 = .ok (.aload_n 0, 1) := by decide +kernel
theorem d_js_length_6 : decode (q_cc m_js_length) 6 = .ok (.invokevirtual 335, 3) := by decide +kernel
theorem d_js_length_9 : decode (q_cc m_js_length) 9 = .ok (.ishr, 1) := by decide +kernel
theorem d_js_length_10 : decode (q_cc m_js_length) 10 = .ok (.ireturn, 1) := by decide +kernel
theorem d_js_charAt_0 : decode (q_cc m_js_charAt) 0 = .ok (.aload_n 0, 1) := by decide +kernel
theorem d_js_charAt_1 : decode (q_cc m_js_charAt) 1 = .ok (.invokevirtual 492, 3) := by decide +kernel
theorem d_js_charAt_4 : decode (q_cc m_js_charAt) 4 = .ok (.ifCond .eq 12, 3) := by decide +kernel
theorem d_js_charAt_7 : decode (q_cc m_js_charAt) 7 = .ok (.aload_n 0, 1) := by decide +kernel
theorem d_js_charAt_8 : decode (q_cc m_js_charAt) 8 = .ok (.getfield 9, 3) := by decide +kernel
theorem d_js_charAt_11 : decode (q_cc m_js_charAt) 11 = .ok (.iload_n 1, 1) := by decide +kernel
theorem d_js_charAt_12 : decode (q_cc m_js_charAt) 12 = .ok (.invokestatic 495, 3) := by decide +kernel
theorem d_js_charAt_15 : decode (q_cc m_js_charAt) 15 = .ok (.ireturn, 1) := by decide +kernel
theorem d_js_charAt_16 : decode (q_cc m_js_charAt) 16 = .ok (.aload_n 0, 1) := by decide +kernel
theorem d_js_charAt_17 : decode (q_cc m_js_charAt) 17 = .ok (.getfield 9, 3) := by decide +kernel
theorem d_js_charAt_20 : decode (q_cc m_js_charAt) 20 = .ok (.iload_n 1, 1) := by decide +kernel
theorem d_js_charAt_21 : decode (q_cc m_js_charAt) 21 = .ok (.invokestatic 498, 3) := by decide +kernel
theorem d_js_charAt_24 : decode (q_cc m_js_charAt) 24 = .ok (.ireturn, 1) := by decide +kernel
theorem d_js_coder_0 : decode (q_cc m_js_coder) 0 = .ok (.getstatic 38, 3) := by decide +kernel
theorem d_js_coder_3 : decode (q_cc m_js_coder) 3 = .ok (.ifCond .eq 10, 3) := by decide +kernel
theorem d_js_coder_6 : decode (q_cc m_js_coder) 6 = .ok (.aload_n 0, 1) := by decide +kernel
theorem d_js_coder_7 : decode (q_cc m_js_coder) 7 = .ok (.getfield 15, 3) := by decide +kernel
theorem d_js_coder_10 : decode (q_cc m_js_coder) 10 = .ok (.goto 4, 3) := by decide +kernel
theorem d_js_coder_13 : decode (q_cc m_js_coder) 13 = .ok (.iconst 1, 1) := by decide +kernel
theorem d_js_coder_14 : decode (q_cc m_js_coder) 14 = .ok (.ireturn, 1) := by decide +kernel
theorem d_js_isLatin1_0 : decode (q_cc m_js_isLatin1) 0 = .ok (.getstatic 38, 3) := by decide +kernel
theorem d_js_isLatin1_3 : decode (q_cc m_js_isLatin1) 3 = .ok (.ifCond .eq 14, 3) := by decide +kernel
theorem d_js_isLatin1_6 : decode (q_cc m_js_isLatin1) 6 = .ok (.aload_n 0, 1) := by decide +kernel
theorem d_js_isLatin1_7 : decode (q_cc m_js_isLatin1) 7 = .ok (.getfield 15, 3) := by decide +kernel
theorem d_js_isLatin1_10 : decode (q_cc m_js_isLatin1) 10 = .ok (.ifCond .ne 7, 3) := by decide +kernel
theorem d_js_isLatin1_13 : decode (q_cc m_js_isLatin1) 13 = .ok (.iconst 1, 1) := by decide +kernel
theorem d_js_isLatin1_14 : decode (q_cc m_js_isLatin1) 14 = .ok (.goto 4, 3) := by decide +kernel
theorem d_js_isLatin1_17 : decode (q_cc m_js_isLatin1) 17 = .ok (.iconst 0, 1) := by decide +kernel
theorem d_js_isLatin1_18 : decode (q_cc m_js_isLatin1) 18 = .ok (.ireturn, 1) := by decide +kernel
theorem d_js_checkIndex_0 : decode (q_cc m_js_checkIndex) 0 = .ok (.iload_n 0, 1) := by decide +kernel
theorem d_js_checkIndex_1 : decode (q_cc m_js_checkIndex) 1 = .ok (.iload_n 1, 1) := by decide +kernel
theorem d_js_checkIndex_2 : decode (q_cc m_js_checkIndex) 2 = .ok (.getstatic 1053, 3) := by decide +kernel
theorem d_js_checkIndex_5 : decode (q_cc m_js_checkIndex) 5 = .ok (.invokestatic 1059, 3) := by decide +kernel
theorem d_js_checkIndex_8 : decode (q_cc m_js_checkIndex) 8 = .ok (.pop, 1) := by decide +kernel
theorem d_js_checkIndex_9 : decode (q_cc m_js_checkIndex) 9 = .ok (.return_, 1) := by decide +kernel
theorem d_jl_charAt_0 : decode (q_cc m_jl_charAt) 0 = .ok (.iload_n 1, 1) := by decide +kernel
theorem d_jl_charAt_1 : decode (q_cc m_jl_charAt) 1 = .ok (.aload_n 0, 1) := by decide +kernel
theorem d_jl_charAt_2 : decode (q_cc m_jl_charAt) 2 = .ok (.arraylength, 1) := by decide +kernel
theorem d_jl_charAt_3 : decode (q_cc m_jl_charAt) 3 = .ok (.invokestatic 9, 3) := by decide +kernel
theorem d_jl_charAt_6 : decode (q_cc m_jl_charAt) 6 = .ok (.aload_n 0, 1) := by decide +kernel
theorem d_jl_charAt_7 : decode (q_cc m_jl_charAt) 7 = .ok (.iload_n 1, 1) := by decide +kernel
theorem d_jl_charAt_8 : decode (q_cc m_jl_charAt) 8 = .ok (.baload, 1) := by decide +kernel
theorem d_jl_charAt_9 : decode (q_cc m_jl_charAt) 9 = .ok (.sipush 255, 3) := by decide +kernel
theorem d_jl_charAt_12 : decode (q_cc m_jl_charAt) 12 = .ok (.iand, 1) := by decide +kernel
theorem d_jl_charAt_13 : decode (q_cc m_jl_charAt) 13 = .ok (.i2c, 1) := by decide +kernel
theorem d_jl_charAt_14 : decode (q_cc m_jl_charAt) 14 = .ok (.ireturn, 1) := by decide +kernel
theorem d_ju_getChar_0 : decode (q_cc m_ju_getChar) 0 = .ok (.getstatic 44, 3) := by decide +kernel
theorem d_ju_getChar_3 : decode (q_cc m_ju_getChar) 3 = .ok (.ifCond .ne 25, 3) := by decide +kernel
theorem d_ju_getChar_6 : decode (q_cc m_ju_getChar) 6 = .ok (.iload_n 1, 1) := by decide +kernel
theorem d_ju_getChar_7 : decode (q_cc m_ju_getChar) 7 = .ok (.ifCond .lt 11, 3) := by decide +kernel
theorem d_ju_getChar_10 : decode (q_cc m_ju_getChar) 10 = .ok (.iload_n 1, 1) := by decide +kernel
theorem d_ju_getChar_11 : decode (q_cc m_ju_getChar) 11 = .ok (.aload_n 0, 1) := by decide +kernel
theorem d_ju_getChar_12 : decode (q_cc m_ju_getChar) 12 = .ok (.invokestatic 48, 3) := by decide +kernel
theorem d_ju_getChar_15 : decode (q_cc m_ju_getChar) 15 = .ok (.if_icmp .lt 13, 3) := by decide +kernel
theorem d_ju_getChar_18 : decode (q_cc m_ju_getChar) 18 = .ok (.new 52, 3) := by decide +kernel
theorem d_ju_getChar_21 : decode (q_cc m_ju_getChar) 21 = .ok (.dup, 1) := by decide +kernel
theorem d_ju_getChar_22 : decode (q_cc m_ju_getChar) 22 = .ok (.ldc 54, 2) := by decide +kernel
theorem d_ju_getChar_24 : decode (q_cc m_ju_getChar) 24 = .ok (.invokespecial 56, 3) := by decide +kernel
theorem d_ju_getChar_27 : decode (q_cc m_ju_getChar) 27 = .ok (.athrow, 1) := by decide +kernel
theorem d_ju_getChar_28 : decode (q_cc m_ju_getChar) 28 = .ok (.iload_n 1, 1) := by decide +kernel
theorem d_ju_getChar_29 : decode (q_cc m_ju_getChar) 29 = .ok (.iconst 1, 1) := by decide +kernel
theorem d_ju_getChar_30 : decode (q_cc m_ju_getChar) 30 = .ok (.ishl, 1) := by decide +kernel
theorem d_ju_getChar_31 : decode (q_cc m_ju_getChar) 31 = .ok (.istore_n 1, 1) := by decide +kernel
theorem d_ju_getChar_32 : decode (q_cc m_ju_getChar) 32 = .ok (.aload_n 0, 1) := by decide +kernel
theorem d_ju_getChar_33 : decode (q_cc m_ju_getChar) 33 = .ok (.iload_n 1, 1) := by decide +kernel
theorem d_ju_getChar_34 : decode (q_cc m_ju_getChar) 34 = .ok (.iinc 1 1, 3) := by decide +kernel
theorem d_ju_getChar_37 : decode (q_cc m_ju_getChar) 37 = .ok (.baload, 1) := by decide +kernel
theorem d_ju_getChar_38 : decode (q_cc m_ju_getChar) 38 = .ok (.sipush 255, 3) := by decide +kernel
theorem d_ju_getChar_41 : decode (q_cc m_ju_getChar) 41 = .ok (.iand, 1) := by decide +kernel
theorem d_ju_getChar_42 : decode (q_cc m_ju_getChar) 42 = .ok (.getstatic 59, 3) := by decide +kernel
theorem d_ju_getChar_45 : decode (q_cc m_ju_getChar) 45 = .ok (.ishl, 1) := by decide +kernel
theorem d_ju_getChar_46 : decode (q_cc m_ju_getChar) 46 = .ok (.aload_n 0, 1) := by decide +kernel
theorem d_ju_getChar_47 : decode (q_cc m_ju_getChar) 47 = .ok (.iload_n 1, 1) := by decide +kernel
theorem d_ju_getChar_48 : decode (q_cc m_ju_getChar) 48 = .ok (.baload, 1) := by decide +kernel
theorem d_ju_getChar_49 : decode (q_cc m_ju_getChar) 49 = .ok (.sipush 255, 3) := by decide +kernel
theorem d_ju_getChar_52 : decode (q_cc m_ju_getChar) 52 = .ok (.iand, 1) := by decide +kernel
theorem d_ju_getChar_53 : decode (q_cc m_ju_getChar) 53 = .ok (.getstatic 63, 3) := by decide +kernel
theorem d_ju_getChar_56 : decode (q_cc m_ju_getChar) 56 = .ok (.ishl, 1) := by decide +kernel
theorem d_ju_getChar_57 : decode (q_cc m_ju_getChar) 57 = .ok (.ior, 1) := by decide +kernel
theorem d_ju_getChar_58 : decode (q_cc m_ju_getChar) 58 = .ok (.i2c, 1) := by decide +kernel
theorem d_ju_getChar_59 : decode (q_cc m_ju_getChar) 59 = .ok (.ireturn, 1) := by decide +kernel
theorem d_ju_length_0 : decode (q_cc m_ju_length) 0 = .ok (.aload_n 0, 1) := by decide +kernel
theorem d_ju_length_1 : decode (q_cc m_ju_length) 1 = .ok (.arraylength, 1) := by decide +kernel
theorem d_ju_length_2 : decode (q_cc m_ju_length) 2 = .ok (.iconst 1, 1) := by decide +kernel
theorem d_ju_length_3 : decode (q_cc m_ju_length) 3 = .ok (.ishr, 1) := by decide +kernel
theorem d_ju_length_4 : decode (q_cc m_ju_length) 4 = .ok (.ireturn, 1) := by decide +kernel
theorem d_ju_charAt_0 : decode (q_cc m_ju_charAt) 0 = .ok (.iload_n 1, 1) := by decide +kernel
theorem d_ju_charAt_1 : decode (q_cc m_ju_charAt) 1 = .ok (.aload_n 0, 1) := by decide +kernel
theorem d_ju_charAt_2 : decode (q_cc m_ju_charAt) 2 = .ok (.invokestatic 67, 3) := by decide +kernel
theorem d_ju_charAt_5 : decode (q_cc m_ju_charAt) 5 = .ok (.aload_n 0, 1) := by decide +kernel
theorem d_ju_charAt_6 : decode (q_cc m_ju_charAt) 6 = .ok (.iload_n 1, 1) := by decide +kernel
theorem d_ju_charAt_7 : decode (q_cc m_ju_charAt) 7 = .ok (.invokestatic 71, 3) := by decide +kernel
theorem d_ju_charAt_10 : decode (q_cc m_ju_charAt) 10 = .ok (.ireturn, 1) := by decide +kernel
theorem d_ju_checkIndex_0 : decode (q_cc m_ju_checkIndex) 0 = .ok (.iload_n 0, 1) := by decide +kernel
theorem d_ju_checkIndex_1 : decode (q_cc m_ju_checkIndex) 1 = .ok (.aload_n 1, 1) := by decide +kernel
theorem d_ju_checkIndex_2 : decode (q_cc m_ju_checkIndex) 2 = .ok (.invokestatic 48, 3) := by decide +kernel
theorem d_ju_checkIndex_5 : decode (q_cc m_ju_checkIndex) 5 = .ok (.invokestatic 414, 3) := by decide +kernel
theorem d_ju_checkIndex_8 : decode (q_cc m_ju_checkIndex) 8 = .ok (.return_, 1) := by decide +kernel
theorem d_jp_checkIndex_0 : decode (q_cc m_jp_checkIndex) 0 = .ok (.iload_n 0, 1) := by decide +kernel
theorem d_jp_checkIndex_1 : decode (q_cc m_jp_checkIndex) 1 = .ok (.ifCond .lt 8, 3) := by decide +kernel
theorem d_jp_checkIndex_4 : decode (q_cc m_jp_checkIndex) 4 = .ok (.iload_n 0, 1) := by decide +kernel
theorem d_jp_checkIndex_5 : decode (q_cc m_jp_checkIndex) 5 = .ok (.iload_n 1, 1) := by decide +kernel
theorem d_jp_checkIndex_6 : decode (q_cc m_jp_checkIndex) 6 = .ok (.if_icmp .lt 10, 3) := by decide +kernel
theorem d_jp_checkIndex_9 : decode (q_cc m_jp_checkIndex) 9 = .ok (.aload_n 2, 1) := by decide +kernel
theorem d_jp_checkIndex_10 : decode (q_cc m_jp_checkIndex) 10 = .ok (.iload_n 0, 1) := by decide +kernel
theorem d_jp_checkIndex_11 : decode (q_cc m_jp_checkIndex) 11 = .ok (.iload_n 1, 1) := by decide +kernel
theorem d_jp_checkIndex_12 : decode (q_cc m_jp_checkIndex) 12 = .ok (.invokestatic 95, 3) := by decide +kernel
theorem d_jp_checkIndex_15 : decode (q_cc m_jp_checkIndex) 15 = .ok (.athrow, 1) := by decide +kernel
theorem d_jp_checkIndex_16 : decode (q_cc m_jp_checkIndex) 16 = .ok (.iload_n 0, 1) := by decide +kernel
theorem d_jp_checkIndex_17 : decode (q_cc m_jp_checkIndex) 17 = .ok (.ireturn, 1) := by decide +kernel
theorem d_lw_law_0 : decode (q_cc m_lw_law) 0 = .ok (.new 7, 3) := by decide +kernel
theorem d_lw_law_3 : decode (q_cc m_lw_law) 3 = .ok (.dup, 1) := by decide +kernel
theorem d_lw_law_4 : decode (q_cc m_lw_law) 4 = .ok (.invokespecial 9, 3) := by decide +kernel
theorem d_lw_law_7 : decode (q_cc m_lw_law) 7 = .ok (.astore_n 1, 1) := by decide +kernel
theorem d_lw_law_8 : decode (q_cc m_lw_law) 8 = .ok (.new 10, 3) := by decide +kernel
theorem d_lw_law_11 : decode (q_cc m_lw_law) 11 = .ok (.dup, 1) := by decide +kernel
theorem d_lw_law_12 : decode (q_cc m_lw_law) 12 = .ok (.invokespecial 12, 3) := by decide +kernel
theorem d_lw_law_15 : decode (q_cc m_lw_law) 15 = .ok (.astore_n 2, 1) := by decide +kernel
theorem d_lw_law_16 : decode (q_cc m_lw_law) 16 = .ok (.iconst 0, 1) := by decide +kernel
theorem d_lw_law_17 : decode (q_cc m_lw_law) 17 = .ok (.istore_n 3, 1) := by decide +kernel
theorem d_lw_law_18 : decode (q_cc m_lw_law) 18 = .ok (.iload_n 3, 1) := by decide +kernel
theorem d_lw_law_19 : decode (q_cc m_lw_law) 19 = .ok (.aload_n 0, 1) := by decide +kernel
theorem d_lw_law_20 : decode (q_cc m_lw_law) 20 = .ok (.arraylength, 1) := by decide +kernel
theorem d_lw_law_21 : decode (q_cc m_lw_law) 21 = .ok (.bipush 6, 2) := by decide +kernel
theorem d_lw_law_23 : decode (q_cc m_lw_law) 23 = .ok (.isub, 1) := by decide +kernel
theorem d_lw_law_24 : decode (q_cc m_lw_law) 24 = .ok (.if_icmp .gt 1156, 3) := by decide +kernel
theorem d_lw_law_27 : decode (q_cc m_lw_law) 27 = .ok (.aload_n 0, 1) := by decide +kernel
theorem d_lw_law_28 : decode (q_cc m_lw_law) 28 = .ok (.iload_n 3, 1) := by decide +kernel
theorem d_lw_law_29 : decode (q_cc m_lw_law) 29 = .ok (.iaload, 1) := by decide +kernel
theorem d_lw_law_30 : decode (q_cc m_lw_law) 30 = .ok (.bipush 31, 2) := by decide +kernel
theorem d_lw_law_32 : decode (q_cc m_lw_law) 32 = .ok (.iand, 1) := by decide +kernel
theorem d_lw_law_33 : decode (q_cc m_lw_law) 33 = .ok (.tableswitch 1141 0 31 #[143, 206, 229, 242, 265, 288, 331, 374, 407, 440, 473, 506, 565, 598, 631, 664, 687, 710, 733, 792, 815, 848, 861, 904, 937, 990, 1023, 1046, 1079, 1092, 1105, 1128], 143) := by decide +kernel
theorem d_lw_law_176 : decode (q_cc m_lw_law) 176 = .ok (.aload_n 1, 1) := by decide +kernel
theorem d_lw_law_177 : decode (q_cc m_lw_law) 177 = .ok (.aload_n 0, 1) := by decide +kernel
theorem d_lw_law_178 : decode (q_cc m_lw_law) 178 = .ok (.iload_n 3, 1) := by decide +kernel
theorem d_lw_law_179 : decode (q_cc m_lw_law) 179 = .ok (.iconst 1, 1) := by decide +kernel
theorem d_lw_law_180 : decode (q_cc m_lw_law) 180 = .ok (.iadd, 1) := by decide +kernel
theorem d_lw_law_181 : decode (q_cc m_lw_law) 181 = .ok (.iaload, 1) := by decide +kernel
theorem d_lw_law_182 : decode (q_cc m_lw_law) 182 = .ok (.aload_n 0, 1) := by decide +kernel
theorem d_lw_law_183 : decode (q_cc m_lw_law) 183 = .ok (.iload_n 3, 1) := by decide +kernel
theorem d_lw_law_184 : decode (q_cc m_lw_law) 184 = .ok (.iconst 2, 1) := by decide +kernel
theorem d_lw_law_185 : decode (q_cc m_lw_law) 185 = .ok (.iadd, 1) := by decide +kernel
theorem d_lw_law_186 : decode (q_cc m_lw_law) 186 = .ok (.iaload, 1) := by decide +kernel
theorem d_lw_law_187 : decode (q_cc m_lw_law) 187 = .ok (.aload_n 0, 1) := by decide +kernel
theorem d_lw_law_188 : decode (q_cc m_lw_law) 188 = .ok (.iload_n 3, 1) := by decide +kernel
theorem d_lw_law_189 : decode (q_cc m_lw_law) 189 = .ok (.iconst 3, 1) := by decide +kernel
theorem d_lw_law_190 : decode (q_cc m_lw_law) 190 = .ok (.iadd, 1) := by decide +kernel
theorem d_lw_law_191 : decode (q_cc m_lw_law) 191 = .ok (.iaload, 1) := by decide +kernel
theorem d_lw_law_192 : decode (q_cc m_lw_law) 192 = .ok (.aload_n 0, 1) := by decide +kernel
theorem d_lw_law_193 : decode (q_cc m_lw_law) 193 = .ok (.iload_n 3, 1) := by decide +kernel
theorem d_lw_law_194 : decode (q_cc m_lw_law) 194 = .ok (.iconst 4, 1) := by decide +kernel
theorem d_lw_law_195 : decode (q_cc m_lw_law) 195 = .ok (.iadd, 1) := by decide +kernel
theorem d_lw_law_196 : decode (q_cc m_lw_law) 196 = .ok (.iaload, 1) := by decide +kernel
theorem d_lw_law_197 : decode (q_cc m_lw_law) 197 = .ok (.aload_n 0, 1) := by decide +kernel
theorem d_lw_law_198 : decode (q_cc m_lw_law) 198 = .ok (.iload_n 3, 1) := by decide +kernel
theorem d_lw_law_199 : decode (q_cc m_lw_law) 199 = .ok (.iconst 5, 1) := by decide +kernel
theorem d_lw_law_200 : decode (q_cc m_lw_law) 200 = .ok (.iadd, 1) := by decide +kernel
theorem d_lw_law_201 : decode (q_cc m_lw_law) 201 = .ok (.iaload, 1) := by decide +kernel
theorem d_lw_law_202 : decode (q_cc m_lw_law) 202 = .ok (.invokevirtual 13, 3) := by decide +kernel
theorem d_lw_law_205 : decode (q_cc m_lw_law) 205 = .ok (.aload_n 2, 1) := by decide +kernel
theorem d_lw_law_206 : decode (q_cc m_lw_law) 206 = .ok (.aload_n 0, 1) := by decide +kernel
theorem d_lw_law_207 : decode (q_cc m_lw_law) 207 = .ok (.iload_n 3, 1) := by decide +kernel
theorem d_lw_law_208 : decode (q_cc m_lw_law) 208 = .ok (.iconst 1, 1) := by decide +kernel
theorem d_lw_law_209 : decode (q_cc m_lw_law) 209 = .ok (.iadd, 1) := by decide +kernel
theorem d_lw_law_210 : decode (q_cc m_lw_law) 210 = .ok (.iaload, 1) := by decide +kernel
theorem d_lw_law_211 : decode (q_cc m_lw_law) 211 = .ok (.aload_n 0, 1) := by decide +kernel
theorem d_lw_law_212 : decode (q_cc m_lw_law) 212 = .ok (.iload_n 3, 1) := by decide +kernel
theorem d_lw_law_213 : decode (q_cc m_lw_law) 213 = .ok (.iconst 2, 1) := by decide +kernel
theorem d_lw_law_214 : decode (q_cc m_lw_law) 214 = .ok (.iadd, 1) := by decide +kernel
theorem d_lw_law_215 : decode (q_cc m_lw_law) 215 = .ok (.iaload, 1) := by decide +kernel
theorem d_lw_law_216 : decode (q_cc m_lw_law) 216 = .ok (.aload_n 0, 1) := by decide +kernel
theorem d_lw_law_217 : decode (q_cc m_lw_law) 217 = .ok (.iload_n 3, 1) := by decide +kernel
theorem d_lw_law_218 : decode (q_cc m_lw_law) 218 = .ok (.iconst 3, 1) := by decide +kernel
theorem d_lw_law_219 : decode (q_cc m_lw_law) 219 = .ok (.iadd, 1) := by decide +kernel
theorem d_lw_law_220 : decode (q_cc m_lw_law) 220 = .ok (.iaload, 1) := by decide +kernel
theorem d_lw_law_221 : decode (q_cc m_lw_law) 221 = .ok (.aload_n 0, 1) := by decide +kernel
theorem d_lw_law_222 : decode (q_cc m_lw_law) 222 = .ok (.iload_n 3, 1) := by decide +kernel
theorem d_lw_law_223 : decode (q_cc m_lw_law) 223 = .ok (.iconst 4, 1) := by decide +kernel
theorem d_lw_law_224 : decode (q_cc m_lw_law) 224 = .ok (.iadd, 1) := by decide +kernel
theorem d_lw_law_225 : decode (q_cc m_lw_law) 225 = .ok (.iaload, 1) := by decide +kernel
theorem d_lw_law_226 : decode (q_cc m_lw_law) 226 = .ok (.aload_n 0, 1) := by decide +kernel
theorem d_lw_law_227 : decode (q_cc m_lw_law) 227 = .ok (.iload_n 3, 1) := by decide +kernel
theorem d_lw_law_228 : decode (q_cc m_lw_law) 228 = .ok (.iconst 5, 1) := by decide +kernel
theorem d_lw_law_229 : decode (q_cc m_lw_law) 229 = .ok (.iadd, 1) := by decide +kernel
theorem d_lw_law_230 : decode (q_cc m_lw_law) 230 = .ok (.iaload, 1) := by decide +kernel
theorem d_lw_law_231 : decode (q_cc m_lw_law) 231 = .ok (.invokevirtual 17, 3) := by decide +kernel
theorem d_lw_law_234 : decode (q_cc m_lw_law) 234 = .ok (.if_icmp .eq 940, 3) := by decide +kernel
theorem d_lw_law_237 : decode (q_cc m_lw_law) 237 = .ok (.iconst 0, 1) := by decide +kernel
theorem d_lw_law_238 : decode (q_cc m_lw_law) 238 = .ok (.ireturn, 1) := by decide +kernel
theorem d_lw_law_239 : decode (q_cc m_lw_law) 239 = .ok (.aload_n 1, 1) := by decide +kernel
theorem d_lw_law_240 : decode (q_cc m_lw_law) 240 = .ok (.aload_n 0, 1) := by decide +kernel
theorem d_lw_law_241 : decode (q_cc m_lw_law) 241 = .ok (.iload_n 3, 1) := by decide +kernel
theorem d_lw_law_242 : decode (q_cc m_lw_law) 242 = .ok (.iconst 1, 1) := by decide +kernel
theorem d_lw_law_243 : decode (q_cc m_lw_law) 243 = .ok (.iadd, 1) := by decide +kernel
theorem d_lw_law_244 : decode (q_cc m_lw_law) 244 = .ok (.iaload, 1) := by decide +kernel
theorem d_lw_law_245 : decode (q_cc m_lw_law) 245 = .ok (.invokevirtual 18, 3) := by decide +kernel
theorem d_lw_law_248 : decode (q_cc m_lw_law) 248 = .ok (.aload_n 2, 1) := by decide +kernel
theorem d_lw_law_249 : decode (q_cc m_lw_law) 249 = .ok (.aload_n 0, 1) := by decide +kernel
theorem d_lw_law_250 : decode (q_cc m_lw_law) 250 = .ok (.iload_n 3, 1) := by decide +kernel
theorem d_lw_law_251 : decode (q_cc m_lw_law) 251 = .ok (.iconst 1, 1) := by decide +kernel
theorem d_lw_law_252 : decode (q_cc m_lw_law) 252 = .ok (.iadd, 1) := by decide +kernel
theorem d_lw_law_253 : decode (q_cc m_lw_law) 253 = .ok (.iaload, 1) := by decide +kernel
theorem d_lw_law_254 : decode (q_cc m_lw_law) 254 = .ok (.invokevirtual 22, 3) := by decide +kernel
theorem d_lw_law_257 : decode (q_cc m_lw_law) 257 = .ok (.if_icmp .eq 917, 3) := by decide +kernel
theorem d_lw_law_260 : decode (q_cc m_lw_law) 260 = .ok (.iconst 0, 1) := by decide +kernel
theorem d_lw_law_261 : decode (q_cc m_lw_law) 261 = .ok (.ireturn, 1) := by decide +kernel
theorem d_lw_law_262 : decode (q_cc m_lw_law) 262 = .ok (.aload_n 1, 1) := by decide +kernel
theorem d_lw_law_263 : decode (q_cc m_lw_law) 263 = .ok (.invokevirtual 23, 3) := by decide +kernel
theorem d_lw_law_266 : decode (q_cc m_lw_law) 266 = .ok (.aload_n 2, 1) := by decide +kernel
theorem d_lw_law_267 : decode (q_cc m_lw_law) 267 = .ok (.invokevirtual 27, 3) := by decide +kernel
theorem d_lw_law_270 : decode (q_cc m_lw_law) 270 = .ok (.if_icmp .eq 904, 3) := by decide +kernel
theorem d_lw_law_273 : decode (q_cc m_lw_law) 273 = .ok (.iconst 0, 1) := by decide +kernel
theorem d_lw_law_274 : decode (q_cc m_lw_law) 274 = .ok (.ireturn, 1) := by decide +kernel
theorem d_lw_law_275 : decode (q_cc m_lw_law) 275 = .ok (.aload_n 1, 1) := by decide +kernel
theorem d_lw_law_276 : decode (q_cc m_lw_law) 276 = .ok (.aload_n 0, 1) := by decide +kernel
theorem d_lw_law_277 : decode (q_cc m_lw_law) 277 = .ok (.iload_n 3, 1) := by decide +kernel
theorem d_lw_law_278 : decode (q_cc m_lw_law) 278 = .ok (.iconst 1, 1) := by decide +kernel
theorem d_lw_law_279 : decode (q_cc m_lw_law) 279 = .ok (.iadd, 1) := by decide +kernel
theorem d_lw_law_280 : decode (q_cc m_lw_law) 280 = .ok (.iaload, 1) := by decide +kernel
theorem d_lw_law_281 : decode (q_cc m_lw_law) 281 = .ok (.invokevirtual 28, 3) := by decide +kernel
theorem d_lw_law_284 : decode (q_cc m_lw_law) 284 = .ok (.aload_n 2, 1) := by decide +kernel
theorem d_lw_law_285 : decode (q_cc m_lw_law) 285 = .ok (.aload_n 0, 1) := by decide +kernel
theorem d_lw_law_286 : decode (q_cc m_lw_law) 286 = .ok (.iload_n 3, 1) := by decide +kernel
theorem d_lw_law_287 : decode (q_cc m_lw_law) 287 = .ok (.iconst 1, 1) := by decide +kernel
theorem d_lw_law_288 : decode (q_cc m_lw_law) 288 = .ok (.iadd, 1) := by decide +kernel
theorem d_lw_law_289 : decode (q_cc m_lw_law) 289 = .ok (.iaload, 1) := by decide +kernel
theorem d_lw_law_290 : decode (q_cc m_lw_law) 290 = .ok (.invokevirtual 32, 3) := by decide +kernel
theorem d_lw_law_293 : decode (q_cc m_lw_law) 293 = .ok (.if_icmp .eq 881, 3) := by decide +kernel
theorem d_lw_law_296 : decode (q_cc m_lw_law) 296 = .ok (.iconst 0, 1) := by decide +kernel
theorem d_lw_law_297 : decode (q_cc m_lw_law) 297 = .ok (.ireturn, 1) := by decide +kernel
theorem d_lw_law_298 : decode (q_cc m_lw_law) 298 = .ok (.aload_n 1, 1) := by decide +kernel
theorem d_lw_law_299 : decode (q_cc m_lw_law) 299 = .ok (.aload_n 0, 1) := by decide +kernel
theorem d_lw_law_300 : decode (q_cc m_lw_law) 300 = .ok (.iload_n 3, 1) := by decide +kernel
theorem d_lw_law_301 : decode (q_cc m_lw_law) 301 = .ok (.iconst 1, 1) := by decide +kernel
theorem d_lw_law_302 : decode (q_cc m_lw_law) 302 = .ok (.iadd, 1) := by decide +kernel
theorem d_lw_law_303 : decode (q_cc m_lw_law) 303 = .ok (.iaload, 1) := by decide +kernel
theorem d_lw_law_304 : decode (q_cc m_lw_law) 304 = .ok (.invokevirtual 33, 3) := by decide +kernel
theorem d_lw_law_307 : decode (q_cc m_lw_law) 307 = .ok (.aload_n 2, 1) := by decide +kernel
theorem d_lw_law_308 : decode (q_cc m_lw_law) 308 = .ok (.aload_n 0, 1) := by decide +kernel
theorem d_lw_law_309 : decode (q_cc m_lw_law) 309 = .ok (.iload_n 3, 1) := by decide +kernel
theorem d_lw_law_310 : decode (q_cc m_lw_law) 310 = .ok (.iconst 1, 1) := by decide +kernel
theorem d_lw_law_311 : decode (q_cc m_lw_law) 311 = .ok (.iadd, 1) := by decide +kernel
theorem d_lw_law_312 : decode (q_cc m_lw_law) 312 = .ok (.iaload, 1) := by decide +kernel
theorem d_lw_law_313 : decode (q_cc m_lw_law) 313 = .ok (.invokevirtual 36, 3) := by decide +kernel
theorem d_lw_law_316 : decode (q_cc m_lw_law) 316 = .ok (.if_icmp .eq 858, 3) := by decide +kernel
theorem d_lw_law_319 : decode (q_cc m_lw_law) 319 = .ok (.iconst 0, 1) := by decide +kernel
theorem d_lw_law_320 : decode (q_cc m_lw_law) 320 = .ok (.ireturn, 1) := by decide +kernel
theorem d_lw_law_321 : decode (q_cc m_lw_law) 321 = .ok (.aload_n 1, 1) := by decide +kernel
theorem d_lw_law_322 : decode (q_cc m_lw_law) 322 = .ok (.aload_n 0, 1) := by decide +kernel
theorem d_lw_law_323 : decode (q_cc m_lw_law) 323 = .ok (.iload_n 3, 1) := by decide +kernel
theorem d_lw_law_324 : decode (q_cc m_lw_law) 324 = .ok (.iconst 1, 1) := by decide +kernel
theorem d_lw_law_325 : decode (q_cc m_lw_law) 325 = .ok (.iadd, 1) := by decide +kernel
theorem d_lw_law_326 : decode (q_cc m_lw_law) 326 = .ok (.iaload, 1) := by decide +kernel
theorem d_lw_law_327 : decode (q_cc m_lw_law) 327 = .ok (.aload_n 0, 1) := by decide +kernel
theorem d_lw_law_328 : decode (q_cc m_lw_law) 328 = .ok (.iload_n 3, 1) := by decide +kernel
theorem d_lw_law_329 : decode (q_cc m_lw_law) 329 = .ok (.iconst 2, 1) := by decide +kernel
theorem d_lw_law_330 : decode (q_cc m_lw_law) 330 = .ok (.iadd, 1) := by decide +kernel
theorem d_lw_law_331 : decode (q_cc m_lw_law) 331 = .ok (.iaload, 1) := by decide +kernel
theorem d_lw_law_332 : decode (q_cc m_lw_law) 332 = .ok (.aload_n 0, 1) := by decide +kernel
theorem d_lw_law_333 : decode (q_cc m_lw_law) 333 = .ok (.iload_n 3, 1) := by decide +kernel
theorem d_lw_law_334 : decode (q_cc m_lw_law) 334 = .ok (.iconst 3, 1) := by decide +kernel
theorem d_lw_law_335 : decode (q_cc m_lw_law) 335 = .ok (.iadd, 1) := by decide +kernel
theorem d_lw_law_336 : decode (q_cc m_lw_law) 336 = .ok (.iaload, 1) := by decide +kernel
theorem d_lw_law_337 : decode (q_cc m_lw_law) 337 = .ok (.invokevirtual 37, 3) := by decide +kernel
theorem d_lw_law_340 : decode (q_cc m_lw_law) 340 = .ok (.aload_n 2, 1) := by decide +kernel
theorem d_lw_law_341 : decode (q_cc m_lw_law) 341 = .ok (.aload_n 0, 1) := by decide +kernel
theorem d_lw_law_342 : decode (q_cc m_lw_law) 342 = .ok (.iload_n 3, 1) := by decide +kernel
theorem d_lw_law_343 : decode (q_cc m_lw_law) 343 = .ok (.iconst 1, 1) := by decide +kernel
theorem d_lw_law_344 : decode (q_cc m_lw_law) 344 = .ok (.iadd, 1) := by decide +kernel
theorem d_lw_law_345 : decode (q_cc m_lw_law) 345 = .ok (.iaload, 1) := by decide +kernel
theorem d_lw_law_346 : decode (q_cc m_lw_law) 346 = .ok (.aload_n 0, 1) := by decide +kernel
theorem d_lw_law_347 : decode (q_cc m_lw_law) 347 = .ok (.iload_n 3, 1) := by decide +kernel
theorem d_lw_law_348 : decode (q_cc m_lw_law) 348 = .ok (.iconst 2, 1) := by decide +kernel
theorem d_lw_law_349 : decode (q_cc m_lw_law) 349 = .ok (.iadd, 1) := by decide +kernel
theorem d_lw_law_350 : decode (q_cc m_lw_law) 350 = .ok (.iaload, 1) := by decide +kernel
theorem d_lw_law_351 : decode (q_cc m_lw_law) 351 = .ok (.aload_n 0, 1) := by decide +kernel
theorem d_lw_law_352 : decode (q_cc m_lw_law) 352 = .ok (.iload_n 3, 1) := by decide +kernel
theorem d_lw_law_353 : decode (q_cc m_lw_law) 353 = .ok (.iconst 3, 1) := by decide +kernel
theorem d_lw_law_354 : decode (q_cc m_lw_law) 354 = .ok (.iadd, 1) := by decide +kernel
theorem d_lw_law_355 : decode (q_cc m_lw_law) 355 = .ok (.iaload, 1) := by decide +kernel
theorem d_lw_law_356 : decode (q_cc m_lw_law) 356 = .ok (.invokevirtual 41, 3) := by decide +kernel
theorem d_lw_law_359 : decode (q_cc m_lw_law) 359 = .ok (.if_icmp .eq 815, 3) := by decide +kernel
theorem d_lw_law_362 : decode (q_cc m_lw_law) 362 = .ok (.iconst 0, 1) := by decide +kernel
theorem d_lw_law_363 : decode (q_cc m_lw_law) 363 = .ok (.ireturn, 1) := by decide +kernel
theorem d_lw_law_364 : decode (q_cc m_lw_law) 364 = .ok (.aload_n 1, 1) := by decide +kernel
theorem d_lw_law_365 : decode (q_cc m_lw_law) 365 = .ok (.aload_n 0, 1) := by decide +kernel
theorem d_lw_law_366 : decode (q_cc m_lw_law) 366 = .ok (.iload_n 3, 1) := by decide +kernel
theorem d_lw_law_367 : decode (q_cc m_lw_law) 367 = .ok (.iconst 1, 1) := by decide +kernel
theorem d_lw_law_368 : decode (q_cc m_lw_law) 368 = .ok (.iadd, 1) := by decide +kernel
theorem d_lw_law_369 : decode (q_cc m_lw_law) 369 = .ok (.iaload, 1) := by decide +kernel
theorem d_lw_law_370 : decode (q_cc m_lw_law) 370 = .ok (.aload_n 0, 1) := by decide +kernel
theorem d_lw_law_371 : decode (q_cc m_lw_law) 371 = .ok (.iload_n 3, 1) := by decide +kernel
theorem d_lw_law_372 : decode (q_cc m_lw_law) 372 = .ok (.iconst 2, 1) := by decide +kernel
theorem d_lw_law_373 : decode (q_cc m_lw_law) 373 = .ok (.iadd, 1) := by decide +kernel
theorem d_lw_law_374 : decode (q_cc m_lw_law) 374 = .ok (.iaload, 1) := by decide +kernel
theorem d_lw_law_375 : decode (q_cc m_lw_law) 375 = .ok (.aload_n 0, 1) := by decide +kernel
theorem d_lw_law_376 : decode (q_cc m_lw_law) 376 = .ok (.iload_n 3, 1) := by decide +kernel
theorem d_lw_law_377 : decode (q_cc m_lw_law) 377 = .ok (.iconst 3, 1) := by decide +kernel
theorem d_lw_law_378 : decode (q_cc m_lw_law) 378 = .ok (.iadd, 1) := by decide +kernel
theorem d_lw_law_379 : decode (q_cc m_lw_law) 379 = .ok (.iaload, 1) := by decide +kernel
theorem d_lw_law_380 : decode (q_cc m_lw_law) 380 = .ok (.invokevirtual 42, 3) := by decide +kernel
theorem d_lw_law_383 : decode (q_cc m_lw_law) 383 = .ok (.aload_n 2, 1) := by decide +kernel
theorem d_lw_law_384 : decode (q_cc m_lw_law) 384 = .ok (.aload_n 0, 1) := by decide +kernel
theorem d_lw_law_385 : decode (q_cc m_lw_law) 385 = .ok (.iload_n 3, 1) := by decide +kernel
theorem d_lw_law_386 : decode (q_cc m_lw_law) 386 = .ok (.iconst 1, 1) := by decide +kernel
theorem d_lw_law_387 : decode (q_cc m_lw_law) 387 = .ok (.iadd, 1) := by decide +kernel
theorem d_lw_law_388 : decode (q_cc m_lw_law) 388 = .ok (.iaload, 1) := by decide +kernel
theorem d_lw_law_389 : decode (q_cc m_lw_law) 389 = .ok (.aload_n 0, 1) := by decide +kernel
theorem d_lw_law_390 : decode (q_cc m_lw_law) 390 = .ok (.iload_n 3, 1) := by decide +kernel
theorem d_lw_law_391 : decode (q_cc m_lw_law) 391 = .ok (.iconst 2, 1) := by decide +kernel
theorem d_lw_law_392 : decode (q_cc m_lw_law) 392 = .ok (.iadd, 1) := by decide +kernel
theorem d_lw_law_393 : decode (q_cc m_lw_law) 393 = .ok (.iaload, 1) := by decide +kernel
theorem d_lw_law_394 : decode (q_cc m_lw_law) 394 = .ok (.aload_n 0, 1) := by decide +kernel
theorem d_lw_law_395 : decode (q_cc m_lw_law) 395 = .ok (.iload_n 3, 1) := by decide +kernel
theorem d_lw_law_396 : decode (q_cc m_lw_law) 396 = .ok (.iconst 3, 1) := by decide +kernel
theorem d_lw_law_397 : decode (q_cc m_lw_law) 397 = .ok (.iadd, 1) := by decide +kernel
theorem d_lw_law_398 : decode (q_cc m_lw_law) 398 = .ok (.iaload, 1) := by decide +kernel
theorem d_lw_law_399 : decode (q_cc m_lw_law) 399 = .ok (.invokevirtual 45, 3) := by decide +kernel
theorem d_lw_law_402 : decode (q_cc m_lw_law) 402 = .ok (.if_icmp .eq 772, 3) := by decide +kernel
theorem d_lw_law_405 : decode (q_cc m_lw_law) 405 = .ok (.iconst 0, 1) := by decide +kernel
theorem d_lw_law_406 : decode (q_cc m_lw_law) 406 = .ok (.ireturn, 1) := by decide +kernel
theorem d_lw_law_407 : decode (q_cc m_lw_law) 407 = .ok (.aload_n 1, 1) := by decide +kernel
theorem d_lw_law_408 : decode (q_cc m_lw_law) 408 = .ok (.aload_n 0, 1) := by decide +kernel
theorem d_lw_law_409 : decode (q_cc m_lw_law) 409 = .ok (.iload_n 3, 1) := by decide +kernel
theorem d_lw_law_410 : decode (q_cc m_lw_law) 410 = .ok (.iconst 1, 1) := by decide +kernel
theorem d_lw_law_411 : decode (q_cc m_lw_law) 411 = .ok (.iadd, 1) := by decide +kernel
theorem d_lw_law_412 : decode (q_cc m_lw_law) 412 = .ok (.iaload, 1) := by decide +kernel
theorem d_lw_law_413 : decode (q_cc m_lw_law) 413 = .ok (.aload_n 0, 1) := by decide +kernel
theorem d_lw_law_414 : decode (q_cc m_lw_law) 414 = .ok (.iload_n 3, 1) := by decide +kernel
theorem d_lw_law_415 : decode (q_cc m_lw_law) 415 = .ok (.iconst 2, 1) := by decide +kernel
theorem d_lw_law_416 : decode (q_cc m_lw_law) 416 = .ok (.iadd, 1) := by decide +kernel
theorem d_lw_law_417 : decode (q_cc m_lw_law) 417 = .ok (.iaload, 1) := by decide +kernel
theorem d_lw_law_418 : decode (q_cc m_lw_law) 418 = .ok (.invokevirtual 46, 3) := by decide +kernel
theorem d_lw_law_421 : decode (q_cc m_lw_law) 421 = .ok (.aload_n 2, 1) := by decide +kernel
theorem d_lw_law_422 : decode (q_cc m_lw_law) 422 = .ok (.aload_n 0, 1) := by decide +kernel
theorem d_lw_law_423 : decode (q_cc m_lw_law) 423 = .ok (.iload_n 3, 1) := by decide +kernel
theorem d_lw_law_424 : decode (q_cc m_lw_law) 424 = .ok (.iconst 1, 1) := by decide +kernel
theorem d_lw_law_425 : decode (q_cc m_lw_law) 425 = .ok (.iadd, 1) := by decide +kernel
theorem d_lw_law_426 : decode (q_cc m_lw_law) 426 = .ok (.iaload, 1) := by decide +kernel
theorem d_lw_law_427 : decode (q_cc m_lw_law) 427 = .ok (.aload_n 0, 1) := by decide +kernel
theorem d_lw_law_428 : decode (q_cc m_lw_law) 428 = .ok (.iload_n 3, 1) := by decide +kernel
theorem d_lw_law_429 : decode (q_cc m_lw_law) 429 = .ok (.iconst 2, 1) := by decide +kernel
theorem d_lw_law_430 : decode (q_cc m_lw_law) 430 = .ok (.iadd, 1) := by decide +kernel
theorem d_lw_law_431 : decode (q_cc m_lw_law) 431 = .ok (.iaload, 1) := by decide +kernel
theorem d_lw_law_432 : decode (q_cc m_lw_law) 432 = .ok (.invokevirtual 50, 3) := by decide +kernel
theorem d_lw_law_435 : decode (q_cc m_lw_law) 435 = .ok (.if_icmp .eq 739, 3) := by decide +kernel
theorem d_lw_law_438 : decode (q_cc m_lw_law) 438 = .ok (.iconst 0, 1) := by decide +kernel
theorem d_lw_law_439 : decode (q_cc m_lw_law) 439 = .ok (.ireturn, 1) := by decide +kernel
theorem d_lw_law_440 : decode (q_cc m_lw_law) 440 = .ok (.aload_n 1, 1) := by decide +kernel
theorem d_lw_law_441 : decode (q_cc m_lw_law) 441 = .ok (.aload_n 0, 1) := by decide +kernel
theorem d_lw_law_442 : decode (q_cc m_lw_law) 442 = .ok (.iload_n 3, 1) := by decide +kernel
theorem d_lw_law_443 : decode (q_cc m_lw_law) 443 = .ok (.iconst 1, 1) := by decide +kernel
theorem d_lw_law_444 : decode (q_cc m_lw_law) 444 = .ok (.iadd, 1) := by decide +kernel
theorem d_lw_law_445 : decode (q_cc m_lw_law) 445 = .ok (.iaload, 1) := by decide +kernel
theorem d_lw_law_446 : decode (q_cc m_lw_law) 446 = .ok (.aload_n 0, 1) := by decide +kernel
theorem d_lw_law_447 : decode (q_cc m_lw_law) 447 = .ok (.iload_n 3, 1) := by decide +kernel
theorem d_lw_law_448 : decode (q_cc m_lw_law) 448 = .ok (.iconst 2, 1) := by decide +kernel
theorem d_lw_law_449 : decode (q_cc m_lw_law) 449 = .ok (.iadd, 1) := by decide +kernel
theorem d_lw_law_450 : decode (q_cc m_lw_law) 450 = .ok (.iaload, 1) := by decide +kernel
theorem d_lw_law_451 : decode (q_cc m_lw_law) 451 = .ok (.invokevirtual 51, 3) := by decide +kernel
theorem d_lw_law_454 : decode (q_cc m_lw_law) 454 = .ok (.aload_n 2, 1) := by decide +kernel
theorem d_lw_law_455 : decode (q_cc m_lw_law) 455 = .ok (.aload_n 0, 1) := by decide +kernel
theorem d_lw_law_456 : decode (q_cc m_lw_law) 456 = .ok (.iload_n 3, 1) := by decide +kernel
theorem d_lw_law_457 : decode (q_cc m_lw_law) 457 = .ok (.iconst 1, 1) := by decide +kernel
theorem d_lw_law_458 : decode (q_cc m_lw_law) 458 = .ok (.iadd, 1) := by decide +kernel
theorem d_lw_law_459 : decode (q_cc m_lw_law) 459 = .ok (.iaload, 1) := by decide +kernel
theorem d_lw_law_460 : decode (q_cc m_lw_law) 460 = .ok (.aload_n 0, 1) := by decide +kernel
theorem d_lw_law_461 : decode (q_cc m_lw_law) 461 = .ok (.iload_n 3, 1) := by decide +kernel
theorem d_lw_law_462 : decode (q_cc m_lw_law) 462 = .ok (.iconst 2, 1) := by decide +kernel
theorem d_lw_law_463 : decode (q_cc m_lw_law) 463 = .ok (.iadd, 1) := by decide +kernel
theorem d_lw_law_464 : decode (q_cc m_lw_law) 464 = .ok (.iaload, 1) := by decide +kernel
theorem d_lw_law_465 : decode (q_cc m_lw_law) 465 = .ok (.invokevirtual 54, 3) := by decide +kernel
theorem d_lw_law_468 : decode (q_cc m_lw_law) 468 = .ok (.if_icmp .eq 706, 3) := by decide +kernel
theorem d_lw_law_471 : decode (q_cc m_lw_law) 471 = .ok (.iconst 0, 1) := by decide +kernel
theorem d_lw_law_472 : decode (q_cc m_lw_law) 472 = .ok (.ireturn, 1) := by decide +kernel
theorem d_lw_law_473 : decode (q_cc m_lw_law) 473 = .ok (.aload_n 1, 1) := by decide +kernel
theorem d_lw_law_474 : decode (q_cc m_lw_law) 474 = .ok (.aload_n 0, 1) := by decide +kernel
theorem d_lw_law_475 : decode (q_cc m_lw_law) 475 = .ok (.iload_n 3, 1) := by decide +kernel
theorem d_lw_law_476 : decode (q_cc m_lw_law) 476 = .ok (.iconst 1, 1) := by decide +kernel
theorem d_lw_law_477 : decode (q_cc m_lw_law) 477 = .ok (.iadd, 1) := by decide +kernel
theorem d_lw_law_478 : decode (q_cc m_lw_law) 478 = .ok (.iaload, 1) := by decide +kernel
theorem d_lw_law_479 : decode (q_cc m_lw_law) 479 = .ok (.aload_n 0, 1) := by decide +kernel
theorem d_lw_law_480 : decode (q_cc m_lw_law) 480 = .ok (.iload_n 3, 1) := by decide +kernel
theorem d_lw_law_481 : decode (q_cc m_lw_law) 481 = .ok (.iconst 2, 1) := by decide +kernel
theorem d_lw_law_482 : decode (q_cc m_lw_law) 482 = .ok (.iadd, 1) := by decide +kernel
theorem d_lw_law_483 : decode (q_cc m_lw_law) 483 = .ok (.iaload, 1) := by decide +kernel
theorem d_lw_law_484 : decode (q_cc m_lw_law) 484 = .ok (.invokevirtual 55, 3) := by decide +kernel
theorem d_lw_law_487 : decode (q_cc m_lw_law) 487 = .ok (.aload_n 2, 1) := by decide +kernel
theorem d_lw_law_488 : decode (q_cc m_lw_law) 488 = .ok (.aload_n 0, 1) := by decide +kernel
theorem d_lw_law_489 : decode (q_cc m_lw_law) 489 = .ok (.iload_n 3, 1) := by decide +kernel
theorem d_lw_law_490 : decode (q_cc m_lw_law) 490 = .ok (.iconst 1, 1) := by decide +kernel
theorem d_lw_law_491 : decode (q_cc m_lw_law) 491 = .ok (.iadd, 1) := by decide +kernel
theorem d_lw_law_492 : decode (q_cc m_lw_law) 492 = .ok (.iaload, 1) := by decide +kernel
theorem d_lw_law_493 : decode (q_cc m_lw_law) 493 = .ok (.aload_n 0, 1) := by decide +kernel
theorem d_lw_law_494 : decode (q_cc m_lw_law) 494 = .ok (.iload_n 3, 1) := by decide +kernel
theorem d_lw_law_495 : decode (q_cc m_lw_law) 495 = .ok (.iconst 2, 1) := by decide +kernel
theorem d_lw_law_496 : decode (q_cc m_lw_law) 496 = .ok (.iadd, 1) := by decide +kernel
theorem d_lw_law_497 : decode (q_cc m_lw_law) 497 = .ok (.iaload, 1) := by decide +kernel
theorem d_lw_law_498 : decode (q_cc m_lw_law) 498 = .ok (.invokevirtual 58, 3) := by decide +kernel
theorem d_lw_law_501 : decode (q_cc m_lw_law) 501 = .ok (.if_icmp .eq 673, 3) := by decide +kernel
theorem d_lw_law_504 : decode (q_cc m_lw_law) 504 = .ok (.iconst 0, 1) := by decide +kernel
theorem d_lw_law_505 : decode (q_cc m_lw_law) 505 = .ok (.ireturn, 1) := by decide +kernel
theorem d_lw_law_506 : decode (q_cc m_lw_law) 506 = .ok (.aload_n 1, 1) := by decide +kernel
theorem d_lw_law_507 : decode (q_cc m_lw_law) 507 = .ok (.aload_n 0, 1) := by decide +kernel
theorem d_lw_law_508 : decode (q_cc m_lw_law) 508 = .ok (.iload_n 3, 1) := by decide +kernel
theorem d_lw_law_509 : decode (q_cc m_lw_law) 509 = .ok (.iconst 1, 1) := by decide +kernel
theorem d_lw_law_510 : decode (q_cc m_lw_law) 510 = .ok (.iadd, 1) := by decide +kernel
theorem d_lw_law_511 : decode (q_cc m_lw_law) 511 = .ok (.iaload, 1) := by decide +kernel
theorem d_lw_law_512 : decode (q_cc m_lw_law) 512 = .ok (.aload_n 0, 1) := by decide +kernel
theorem d_lw_law_513 : decode (q_cc m_lw_law) 513 = .ok (.iload_n 3, 1) := by decide +kernel
theorem d_lw_law_514 : decode (q_cc m_lw_law) 514 = .ok (.iconst 2, 1) := by decide +kernel
theorem d_lw_law_515 : decode (q_cc m_lw_law) 515 = .ok (.iadd, 1) := by decide +kernel
theorem d_lw_law_516 : decode (q_cc m_lw_law) 516 = .ok (.iaload, 1) := by decide +kernel
theorem d_lw_law_517 : decode (q_cc m_lw_law) 517 = .ok (.invokevirtual 59, 3) := by decide +kernel
theorem d_lw_law_520 : decode (q_cc m_lw_law) 520 = .ok (.aload_n 2, 1) := by decide +kernel
theorem d_lw_law_521 : decode (q_cc m_lw_law) 521 = .ok (.aload_n 0, 1) := by decide +kernel
theorem d_lw_law_522 : decode (q_cc m_lw_law) 522 = .ok (.iload_n 3, 1) := by decide +kernel
theorem d_lw_law_523 : decode (q_cc m_lw_law) 523 = .ok (.iconst 1, 1) := by decide +kernel
theorem d_lw_law_524 : decode (q_cc m_lw_law) 524 = .ok (.iadd, 1) := by decide +kernel
theorem d_lw_law_525 : decode (q_cc m_lw_law) 525 = .ok (.iaload, 1) := by decide +kernel
theorem d_lw_law_526 : decode (q_cc m_lw_law) 526 = .ok (.aload_n 0, 1) := by decide +kernel
theorem d_lw_law_527 : decode (q_cc m_lw_law) 527 = .ok (.iload_n 3, 1) := by decide +kernel
theorem d_lw_law_528 : decode (q_cc m_lw_law) 528 = .ok (.iconst 2, 1) := by decide +kernel
theorem d_lw_law_529 : decode (q_cc m_lw_law) 529 = .ok (.iadd, 1) := by decide +kernel
theorem d_lw_law_530 : decode (q_cc m_lw_law) 530 = .ok (.iaload, 1) := by decide +kernel
theorem d_lw_law_531 : decode (q_cc m_lw_law) 531 = .ok (.invokevirtual 62, 3) := by decide +kernel
theorem d_lw_law_534 : decode (q_cc m_lw_law) 534 = .ok (.if_icmp .eq 640, 3) := by decide +kernel
theorem d_lw_law_537 : decode (q_cc m_lw_law) 537 = .ok (.iconst 0, 1) := by decide +kernel
theorem d_lw_law_538 : decode (q_cc m_lw_law) 538 = .ok (.ireturn, 1) := by decide +kernel
theorem d_lw_law_539 : decode (q_cc m_lw_law) 539 = .ok (.aload_n 1, 1) := by decide +kernel
theorem d_lw_law_540 : decode (q_cc m_lw_law) 540 = .ok (.aload_n 0, 1) := by decide +kernel
theorem d_lw_law_541 : decode (q_cc m_lw_law) 541 = .ok (.iload_n 3, 1) := by decide +kernel
theorem d_lw_law_542 : decode (q_cc m_lw_law) 542 = .ok (.iconst 1, 1) := by decide +kernel
theorem d_lw_law_543 : decode (q_cc m_lw_law) 543 = .ok (.iadd, 1) := by decide +kernel
theorem d_lw_law_544 : decode (q_cc m_lw_law) 544 = .ok (.iaload, 1) := by decide +kernel
theorem d_lw_law_545 : decode (q_cc m_lw_law) 545 = .ok (.aload_n 0, 1) := by decide +kernel
theorem d_lw_law_546 : decode (q_cc m_lw_law) 546 = .ok (.iload_n 3, 1) := by decide +kernel
theorem d_lw_law_547 : decode (q_cc m_lw_law) 547 = .ok (.iconst 2, 1) := by decide +kernel
theorem d_lw_law_548 : decode (q_cc m_lw_law) 548 = .ok (.iadd, 1) := by decide +kernel
theorem d_lw_law_549 : decode (q_cc m_lw_law) 549 = .ok (.iaload, 1) := by decide +kernel
theorem d_lw_law_550 : decode (q_cc m_lw_law) 550 = .ok (.ifCond .eq 7, 3) := by decide +kernel
theorem d_lw_law_553 : decode (q_cc m_lw_law) 553 = .ok (.iconst 1, 1) := by decide +kernel
theorem d_lw_law_554 : decode (q_cc m_lw_law) 554 = .ok (.goto 4, 3) := by decide +kernel
theorem d_lw_law_557 : decode (q_cc m_lw_law) 557 = .ok (.iconst 0, 1) := by decide +kernel
theorem d_lw_law_558 : decode (q_cc m_lw_law) 558 = .ok (.aload_n 0, 1) := by decide +kernel
theorem d_lw_law_559 : decode (q_cc m_lw_law) 559 = .ok (.iload_n 3, 1) := by decide +kernel
theorem d_lw_law_560 : decode (q_cc m_lw_law) 560 = .ok (.iconst 3, 1) := by decide +kernel
theorem d_lw_law_561 : decode (q_cc m_lw_law) 561 = .ok (.iadd, 1) := by decide +kernel
theorem d_lw_law_562 : decode (q_cc m_lw_law) 562 = .ok (.iaload, 1) := by decide +kernel
theorem d_lw_law_563 : decode (q_cc m_lw_law) 563 = .ok (.invokevirtual 63, 3) := by decide +kernel
theorem d_lw_law_566 : decode (q_cc m_lw_law) 566 = .ok (.aload_n 2, 1) := by decide +kernel
theorem d_lw_law_567 : decode (q_cc m_lw_law) 567 = .ok (.aload_n 0, 1) := by decide +kernel
theorem d_lw_law_568 : decode (q_cc m_lw_law) 568 = .ok (.iload_n 3, 1) := by decide +kernel
theorem d_lw_law_569 : decode (q_cc m_lw_law) 569 = .ok (.iconst 1, 1) := by decide +kernel
theorem d_lw_law_570 : decode (q_cc m_lw_law) 570 = .ok (.iadd, 1) := by decide +kernel
theorem d_lw_law_571 : decode (q_cc m_lw_law) 571 = .ok (.iaload, 1) := by decide +kernel
theorem d_lw_law_572 : decode (q_cc m_lw_law) 572 = .ok (.aload_n 0, 1) := by decide +kernel
theorem d_lw_law_573 : decode (q_cc m_lw_law) 573 = .ok (.iload_n 3, 1) := by decide +kernel
theorem d_lw_law_574 : decode (q_cc m_lw_law) 574 = .ok (.iconst 2, 1) := by decide +kernel
theorem d_lw_law_575 : decode (q_cc m_lw_law) 575 = .ok (.iadd, 1) := by decide +kernel
theorem d_lw_law_576 : decode (q_cc m_lw_law) 576 = .ok (.iaload, 1) := by decide +kernel
theorem d_lw_law_577 : decode (q_cc m_lw_law) 577 = .ok (.ifCond .eq 7, 3) := by decide +kernel
theorem d_lw_law_580 : decode (q_cc m_lw_law) 580 = .ok (.iconst 1, 1) := by decide +kernel
theorem d_lw_law_581 : decode (q_cc m_lw_law) 581 = .ok (.goto 4, 3) := by decide +kernel
theorem d_lw_law_584 : decode (q_cc m_lw_law) 584 = .ok (.iconst 0, 1) := by decide +kernel
theorem d_lw_law_585 : decode (q_cc m_lw_law) 585 = .ok (.aload_n 0, 1) := by decide +kernel
theorem d_lw_law_586 : decode (q_cc m_lw_law) 586 = .ok (.iload_n 3, 1) := by decide +kernel
theorem d_lw_law_587 : decode (q_cc m_lw_law) 587 = .ok (.iconst 3, 1) := by decide +kernel
theorem d_lw_law_588 : decode (q_cc m_lw_law) 588 = .ok (.iadd, 1) := by decide +kernel
theorem d_lw_law_589 : decode (q_cc m_lw_law) 589 = .ok (.iaload, 1) := by decide +kernel
theorem d_lw_law_590 : decode (q_cc m_lw_law) 590 = .ok (.invokevirtual 67, 3) := by decide +kernel
theorem d_lw_law_593 : decode (q_cc m_lw_law) 593 = .ok (.if_icmp .eq 581, 3) := by decide +kernel
theorem d_lw_law_596 : decode (q_cc m_lw_law) 596 = .ok (.iconst 0, 1) := by decide +kernel
theorem d_lw_law_597 : decode (q_cc m_lw_law) 597 = .ok (.ireturn, 1) := by decide +kernel
theorem d_lw_law_598 : decode (q_cc m_lw_law) 598 = .ok (.aload_n 1, 1) := by decide +kernel
theorem d_lw_law_599 : decode (q_cc m_lw_law) 599 = .ok (.aload_n 0, 1) := by decide +kernel
theorem d_lw_law_600 : decode (q_cc m_lw_law) 600 = .ok (.iload_n 3, 1) := by decide +kernel
theorem d_lw_law_601 : decode (q_cc m_lw_law) 601 = .ok (.iconst 1, 1) := by decide +kernel
theorem d_lw_law_602 : decode (q_cc m_lw_law) 602 = .ok (.iadd, 1) := by decide +kernel
theorem d_lw_law_603 : decode (q_cc m_lw_law) 603 = .ok (.iaload, 1) := by decide +kernel
theorem d_lw_law_604 : decode (q_cc m_lw_law) 604 = .ok (.aload_n 0, 1) := by decide +kernel
theorem d_lw_law_605 : decode (q_cc m_lw_law) 605 = .ok (.iload_n 3, 1) := by decide +kernel
theorem d_lw_law_606 : decode (q_cc m_lw_law) 606 = .ok (.iconst 2, 1) := by decide +kernel
theorem d_lw_law_607 : decode (q_cc m_lw_law) 607 = .ok (.iadd, 1) := by decide +kernel
theorem d_lw_law_608 : decode (q_cc m_lw_law) 608 = .ok (.iaload, 1) := by decide +kernel
theorem d_lw_law_609 : decode (q_cc m_lw_law) 609 = .ok (.invokevirtual 68, 3) := by decide +kernel
theorem d_lw_law_612 : decode (q_cc m_lw_law) 612 = .ok (.aload_n 2, 1) := by decide +kernel
theorem d_lw_law_613 : decode (q_cc m_lw_law) 613 = .ok (.aload_n 0, 1) := by decide +kernel
theorem d_lw_law_614 : decode (q_cc m_lw_law) 614 = .ok (.iload_n 3, 1) := by decide +kernel
theorem d_lw_law_615 : decode (q_cc m_lw_law) 615 = .ok (.iconst 1, 1) := by decide +kernel
theorem d_lw_law_616 : decode (q_cc m_lw_law) 616 = .ok (.iadd, 1) := by decide +kernel
theorem d_lw_law_617 : decode (q_cc m_lw_law) 617 = .ok (.iaload, 1) := by decide +kernel
theorem d_lw_law_618 : decode (q_cc m_lw_law) 618 = .ok (.aload_n 0, 1) := by decide +kernel
theorem d_lw_law_619 : decode (q_cc m_lw_law) 619 = .ok (.iload_n 3, 1) := by decide +kernel
theorem d_lw_law_620 : decode (q_cc m_lw_law) 620 = .ok (.iconst 2, 1) := by decide +kernel
theorem d_lw_law_621 : decode (q_cc m_lw_law) 621 = .ok (.iadd, 1) := by decide +kernel
theorem d_lw_law_622 : decode (q_cc m_lw_law) 622 = .ok (.iaload, 1) := by decide +kernel
theorem d_lw_law_623 : decode (q_cc m_lw_law) 623 = .ok (.invokevirtual 71, 3) := by decide +kernel
theorem d_lw_law_626 : decode (q_cc m_lw_law) 626 = .ok (.if_icmp .eq 548, 3) := by decide +kernel
theorem d_lw_law_629 : decode (q_cc m_lw_law) 629 = .ok (.iconst 0, 1) := by decide +kernel
theorem d_lw_law_630 : decode (q_cc m_lw_law) 630 = .ok (.ireturn, 1) := by decide +kernel
theorem d_lw_law_631 : decode (q_cc m_lw_law) 631 = .ok (.aload_n 1, 1) := by decide +kernel
theorem d_lw_law_632 : decode (q_cc m_lw_law) 632 = .ok (.aload_n 0, 1) := by decide +kernel
theorem d_lw_law_633 : decode (q_cc m_lw_law) 633 = .ok (.iload_n 3, 1) := by decide +kernel
theorem d_lw_law_634 : decode (q_cc m_lw_law) 634 = .ok (.iconst 1, 1) := by decide +kernel
theorem d_lw_law_635 : decode (q_cc m_lw_law) 635 = .ok (.iadd, 1) := by decide +kernel
theorem d_lw_law_636 : decode (q_cc m_lw_law) 636 = .ok (.iaload, 1) := by decide +kernel
theorem d_lw_law_637 : decode (q_cc m_lw_law) 637 = .ok (.aload_n 0, 1) := by decide +kernel
theorem d_lw_law_638 : decode (q_cc m_lw_law) 638 = .ok (.iload_n 3, 1) := by decide +kernel
theorem d_lw_law_639 : decode (q_cc m_lw_law) 639 = .ok (.iconst 2, 1) := by decide +kernel
theorem d_lw_law_640 : decode (q_cc m_lw_law) 640 = .ok (.iadd, 1) := by decide +kernel
theorem d_lw_law_641 : decode (q_cc m_lw_law) 641 = .ok (.iaload, 1) := by decide +kernel
theorem d_lw_law_642 : decode (q_cc m_lw_law) 642 = .ok (.invokevirtual 72, 3) := by decide +kernel
theorem d_lw_law_645 : decode (q_cc m_lw_law) 645 = .ok (.aload_n 2, 1) := by decide +kernel
theorem d_lw_law_646 : decode (q_cc m_lw_law) 646 = .ok (.aload_n 0, 1) := by decide +kernel
theorem d_lw_law_647 : decode (q_cc m_lw_law) 647 = .ok (.iload_n 3, 1) := by decide +kernel
theorem d_lw_law_648 : decode (q_cc m_lw_law) 648 = .ok (.iconst 1, 1) := by decide +kernel
theorem d_lw_law_649 : decode (q_cc m_lw_law) 649 = .ok (.iadd, 1) := by decide +kernel
theorem d_lw_law_650 : decode (q_cc m_lw_law) 650 = .ok (.iaload, 1) := by decide +kernel
theorem d_lw_law_651 : decode (q_cc m_lw_law) 651 = .ok (.aload_n 0, 1) := by decide +kernel
theorem d_lw_law_652 : decode (q_cc m_lw_law) 652 = .ok (.iload_n 3, 1) := by decide +kernel
theorem d_lw_law_653 : decode (q_cc m_lw_law) 653 = .ok (.iconst 2, 1) := by decide +kernel
theorem d_lw_law_654 : decode (q_cc m_lw_law) 654 = .ok (.iadd, 1) := by decide +kernel
theorem d_lw_law_655 : decode (q_cc m_lw_law) 655 = .ok (.iaload, 1) := by decide +kernel
theorem d_lw_law_656 : decode (q_cc m_lw_law) 656 = .ok (.invokevirtual 75, 3) := by decide +kernel
theorem d_lw_law_659 : decode (q_cc m_lw_law) 659 = .ok (.if_icmp .eq 515, 3) := by decide +kernel
theorem d_lw_law_662 : decode (q_cc m_lw_law) 662 = .ok (.iconst 0, 1) := by decide +kernel
theorem d_lw_law_663 : decode (q_cc m_lw_law) 663 = .ok (.ireturn, 1) := by decide +kernel
theorem d_lw_law_664 : decode (q_cc m_lw_law) 664 = .ok (.aload_n 1, 1) := by decide +kernel
theorem d_lw_law_665 : decode (q_cc m_lw_law) 665 = .ok (.aload_n 0, 1) := by decide +kernel
theorem d_lw_law_666 : decode (q_cc m_lw_law) 666 = .ok (.iload_n 3, 1) := by decide +kernel
theorem d_lw_law_667 : decode (q_cc m_lw_law) 667 = .ok (.iconst 1, 1) := by decide +kernel
theorem d_lw_law_668 : decode (q_cc m_lw_law) 668 = .ok (.iadd, 1) := by decide +kernel
theorem d_lw_law_669 : decode (q_cc m_lw_law) 669 = .ok (.iaload, 1) := by decide +kernel
theorem d_lw_law_670 : decode (q_cc m_lw_law) 670 = .ok (.aload_n 0, 1) := by decide +kernel
theorem d_lw_law_671 : decode (q_cc m_lw_law) 671 = .ok (.iload_n 3, 1) := by decide +kernel
theorem d_lw_law_672 : decode (q_cc m_lw_law) 672 = .ok (.iconst 2, 1) := by decide +kernel
theorem d_lw_law_673 : decode (q_cc m_lw_law) 673 = .ok (.iadd, 1) := by decide +kernel
theorem d_lw_law_674 : decode (q_cc m_lw_law) 674 = .ok (.iaload, 1) := by decide +kernel
theorem d_lw_law_675 : decode (q_cc m_lw_law) 675 = .ok (.invokevirtual 76, 3) := by decide +kernel
theorem d_lw_law_678 : decode (q_cc m_lw_law) 678 = .ok (.aload_n 2, 1) := by decide +kernel
theorem d_lw_law_679 : decode (q_cc m_lw_law) 679 = .ok (.aload_n 0, 1) := by decide +kernel
theorem d_lw_law_680 : decode (q_cc m_lw_law) 680 = .ok (.iload_n 3, 1) := by decide +kernel
theorem d_lw_law_681 : decode (q_cc m_lw_law) 681 = .ok (.iconst 1, 1) := by decide +kernel
theorem d_lw_law_682 : decode (q_cc m_lw_law) 682 = .ok (.iadd, 1) := by decide +kernel
theorem d_lw_law_683 : decode (q_cc m_lw_law) 683 = .ok (.iaload, 1) := by decide +kernel
theorem d_lw_law_684 : decode (q_cc m_lw_law) 684 = .ok (.aload_n 0, 1) := by decide +kernel
theorem d_lw_law_685 : decode (q_cc m_lw_law) 685 = .ok (.iload_n 3, 1) := by decide +kernel
theorem d_lw_law_686 : decode (q_cc m_lw_law) 686 = .ok (.iconst 2, 1) := by decide +kernel
theorem d_lw_law_687 : decode (q_cc m_lw_law) 687 = .ok (.iadd, 1) := by decide +kernel
theorem d_lw_law_688 : decode (q_cc m_lw_law) 688 = .ok (.iaload, 1) := by decide +kernel
theorem d_lw_law_689 : decode (q_cc m_lw_law) 689 = .ok (.invokevirtual 79, 3) := by decide +kernel
theorem d_lw_law_692 : decode (q_cc m_lw_law) 692 = .ok (.if_icmp .eq 482, 3) := by decide +kernel
theorem d_lw_law_695 : decode (q_cc m_lw_law) 695 = .ok (.iconst 0, 1) := by decide +kernel
theorem d_lw_law_696 : decode (q_cc m_lw_law) 696 = .ok (.ireturn, 1) := by decide +kernel
theorem d_lw_law_697 : decode (q_cc m_lw_law) 697 = .ok (.aload_n 1, 1) := by decide +kernel
theorem d_lw_law_698 : decode (q_cc m_lw_law) 698 = .ok (.aload_n 0, 1) := by decide +kernel
theorem d_lw_law_699 : decode (q_cc m_lw_law) 699 = .ok (.iload_n 3, 1) := by decide +kernel
theorem d_lw_law_700 : decode (q_cc m_lw_law) 700 = .ok (.iconst 1, 1) := by decide +kernel
theorem d_lw_law_701 : decode (q_cc m_lw_law) 701 = .ok (.iadd, 1) := by decide +kernel
theorem d_lw_law_702 : decode (q_cc m_lw_law) 702 = .ok (.iaload, 1) := by decide +kernel
theorem d_lw_law_703 : decode (q_cc m_lw_law) 703 = .ok (.invokevirtual 80, 3) := by decide +kernel
theorem d_lw_law_706 : decode (q_cc m_lw_law) 706 = .ok (.aload_n 2, 1) := by decide +kernel
theorem d_lw_law_707 : decode (q_cc m_lw_law) 707 = .ok (.aload_n 0, 1) := by decide +kernel
theorem d_lw_law_708 : decode (q_cc m_lw_law) 708 = .ok (.iload_n 3, 1) := by decide +kernel
theorem d_lw_law_709 : decode (q_cc m_lw_law) 709 = .ok (.iconst 1, 1) := by decide +kernel
theorem d_lw_law_710 : decode (q_cc m_lw_law) 710 = .ok (.iadd, 1) := by decide +kernel
theorem d_lw_law_711 : decode (q_cc m_lw_law) 711 = .ok (.iaload, 1) := by decide +kernel
theorem d_lw_law_712 : decode (q_cc m_lw_law) 712 = .ok (.invokevirtual 83, 3) := by decide +kernel
theorem d_lw_law_715 : decode (q_cc m_lw_law) 715 = .ok (.if_icmp .eq 459, 3) := by decide +kernel
theorem d_lw_law_718 : decode (q_cc m_lw_law) 718 = .ok (.iconst 0, 1) := by decide +kernel
theorem d_lw_law_719 : decode (q_cc m_lw_law) 719 = .ok (.ireturn, 1) := by decide +kernel
theorem d_lw_law_720 : decode (q_cc m_lw_law) 720 = .ok (.aload_n 1, 1) := by decide +kernel
theorem d_lw_law_721 : decode (q_cc m_lw_law) 721 = .ok (.aload_n 0, 1) := by decide +kernel
theorem d_lw_law_722 : decode (q_cc m_lw_law) 722 = .ok (.iload_n 3, 1) := by decide +kernel
theorem d_lw_law_723 : decode (q_cc m_lw_law) 723 = .ok (.iconst 1, 1) := by decide +kernel
theorem d_lw_law_724 : decode (q_cc m_lw_law) 724 = .ok (.iadd, 1) := by decide +kernel
theorem d_lw_law_725 : decode (q_cc m_lw_law) 725 = .ok (.iaload, 1) := by decide +kernel
theorem d_lw_law_726 : decode (q_cc m_lw_law) 726 = .ok (.invokevirtual 84, 3) := by decide +kernel
theorem d_lw_law_729 : decode (q_cc m_lw_law) 729 = .ok (.aload_n 2, 1) := by decide +kernel
theorem d_lw_law_730 : decode (q_cc m_lw_law) 730 = .ok (.aload_n 0, 1) := by decide +kernel
theorem d_lw_law_731 : decode (q_cc m_lw_law) 731 = .ok (.iload_n 3, 1) := by decide +kernel
theorem d_lw_law_732 : decode (q_cc m_lw_law) 732 = .ok (.iconst 1, 1) := by decide +kernel
theorem d_lw_law_733 : decode (q_cc m_lw_law) 733 = .ok (.iadd, 1) := by decide +kernel
theorem d_lw_law_734 : decode (q_cc m_lw_law) 734 = .ok (.iaload, 1) := by decide +kernel
theorem d_lw_law_735 : decode (q_cc m_lw_law) 735 = .ok (.invokevirtual 87, 3) := by decide +kernel
theorem d_lw_law_738 : decode (q_cc m_lw_law) 738 = .ok (.if_icmp .eq 436, 3) := by decide +kernel
theorem d_lw_law_741 : decode (q_cc m_lw_law) 741 = .ok (.iconst 0, 1) := by decide +kernel
theorem d_lw_law_742 : decode (q_cc m_lw_law) 742 = .ok (.ireturn, 1) := by decide +kernel
theorem d_lw_law_743 : decode (q_cc m_lw_law) 743 = .ok (.aload_n 1, 1) := by decide +kernel
theorem d_lw_law_744 : decode (q_cc m_lw_law) 744 = .ok (.aload_n 0, 1) := by decide +kernel
theorem d_lw_law_745 : decode (q_cc m_lw_law) 745 = .ok (.iload_n 3, 1) := by decide +kernel
theorem d_lw_law_746 : decode (q_cc m_lw_law) 746 = .ok (.iconst 1, 1) := by decide +kernel
theorem d_lw_law_747 : decode (q_cc m_lw_law) 747 = .ok (.iadd, 1) := by decide +kernel
theorem d_lw_law_748 : decode (q_cc m_lw_law) 748 = .ok (.iaload, 1) := by decide +kernel
theorem d_lw_law_749 : decode (q_cc m_lw_law) 749 = .ok (.invokevirtual 88, 3) := by decide +kernel
theorem d_lw_law_752 : decode (q_cc m_lw_law) 752 = .ok (.aload_n 2, 1) := by decide +kernel
theorem d_lw_law_753 : decode (q_cc m_lw_law) 753 = .ok (.aload_n 0, 1) := by decide +kernel
theorem d_lw_law_754 : decode (q_cc m_lw_law) 754 = .ok (.iload_n 3, 1) := by decide +kernel
theorem d_lw_law_755 : decode (q_cc m_lw_law) 755 = .ok (.iconst 1, 1) := by decide +kernel
theorem d_lw_law_756 : decode (q_cc m_lw_law) 756 = .ok (.iadd, 1) := by decide +kernel
theorem d_lw_law_757 : decode (q_cc m_lw_law) 757 = .ok (.iaload, 1) := by decide +kernel
theorem d_lw_law_758 : decode (q_cc m_lw_law) 758 = .ok (.invokevirtual 91, 3) := by decide +kernel
theorem d_lw_law_761 : decode (q_cc m_lw_law) 761 = .ok (.if_icmp .eq 413, 3) := by decide +kernel
theorem d_lw_law_764 : decode (q_cc m_lw_law) 764 = .ok (.iconst 0, 1) := by decide +kernel
theorem d_lw_law_765 : decode (q_cc m_lw_law) 765 = .ok (.ireturn, 1) := by decide +kernel
theorem d_lw_law_766 : decode (q_cc m_lw_law) 766 = .ok (.aload_n 1, 1) := by decide +kernel
theorem d_lw_law_767 : decode (q_cc m_lw_law) 767 = .ok (.aload_n 0, 1) := by decide +kernel
theorem d_lw_law_768 : decode (q_cc m_lw_law) 768 = .ok (.iload_n 3, 1) := by decide +kernel
theorem d_lw_law_769 : decode (q_cc m_lw_law) 769 = .ok (.iconst 1, 1) := by decide +kernel
theorem d_lw_law_770 : decode (q_cc m_lw_law) 770 = .ok (.iadd, 1) := by decide +kernel
theorem d_lw_law_771 : decode (q_cc m_lw_law) 771 = .ok (.iaload, 1) := by decide +kernel
theorem d_lw_law_772 : decode (q_cc m_lw_law) 772 = .ok (.aload_n 0, 1) := by decide +kernel
theorem d_lw_law_773 : decode (q_cc m_lw_law) 773 = .ok (.iload_n 3, 1) := by decide +kernel
theorem d_lw_law_774 : decode (q_cc m_lw_law) 774 = .ok (.iconst 2, 1) := by decide +kernel
theorem d_lw_law_775 : decode (q_cc m_lw_law) 775 = .ok (.iadd, 1) := by decide +kernel
theorem d_lw_law_776 : decode (q_cc m_lw_law) 776 = .ok (.iaload, 1) := by decide +kernel
theorem d_lw_law_777 : decode (q_cc m_lw_law) 777 = .ok (.aload_n 0, 1) := by decide +kernel
theorem d_lw_law_778 : decode (q_cc m_lw_law) 778 = .ok (.iload_n 3, 1) := by decide +kernel
theorem d_lw_law_779 : decode (q_cc m_lw_law) 779 = .ok (.iconst 3, 1) := by decide +kernel
theorem d_lw_law_780 : decode (q_cc m_lw_law) 780 = .ok (.iadd, 1) := by decide +kernel
theorem d_lw_law_781 : decode (q_cc m_lw_law) 781 = .ok (.iaload, 1) := by decide +kernel
theorem d_lw_law_782 : decode (q_cc m_lw_law) 782 = .ok (.ifCond .eq 7, 3) := by decide +kernel
theorem d_lw_law_785 : decode (q_cc m_lw_law) 785 = .ok (.iconst 1, 1) := by decide +kernel
theorem d_lw_law_786 : decode (q_cc m_lw_law) 786 = .ok (.goto 4, 3) := by decide +kernel
theorem d_lw_law_789 : decode (q_cc m_lw_law) 789 = .ok (.iconst 0, 1) := by decide +kernel
theorem d_lw_law_790 : decode (q_cc m_lw_law) 790 = .ok (.invokevirtual 92, 3) := by decide +kernel
theorem d_lw_law_793 : decode (q_cc m_lw_law) 793 = .ok (.aload_n 2, 1) := by decide +kernel
theorem d_lw_law_794 : decode (q_cc m_lw_law) 794 = .ok (.aload_n 0, 1) := by decide +kernel
theorem d_lw_law_795 : decode (q_cc m_lw_law) 795 = .ok (.iload_n 3, 1) := by decide +kernel
theorem d_lw_law_796 : decode (q_cc m_lw_law) 796 = .ok (.iconst 1, 1) := by decide +kernel
theorem d_lw_law_797 : decode (q_cc m_lw_law) 797 = .ok (.iadd, 1) := by decide +kernel
theorem d_lw_law_798 : decode (q_cc m_lw_law) 798 = .ok (.iaload, 1) := by decide +kernel
theorem d_lw_law_799 : decode (q_cc m_lw_law) 799 = .ok (.aload_n 0, 1) := by decide +kernel
theorem d_lw_law_800 : decode (q_cc m_lw_law) 800 = .ok (.iload_n 3, 1) := by decide +kernel
theorem d_lw_law_801 : decode (q_cc m_lw_law) 801 = .ok (.iconst 2, 1) := by decide +kernel
theorem d_lw_law_802 : decode (q_cc m_lw_law) 802 = .ok (.iadd, 1) := by decide +kernel
theorem d_lw_law_803 : decode (q_cc m_lw_law) 803 = .ok (.iaload, 1) := by decide +kernel
theorem d_lw_law_804 : decode (q_cc m_lw_law) 804 = .ok (.aload_n 0, 1) := by decide +kernel
theorem d_lw_law_805 : decode (q_cc m_lw_law) 805 = .ok (.iload_n 3, 1) := by decide +kernel
theorem d_lw_law_806 : decode (q_cc m_lw_law) 806 = .ok (.iconst 3, 1) := by decide +kernel
theorem d_lw_law_807 : decode (q_cc m_lw_law) 807 = .ok (.iadd, 1) := by decide +kernel
theorem d_lw_law_808 : decode (q_cc m_lw_law) 808 = .ok (.iaload, 1) := by decide +kernel
theorem d_lw_law_809 : decode (q_cc m_lw_law) 809 = .ok (.ifCond .eq 7, 3) := by decide +kernel
theorem d_lw_law_812 : decode (q_cc m_lw_law) 812 = .ok (.iconst 1, 1) := by decide +kernel
theorem d_lw_law_813 : decode (q_cc m_lw_law) 813 = .ok (.goto 4, 3) := by decide +kernel
theorem d_lw_law_816 : decode (q_cc m_lw_law) 816 = .ok (.iconst 0, 1) := by decide +kernel
theorem d_lw_law_817 : decode (q_cc m_lw_law) 817 = .ok (.invokevirtual 96, 3) := by decide +kernel
theorem d_lw_law_820 : decode (q_cc m_lw_law) 820 = .ok (.if_icmp .eq 354, 3) := by decide +kernel
theorem d_lw_law_823 : decode (q_cc m_lw_law) 823 = .ok (.iconst 0, 1) := by decide +kernel
theorem d_lw_law_824 : decode (q_cc m_lw_law) 824 = .ok (.ireturn, 1) := by decide +kernel
theorem d_lw_law_825 : decode (q_cc m_lw_law) 825 = .ok (.aload_n 1, 1) := by decide +kernel
theorem d_lw_law_826 : decode (q_cc m_lw_law) 826 = .ok (.aload_n 0, 1) := by decide +kernel
theorem d_lw_law_827 : decode (q_cc m_lw_law) 827 = .ok (.iload_n 3, 1) := by decide +kernel
theorem d_lw_law_828 : decode (q_cc m_lw_law) 828 = .ok (.iconst 1, 1) := by decide +kernel
theorem d_lw_law_829 : decode (q_cc m_lw_law) 829 = .ok (.iadd, 1) := by decide +kernel
theorem d_lw_law_830 : decode (q_cc m_lw_law) 830 = .ok (.iaload, 1) := by decide +kernel
theorem d_lw_law_831 : decode (q_cc m_lw_law) 831 = .ok (.invokevirtual 97, 3) := by decide +kernel
theorem d_lw_law_834 : decode (q_cc m_lw_law) 834 = .ok (.aload_n 2, 1) := by decide +kernel
theorem d_lw_law_835 : decode (q_cc m_lw_law) 835 = .ok (.aload_n 0, 1) := by decide +kernel
theorem d_lw_law_836 : decode (q_cc m_lw_law) 836 = .ok (.iload_n 3, 1) := by decide +kernel
theorem d_lw_law_837 : decode (q_cc m_lw_law) 837 = .ok (.iconst 1, 1) := by decide +kernel
theorem d_lw_law_838 : decode (q_cc m_lw_law) 838 = .ok (.iadd, 1) := by decide +kernel
theorem d_lw_law_839 : decode (q_cc m_lw_law) 839 = .ok (.iaload, 1) := by decide +kernel
theorem d_lw_law_840 : decode (q_cc m_lw_law) 840 = .ok (.invokevirtual 100, 3) := by decide +kernel
theorem d_lw_law_843 : decode (q_cc m_lw_law) 843 = .ok (.if_icmp .eq 331, 3) := by decide +kernel
theorem d_lw_law_846 : decode (q_cc m_lw_law) 846 = .ok (.iconst 0, 1) := by decide +kernel
theorem d_lw_law_847 : decode (q_cc m_lw_law) 847 = .ok (.ireturn, 1) := by decide +kernel
theorem d_lw_law_848 : decode (q_cc m_lw_law) 848 = .ok (.aload_n 1, 1) := by decide +kernel
theorem d_lw_law_849 : decode (q_cc m_lw_law) 849 = .ok (.aload_n 0, 1) := by decide +kernel
theorem d_lw_law_850 : decode (q_cc m_lw_law) 850 = .ok (.iload_n 3, 1) := by decide +kernel
theorem d_lw_law_851 : decode (q_cc m_lw_law) 851 = .ok (.iconst 1, 1) := by decide +kernel
theorem d_lw_law_852 : decode (q_cc m_lw_law) 852 = .ok (.iadd, 1) := by decide +kernel
theorem d_lw_law_853 : decode (q_cc m_lw_law) 853 = .ok (.iaload, 1) := by decide +kernel
theorem d_lw_law_854 : decode (q_cc m_lw_law) 854 = .ok (.aload_n 0, 1) := by decide +kernel
theorem d_lw_law_855 : decode (q_cc m_lw_law) 855 = .ok (.iload_n 3, 1) := by decide +kernel
theorem d_lw_law_856 : decode (q_cc m_lw_law) 856 = .ok (.iconst 2, 1) := by decide +kernel
theorem d_lw_law_857 : decode (q_cc m_lw_law) 857 = .ok (.iadd, 1) := by decide +kernel
theorem d_lw_law_858 : decode (q_cc m_lw_law) 858 = .ok (.iaload, 1) := by decide +kernel
theorem d_lw_law_859 : decode (q_cc m_lw_law) 859 = .ok (.invokevirtual 101, 3) := by decide +kernel
theorem d_lw_law_862 : decode (q_cc m_lw_law) 862 = .ok (.aload_n 2, 1) := by decide +kernel
theorem d_lw_law_863 : decode (q_cc m_lw_law) 863 = .ok (.aload_n 0, 1) := by decide +kernel
theorem d_lw_law_864 : decode (q_cc m_lw_law) 864 = .ok (.iload_n 3, 1) := by decide +kernel
theorem d_lw_law_865 : decode (q_cc m_lw_law) 865 = .ok (.iconst 1, 1) := by decide +kernel
theorem d_lw_law_866 : decode (q_cc m_lw_law) 866 = .ok (.iadd, 1) := by decide +kernel
theorem d_lw_law_867 : decode (q_cc m_lw_law) 867 = .ok (.iaload, 1) := by decide +kernel
theorem d_lw_law_868 : decode (q_cc m_lw_law) 868 = .ok (.aload_n 0, 1) := by decide +kernel
theorem d_lw_law_869 : decode (q_cc m_lw_law) 869 = .ok (.iload_n 3, 1) := by decide +kernel
theorem d_lw_law_870 : decode (q_cc m_lw_law) 870 = .ok (.iconst 2, 1) := by decide +kernel
theorem d_lw_law_871 : decode (q_cc m_lw_law) 871 = .ok (.iadd, 1) := by decide +kernel
theorem d_lw_law_872 : decode (q_cc m_lw_law) 872 = .ok (.iaload, 1) := by decide +kernel
theorem d_lw_law_873 : decode (q_cc m_lw_law) 873 = .ok (.invokevirtual 105, 3) := by decide +kernel
theorem d_lw_law_876 : decode (q_cc m_lw_law) 876 = .ok (.if_icmp .eq 298, 3) := by decide +kernel
theorem d_lw_law_879 : decode (q_cc m_lw_law) 879 = .ok (.iconst 0, 1) := by decide +kernel
theorem d_lw_law_880 : decode (q_cc m_lw_law) 880 = .ok (.ireturn, 1) := by decide +kernel
theorem d_lw_law_881 : decode (q_cc m_lw_law) 881 = .ok (.aload_n 1, 1) := by decide +kernel
theorem d_lw_law_882 : decode (q_cc m_lw_law) 882 = .ok (.invokevirtual 106, 3) := by decide +kernel
theorem d_lw_law_885 : decode (q_cc m_lw_law) 885 = .ok (.aload_n 2, 1) := by decide +kernel
theorem d_lw_law_886 : decode (q_cc m_lw_law) 886 = .ok (.invokevirtual 110, 3) := by decide +kernel
theorem d_lw_law_889 : decode (q_cc m_lw_law) 889 = .ok (.if_icmp .eq 285, 3) := by decide +kernel
theorem d_lw_law_892 : decode (q_cc m_lw_law) 892 = .ok (.iconst 0, 1) := by decide +kernel
theorem d_lw_law_893 : decode (q_cc m_lw_law) 893 = .ok (.ireturn, 1) := by decide +kernel
theorem d_lw_law_894 : decode (q_cc m_lw_law) 894 = .ok (.aload_n 1, 1) := by decide +kernel
theorem d_lw_law_895 : decode (q_cc m_lw_law) 895 = .ok (.aload_n 0, 1) := by decide +kernel
theorem d_lw_law_896 : decode (q_cc m_lw_law) 896 = .ok (.iload_n 3, 1) := by decide +kernel
theorem d_lw_law_897 : decode (q_cc m_lw_law) 897 = .ok (.iconst 1, 1) := by decide +kernel
theorem d_lw_law_898 : decode (q_cc m_lw_law) 898 = .ok (.iadd, 1) := by decide +kernel
theorem d_lw_law_899 : decode (q_cc m_lw_law) 899 = .ok (.iaload, 1) := by decide +kernel
theorem d_lw_law_900 : decode (q_cc m_lw_law) 900 = .ok (.aload_n 0, 1) := by decide +kernel
theorem d_lw_law_901 : decode (q_cc m_lw_law) 901 = .ok (.iload_n 3, 1) := by decide +kernel
theorem d_lw_law_902 : decode (q_cc m_lw_law) 902 = .ok (.iconst 2, 1) := by decide +kernel
theorem d_lw_law_903 : decode (q_cc m_lw_law) 903 = .ok (.iadd, 1) := by decide +kernel
theorem d_lw_law_904 : decode (q_cc m_lw_law) 904 = .ok (.iaload, 1) := by decide +kernel
theorem d_lw_law_905 : decode (q_cc m_lw_law) 905 = .ok (.aload_n 0, 1) := by decide +kernel
theorem d_lw_law_906 : decode (q_cc m_lw_law) 906 = .ok (.iload_n 3, 1) := by decide +kernel
theorem d_lw_law_907 : decode (q_cc m_lw_law) 907 = .ok (.iconst 3, 1) := by decide +kernel
theorem d_lw_law_908 : decode (q_cc m_lw_law) 908 = .ok (.iadd, 1) := by decide +kernel
theorem d_lw_law_909 : decode (q_cc m_lw_law) 909 = .ok (.iaload, 1) := by decide +kernel
theorem d_lw_law_910 : decode (q_cc m_lw_law) 910 = .ok (.invokevirtual 111, 3) := by decide +kernel
theorem d_lw_law_913 : decode (q_cc m_lw_law) 913 = .ok (.aload_n 2, 1) := by decide +kernel
theorem d_lw_law_914 : decode (q_cc m_lw_law) 914 = .ok (.aload_n 0, 1) := by decide +kernel
theorem d_lw_law_915 : decode (q_cc m_lw_law) 915 = .ok (.iload_n 3, 1) := by decide +kernel
theorem d_lw_law_916 : decode (q_cc m_lw_law) 916 = .ok (.iconst 1, 1) := by decide +kernel
theorem d_lw_law_917 : decode (q_cc m_lw_law) 917 = .ok (.iadd, 1) := by decide +kernel
theorem d_lw_law_918 : decode (q_cc m_lw_law) 918 = .ok (.iaload, 1) := by decide +kernel
theorem d_lw_law_919 : decode (q_cc m_lw_law) 919 = .ok (.aload_n 0, 1) := by decide +kernel
theorem d_lw_law_920 : decode (q_cc m_lw_law) 920 = .ok (.iload_n 3, 1) := by decide +kernel
theorem d_lw_law_921 : decode (q_cc m_lw_law) 921 = .ok (.iconst 2, 1) := by decide +kernel
theorem d_lw_law_922 : decode (q_cc m_lw_law) 922 = .ok (.iadd, 1) := by decide +kernel
theorem d_lw_law_923 : decode (q_cc m_lw_law) 923 = .ok (.iaload, 1) := by decide +kernel
theorem d_lw_law_924 : decode (q_cc m_lw_law) 924 = .ok (.aload_n 0, 1) := by decide +kernel
theorem d_lw_law_925 : decode (q_cc m_lw_law) 925 = .ok (.iload_n 3, 1) := by decide +kernel
theorem d_lw_law_926 : decode (q_cc m_lw_law) 926 = .ok (.iconst 3, 1) := by decide +kernel
theorem d_lw_law_927 : decode (q_cc m_lw_law) 927 = .ok (.iadd, 1) := by decide +kernel
theorem d_lw_law_928 : decode (q_cc m_lw_law) 928 = .ok (.iaload, 1) := by decide +kernel
theorem d_lw_law_929 : decode (q_cc m_lw_law) 929 = .ok (.invokevirtual 114, 3) := by decide +kernel
theorem d_lw_law_932 : decode (q_cc m_lw_law) 932 = .ok (.if_icmp .eq 242, 3) := by decide +kernel
theorem d_lw_law_935 : decode (q_cc m_lw_law) 935 = .ok (.iconst 0, 1) := by decide +kernel
theorem d_lw_law_936 : decode (q_cc m_lw_law) 936 = .ok (.ireturn, 1) := by decide +kernel
theorem d_lw_law_937 : decode (q_cc m_lw_law) 937 = .ok (.aload_n 1, 1) := by decide +kernel
theorem d_lw_law_938 : decode (q_cc m_lw_law) 938 = .ok (.aload_n 0, 1) := by decide +kernel
theorem d_lw_law_939 : decode (q_cc m_lw_law) 939 = .ok (.iload_n 3, 1) := by decide +kernel
theorem d_lw_law_940 : decode (q_cc m_lw_law) 940 = .ok (.iconst 1, 1) := by decide +kernel
theorem d_lw_law_941 : decode (q_cc m_lw_law) 941 = .ok (.iadd, 1) := by decide +kernel
theorem d_lw_law_942 : decode (q_cc m_lw_law) 942 = .ok (.iaload, 1) := by decide +kernel
theorem d_lw_law_943 : decode (q_cc m_lw_law) 943 = .ok (.aload_n 0, 1) := by decide +kernel
theorem d_lw_law_944 : decode (q_cc m_lw_law) 944 = .ok (.iload_n 3, 1) := by decide +kernel
theorem d_lw_law_945 : decode (q_cc m_lw_law) 945 = .ok (.iconst 2, 1) := by decide +kernel
theorem d_lw_law_946 : decode (q_cc m_lw_law) 946 = .ok (.iadd, 1) := by decide +kernel
theorem d_lw_law_947 : decode (q_cc m_lw_law) 947 = .ok (.iaload, 1) := by decide +kernel
theorem d_lw_law_948 : decode (q_cc m_lw_law) 948 = .ok (.invokevirtual 115, 3) := by decide +kernel
theorem d_lw_law_951 : decode (q_cc m_lw_law) 951 = .ok (.aload_n 2, 1) := by decide +kernel
theorem d_lw_law_952 : decode (q_cc m_lw_law) 952 = .ok (.aload_n 0, 1) := by decide +kernel
theorem d_lw_law_953 : decode (q_cc m_lw_law) 953 = .ok (.iload_n 3, 1) := by decide +kernel
theorem d_lw_law_954 : decode (q_cc m_lw_law) 954 = .ok (.iconst 1, 1) := by decide +kernel
theorem d_lw_law_955 : decode (q_cc m_lw_law) 955 = .ok (.iadd, 1) := by decide +kernel
theorem d_lw_law_956 : decode (q_cc m_lw_law) 956 = .ok (.iaload, 1) := by decide +kernel
theorem d_lw_law_957 : decode (q_cc m_lw_law) 957 = .ok (.aload_n 0, 1) := by decide +kernel
theorem d_lw_law_958 : decode (q_cc m_lw_law) 958 = .ok (.iload_n 3, 1) := by decide +kernel
theorem d_lw_law_959 : decode (q_cc m_lw_law) 959 = .ok (.iconst 2, 1) := by decide +kernel
theorem d_lw_law_960 : decode (q_cc m_lw_law) 960 = .ok (.iadd, 1) := by decide +kernel
theorem d_lw_law_961 : decode (q_cc m_lw_law) 961 = .ok (.iaload, 1) := by decide +kernel
theorem d_lw_law_962 : decode (q_cc m_lw_law) 962 = .ok (.invokevirtual 118, 3) := by decide +kernel
theorem d_lw_law_965 : decode (q_cc m_lw_law) 965 = .ok (.if_icmp .eq 209, 3) := by decide +kernel
theorem d_lw_law_968 : decode (q_cc m_lw_law) 968 = .ok (.iconst 0, 1) := by decide +kernel
theorem d_lw_law_969 : decode (q_cc m_lw_law) 969 = .ok (.ireturn, 1) := by decide +kernel
theorem d_lw_law_970 : decode (q_cc m_lw_law) 970 = .ok (.aload_n 1, 1) := by decide +kernel
theorem d_lw_law_971 : decode (q_cc m_lw_law) 971 = .ok (.aload_n 0, 1) := by decide +kernel
theorem d_lw_law_972 : decode (q_cc m_lw_law) 972 = .ok (.iload_n 3, 1) := by decide +kernel
theorem d_lw_law_973 : decode (q_cc m_lw_law) 973 = .ok (.iconst 1, 1) := by decide +kernel
theorem d_lw_law_974 : decode (q_cc m_lw_law) 974 = .ok (.iadd, 1) := by decide +kernel
theorem d_lw_law_975 : decode (q_cc m_lw_law) 975 = .ok (.iaload, 1) := by decide +kernel
theorem d_lw_law_976 : decode (q_cc m_lw_law) 976 = .ok (.aload_n 0, 1) := by decide +kernel
theorem d_lw_law_977 : decode (q_cc m_lw_law) 977 = .ok (.iload_n 3, 1) := by decide +kernel
theorem d_lw_law_978 : decode (q_cc m_lw_law) 978 = .ok (.iconst 2, 1) := by decide +kernel
theorem d_lw_law_979 : decode (q_cc m_lw_law) 979 = .ok (.iadd, 1) := by decide +kernel
theorem d_lw_law_980 : decode (q_cc m_lw_law) 980 = .ok (.iaload, 1) := by decide +kernel
theorem d_lw_law_981 : decode (q_cc m_lw_law) 981 = .ok (.aload_n 0, 1) := by decide +kernel
theorem d_lw_law_982 : decode (q_cc m_lw_law) 982 = .ok (.iload_n 3, 1) := by decide +kernel
theorem d_lw_law_983 : decode (q_cc m_lw_law) 983 = .ok (.iconst 3, 1) := by decide +kernel
theorem d_lw_law_984 : decode (q_cc m_lw_law) 984 = .ok (.iadd, 1) := by decide +kernel
theorem d_lw_law_985 : decode (q_cc m_lw_law) 985 = .ok (.iaload, 1) := by decide +kernel
theorem d_lw_law_986 : decode (q_cc m_lw_law) 986 = .ok (.aload_n 0, 1) := by decide +kernel
theorem d_lw_law_987 : decode (q_cc m_lw_law) 987 = .ok (.iload_n 3, 1) := by decide +kernel
theorem d_lw_law_988 : decode (q_cc m_lw_law) 988 = .ok (.iconst 4, 1) := by decide +kernel
theorem d_lw_law_989 : decode (q_cc m_lw_law) 989 = .ok (.iadd, 1) := by decide +kernel
theorem d_lw_law_990 : decode (q_cc m_lw_law) 990 = .ok (.iaload, 1) := by decide +kernel
theorem d_lw_law_991 : decode (q_cc m_lw_law) 991 = .ok (.invokevirtual 119, 3) := by decide +kernel
theorem d_lw_law_994 : decode (q_cc m_lw_law) 994 = .ok (.aload_n 2, 1) := by decide +kernel
theorem d_lw_law_995 : decode (q_cc m_lw_law) 995 = .ok (.aload_n 0, 1) := by decide +kernel
theorem d_lw_law_996 : decode (q_cc m_lw_law) 996 = .ok (.iload_n 3, 1) := by decide +kernel
theorem d_lw_law_997 : decode (q_cc m_lw_law) 997 = .ok (.iconst 1, 1) := by decide +kernel
theorem d_lw_law_998 : decode (q_cc m_lw_law) 998 = .ok (.iadd, 1) := by decide +kernel
theorem d_lw_law_999 : decode (q_cc m_lw_law) 999 = .ok (.iaload, 1) := by decide +kernel
theorem d_lw_law_1000 : decode (q_cc m_lw_law) 1000 = .ok (.aload_n 0, 1) := by decide +kernel
theorem d_lw_law_1001 : decode (q_cc m_lw_law) 1001 = .ok (.iload_n 3, 1) := by decide +kernel
theorem d_lw_law_1002 : decode (q_cc m_lw_law) 1002 = .ok (.iconst 2, 1) := by decide +kernel
theorem d_lw_law_1003 : decode (q_cc m_lw_law) 1003 = .ok (.iadd, 1) := by decide +kernel
theorem d_lw_law_1004 : decode (q_cc m_lw_law) 1004 = .ok (.iaload, 1) := by decide +kernel
theorem d_lw_law_1005 : decode (q_cc m_lw_law) 1005 = .ok (.aload_n 0, 1) := by decide +kernel
theorem d_lw_law_1006 : decode (q_cc m_lw_law) 1006 = .ok (.iload_n 3, 1) := by decide +kernel
theorem d_lw_law_1007 : decode (q_cc m_lw_law) 1007 = .ok (.iconst 3, 1) := by decide +kernel
theorem d_lw_law_1008 : decode (q_cc m_lw_law) 1008 = .ok (.iadd, 1) := by decide +kernel
theorem d_lw_law_1009 : decode (q_cc m_lw_law) 1009 = .ok (.iaload, 1) := by decide +kernel
theorem d_lw_law_1010 : decode (q_cc m_lw_law) 1010 = .ok (.aload_n 0, 1) := by decide +kernel
theorem d_lw_law_1011 : decode (q_cc m_lw_law) 1011 = .ok (.iload_n 3, 1) := by decide +kernel
theorem d_lw_law_1012 : decode (q_cc m_lw_law) 1012 = .ok (.iconst 4, 1) := by decide +kernel
theorem d_lw_law_1013 : decode (q_cc m_lw_law) 1013 = .ok (.iadd, 1) := by decide +kernel
theorem d_lw_law_1014 : decode (q_cc m_lw_law) 1014 = .ok (.iaload, 1) := by decide +kernel
theorem d_lw_law_1015 : decode (q_cc m_lw_law) 1015 = .ok (.invokevirtual 123, 3) := by decide +kernel
theorem d_lw_law_1018 : decode (q_cc m_lw_law) 1018 = .ok (.if_icmp .eq 156, 3) := by decide +kernel
theorem d_lw_law_1021 : decode (q_cc m_lw_law) 1021 = .ok (.iconst 0, 1) := by decide +kernel
theorem d_lw_law_1022 : decode (q_cc m_lw_law) 1022 = .ok (.ireturn, 1) := by decide +kernel
theorem d_lw_law_1023 : decode (q_cc m_lw_law) 1023 = .ok (.aload_n 1, 1) := by decide +kernel
theorem d_lw_law_1024 : decode (q_cc m_lw_law) 1024 = .ok (.aload_n 0, 1) := by decide +kernel
theorem d_lw_law_1025 : decode (q_cc m_lw_law) 1025 = .ok (.iload_n 3, 1) := by decide +kernel
theorem d_lw_law_1026 : decode (q_cc m_lw_law) 1026 = .ok (.iconst 1, 1) := by decide +kernel
theorem d_lw_law_1027 : decode (q_cc m_lw_law) 1027 = .ok (.iadd, 1) := by decide +kernel
theorem d_lw_law_1028 : decode (q_cc m_lw_law) 1028 = .ok (.iaload, 1) := by decide +kernel
theorem d_lw_law_1029 : decode (q_cc m_lw_law) 1029 = .ok (.aload_n 0, 1) := by decide +kernel
theorem d_lw_law_1030 : decode (q_cc m_lw_law) 1030 = .ok (.iload_n 3, 1) := by decide +kernel
theorem d_lw_law_1031 : decode (q_cc m_lw_law) 1031 = .ok (.iconst 2, 1) := by decide +kernel
theorem d_lw_law_1032 : decode (q_cc m_lw_law) 1032 = .ok (.iadd, 1) := by decide +kernel
theorem d_lw_law_1033 : decode (q_cc m_lw_law) 1033 = .ok (.iaload, 1) := by decide +kernel
theorem d_lw_law_1034 : decode (q_cc m_lw_law) 1034 = .ok (.invokevirtual 124, 3) := by decide +kernel
theorem d_lw_law_1037 : decode (q_cc m_lw_law) 1037 = .ok (.aload_n 2, 1) := by decide +kernel
theorem d_lw_law_1038 : decode (q_cc m_lw_law) 1038 = .ok (.aload_n 0, 1) := by decide +kernel
theorem d_lw_law_1039 : decode (q_cc m_lw_law) 1039 = .ok (.iload_n 3, 1) := by decide +kernel
theorem d_lw_law_1040 : decode (q_cc m_lw_law) 1040 = .ok (.iconst 1, 1) := by decide +kernel
theorem d_lw_law_1041 : decode (q_cc m_lw_law) 1041 = .ok (.iadd, 1) := by decide +kernel
theorem d_lw_law_1042 : decode (q_cc m_lw_law) 1042 = .ok (.iaload, 1) := by decide +kernel
theorem d_lw_law_1043 : decode (q_cc m_lw_law) 1043 = .ok (.aload_n 0, 1) := by decide +kernel
theorem d_lw_law_1044 : decode (q_cc m_lw_law) 1044 = .ok (.iload_n 3, 1) := by decide +kernel
theorem d_lw_law_1045 : decode (q_cc m_lw_law) 1045 = .ok (.iconst 2, 1) := by decide +kernel
theorem d_lw_law_1046 : decode (q_cc m_lw_law) 1046 = .ok (.iadd, 1) := by decide +kernel
theorem d_lw_law_1047 : decode (q_cc m_lw_law) 1047 = .ok (.iaload, 1) := by decide +kernel
theorem d_lw_law_1048 : decode (q_cc m_lw_law) 1048 = .ok (.invokevirtual 127, 3) := by decide +kernel
theorem d_lw_law_1051 : decode (q_cc m_lw_law) 1051 = .ok (.if_icmp .eq 123, 3) := by decide +kernel
theorem d_lw_law_1054 : decode (q_cc m_lw_law) 1054 = .ok (.iconst 0, 1) := by decide +kernel
theorem d_lw_law_1055 : decode (q_cc m_lw_law) 1055 = .ok (.ireturn, 1) := by decide +kernel
theorem d_lw_law_1056 : decode (q_cc m_lw_law) 1056 = .ok (.aload_n 1, 1) := by decide +kernel
theorem d_lw_law_1057 : decode (q_cc m_lw_law) 1057 = .ok (.aload_n 0, 1) := by decide +kernel
theorem d_lw_law_1058 : decode (q_cc m_lw_law) 1058 = .ok (.iload_n 3, 1) := by decide +kernel
theorem d_lw_law_1059 : decode (q_cc m_lw_law) 1059 = .ok (.iconst 1, 1) := by decide +kernel
theorem d_lw_law_1060 : decode (q_cc m_lw_law) 1060 = .ok (.iadd, 1) := by decide +kernel
theorem d_lw_law_1061 : decode (q_cc m_lw_law) 1061 = .ok (.iaload, 1) := by decide +kernel
theorem d_lw_law_1062 : decode (q_cc m_lw_law) 1062 = .ok (.invokevirtual 128, 3) := by decide +kernel
theorem d_lw_law_1065 : decode (q_cc m_lw_law) 1065 = .ok (.aload_n 2, 1) := by decide +kernel
theorem d_lw_law_1066 : decode (q_cc m_lw_law) 1066 = .ok (.aload_n 0, 1) := by decide +kernel
theorem d_lw_law_1067 : decode (q_cc m_lw_law) 1067 = .ok (.iload_n 3, 1) := by decide +kernel
theorem d_lw_law_1068 : decode (q_cc m_lw_law) 1068 = .ok (.iconst 1, 1) := by decide +kernel
theorem d_lw_law_1069 : decode (q_cc m_lw_law) 1069 = .ok (.iadd, 1) := by decide +kernel
theorem d_lw_law_1070 : decode (q_cc m_lw_law) 1070 = .ok (.iaload, 1) := by decide +kernel
theorem d_lw_law_1071 : decode (q_cc m_lw_law) 1071 = .ok (.invokevirtual 131, 3) := by decide +kernel
theorem d_lw_law_1074 : decode (q_cc m_lw_law) 1074 = .ok (.if_icmp .eq 100, 3) := by decide +kernel
theorem d_lw_law_1077 : decode (q_cc m_lw_law) 1077 = .ok (.iconst 0, 1) := by decide +kernel
theorem d_lw_law_1078 : decode (q_cc m_lw_law) 1078 = .ok (.ireturn, 1) := by decide +kernel
theorem d_lw_law_1079 : decode (q_cc m_lw_law) 1079 = .ok (.aload_n 1, 1) := by decide +kernel
theorem d_lw_law_1080 : decode (q_cc m_lw_law) 1080 = .ok (.aload_n 0, 1) := by decide +kernel
theorem d_lw_law_1081 : decode (q_cc m_lw_law) 1081 = .ok (.iload_n 3, 1) := by decide +kernel
theorem d_lw_law_1082 : decode (q_cc m_lw_law) 1082 = .ok (.iconst 1, 1) := by decide +kernel
theorem d_lw_law_1083 : decode (q_cc m_lw_law) 1083 = .ok (.iadd, 1) := by decide +kernel
theorem d_lw_law_1084 : decode (q_cc m_lw_law) 1084 = .ok (.iaload, 1) := by decide +kernel
theorem d_lw_law_1085 : decode (q_cc m_lw_law) 1085 = .ok (.aload_n 0, 1) := by decide +kernel
theorem d_lw_law_1086 : decode (q_cc m_lw_law) 1086 = .ok (.iload_n 3, 1) := by decide +kernel
theorem d_lw_law_1087 : decode (q_cc m_lw_law) 1087 = .ok (.iconst 2, 1) := by decide +kernel
theorem d_lw_law_1088 : decode (q_cc m_lw_law) 1088 = .ok (.iadd, 1) := by decide +kernel
theorem d_lw_law_1089 : decode (q_cc m_lw_law) 1089 = .ok (.iaload, 1) := by decide +kernel
theorem d_lw_law_1090 : decode (q_cc m_lw_law) 1090 = .ok (.invokevirtual 132, 3) := by decide +kernel
theorem d_lw_law_1093 : decode (q_cc m_lw_law) 1093 = .ok (.aload_n 2, 1) := by decide +kernel
theorem d_lw_law_1094 : decode (q_cc m_lw_law) 1094 = .ok (.aload_n 0, 1) := by decide +kernel
theorem d_lw_law_1095 : decode (q_cc m_lw_law) 1095 = .ok (.iload_n 3, 1) := by decide +kernel
theorem d_lw_law_1096 : decode (q_cc m_lw_law) 1096 = .ok (.iconst 1, 1) := by decide +kernel
theorem d_lw_law_1097 : decode (q_cc m_lw_law) 1097 = .ok (.iadd, 1) := by decide +kernel
theorem d_lw_law_1098 : decode (q_cc m_lw_law) 1098 = .ok (.iaload, 1) := by decide +kernel
theorem d_lw_law_1099 : decode (q_cc m_lw_law) 1099 = .ok (.aload_n 0, 1) := by decide +kernel
theorem d_lw_law_1100 : decode (q_cc m_lw_law) 1100 = .ok (.iload_n 3, 1) := by decide +kernel
theorem d_lw_law_1101 : decode (q_cc m_lw_law) 1101 = .ok (.iconst 2, 1) := by decide +kernel
theorem d_lw_law_1102 : decode (q_cc m_lw_law) 1102 = .ok (.iadd, 1) := by decide +kernel
theorem d_lw_law_1103 : decode (q_cc m_lw_law) 1103 = .ok (.iaload, 1) := by decide +kernel
theorem d_lw_law_1104 : decode (q_cc m_lw_law) 1104 = .ok (.invokevirtual 135, 3) := by decide +kernel
theorem d_lw_law_1107 : decode (q_cc m_lw_law) 1107 = .ok (.if_icmp .eq 67, 3) := by decide +kernel
theorem d_lw_law_1110 : decode (q_cc m_lw_law) 1110 = .ok (.iconst 0, 1) := by decide +kernel
theorem d_lw_law_1111 : decode (q_cc m_lw_law) 1111 = .ok (.ireturn, 1) := by decide +kernel
theorem d_lw_law_1112 : decode (q_cc m_lw_law) 1112 = .ok (.aload_n 1, 1) := by decide +kernel
theorem d_lw_law_1113 : decode (q_cc m_lw_law) 1113 = .ok (.invokevirtual 136, 3) := by decide +kernel
theorem d_lw_law_1116 : decode (q_cc m_lw_law) 1116 = .ok (.aload_n 2, 1) := by decide +kernel
theorem d_lw_law_1117 : decode (q_cc m_lw_law) 1117 = .ok (.invokevirtual 139, 3) := by decide +kernel
theorem d_lw_law_1120 : decode (q_cc m_lw_law) 1120 = .ok (.if_icmp .eq 54, 3) := by decide +kernel
theorem d_lw_law_1123 : decode (q_cc m_lw_law) 1123 = .ok (.iconst 0, 1) := by decide +kernel
theorem d_lw_law_1124 : decode (q_cc m_lw_law) 1124 = .ok (.ireturn, 1) := by decide +kernel
theorem d_lw_law_1125 : decode (q_cc m_lw_law) 1125 = .ok (.aload_n 1, 1) := by decide +kernel
theorem d_lw_law_1126 : decode (q_cc m_lw_law) 1126 = .ok (.invokevirtual 140, 3) := by decide +kernel
theorem d_lw_law_1129 : decode (q_cc m_lw_law) 1129 = .ok (.aload_n 2, 1) := by decide +kernel
theorem d_lw_law_1130 : decode (q_cc m_lw_law) 1130 = .ok (.invokevirtual 143, 3) := by decide +kernel
theorem d_lw_law_1133 : decode (q_cc m_lw_law) 1133 = .ok (.if_icmp .eq 41, 3) := by decide +kernel
theorem d_lw_law_1136 : decode (q_cc m_lw_law) 1136 = .ok (.iconst 0, 1) := by decide +kernel
theorem d_lw_law_1137 : decode (q_cc m_lw_law) 1137 = .ok (.ireturn, 1) := by decide +kernel
theorem d_lw_law_1138 : decode (q_cc m_lw_law) 1138 = .ok (.aload_n 1, 1) := by decide +kernel
theorem d_lw_law_1139 : decode (q_cc m_lw_law) 1139 = .ok (.aload_n 0, 1) := by decide +kernel
theorem d_lw_law_1140 : decode (q_cc m_lw_law) 1140 = .ok (.iload_n 3, 1) := by decide +kernel
theorem d_lw_law_1141 : decode (q_cc m_lw_law) 1141 = .ok (.iconst 1, 1) := by decide +kernel
theorem d_lw_law_1142 : decode (q_cc m_lw_law) 1142 = .ok (.iadd, 1) := by decide +kernel
theorem d_lw_law_1143 : decode (q_cc m_lw_law) 1143 = .ok (.iaload, 1) := by decide +kernel
theorem d_lw_law_1144 : decode (q_cc m_lw_law) 1144 = .ok (.invokevirtual 144, 3) := by decide +kernel
theorem d_lw_law_1147 : decode (q_cc m_lw_law) 1147 = .ok (.aload_n 2, 1) := by decide +kernel
theorem d_lw_law_1148 : decode (q_cc m_lw_law) 1148 = .ok (.aload_n 0, 1) := by decide +kernel
theorem d_lw_law_1149 : decode (q_cc m_lw_law) 1149 = .ok (.iload_n 3, 1) := by decide +kernel
theorem d_lw_law_1150 : decode (q_cc m_lw_law) 1150 = .ok (.iconst 1, 1) := by decide +kernel
theorem d_lw_law_1151 : decode (q_cc m_lw_law) 1151 = .ok (.iadd, 1) := by decide +kernel
theorem d_lw_law_1152 : decode (q_cc m_lw_law) 1152 = .ok (.iaload, 1) := by decide +kernel
theorem d_lw_law_1153 : decode (q_cc m_lw_law) 1153 = .ok (.invokevirtual 147, 3) := by decide +kernel
theorem d_lw_law_1156 : decode (q_cc m_lw_law) 1156 = .ok (.if_icmp .eq 18, 3) := by decide +kernel
theorem d_lw_law_1159 : decode (q_cc m_lw_law) 1159 = .ok (.iconst 0, 1) := by decide +kernel
theorem d_lw_law_1160 : decode (q_cc m_lw_law) 1160 = .ok (.ireturn, 1) := by decide +kernel
theorem d_lw_law_1161 : decode (q_cc m_lw_law) 1161 = .ok (.aload_n 1, 1) := by decide +kernel

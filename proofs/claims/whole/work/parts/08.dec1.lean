theorem d_tp_takeSign_24 : decode (q_cc m_tp_takeSign) 24 = .ok (.iadd, 1) := by decide +kernel
theorem d_tp_takeSign_25 : decode (q_cc m_tp_takeSign) 25 = .ok (.putfield 22, 3) := by decide +kernel
theorem d_tp_takeSign_28 : decode (q_cc m_tp_takeSign) 28 = .ok (.iconst 1, 1) := by decide +kernel
theorem d_tp_takeSign_29 : decode (q_cc m_tp_takeSign) 29 = .ok (.ireturn, 1) := by decide +kernel
theorem d_tp_passOver_0 : decode (q_cc m_tp_passOver) 0 = .ok (.aload_n 0, 1) := by decide +kernel
theorem d_tp_passOver_1 : decode (q_cc m_tp_passOver) 1 = .ok (.invokevirtual 35, 3) := by decide +kernel
theorem d_tp_passOver_4 : decode (q_cc m_tp_passOver) 4 = .ok (.iload_n 1, 1) := by decide +kernel
theorem d_tp_passOver_5 : decode (q_cc m_tp_passOver) 5 = .ok (.if_icmp .eq 5, 3) := by decide +kernel
theorem d_tp_passOver_8 : decode (q_cc m_tp_passOver) 8 = .ok (.iconst 0, 1) := by decide +kernel
theorem d_tp_passOver_9 : decode (q_cc m_tp_passOver) 9 = .ok (.ireturn, 1) := by decide +kernel
theorem d_tp_passOver_10 : decode (q_cc m_tp_passOver) 10 = .ok (.aload_n 0, 1) := by decide +kernel
theorem d_tp_passOver_11 : decode (q_cc m_tp_passOver) 11 = .ok (.dup, 1) := by decide +kernel
theorem d_tp_passOver_12 : decode (q_cc m_tp_passOver) 12 = .ok (.getfield 22, 3) := by decide +kernel
theorem d_tp_passOver_15 : decode (q_cc m_tp_passOver) 15 = .ok (.iconst 1, 1) := by decide +kernel
theorem d_tp_passOver_16 : decode (q_cc m_tp_passOver) 16 = .ok (.iadd, 1) := by decide +kernel
theorem d_tp_passOver_17 : decode (q_cc m_tp_passOver) 17 = .ok (.putfield 22, 3) := by decide +kernel
theorem d_tp_passOver_20 : decode (q_cc m_tp_passOver) 20 = .ok (.iconst 1, 1) := by decide +kernel
theorem d_tp_passOver_21 : decode (q_cc m_tp_passOver) 21 = .ok (.ireturn, 1) := by decide +kernel
theorem d_tp_wordHere_0 : decode (q_cc m_tp_wordHere) 0 = .ok (.aload_n 0, 1) := by decide +kernel
theorem d_tp_wordHere_1 : decode (q_cc m_tp_wordHere) 1 = .ok (.invokevirtual 35, 3) := by decide +kernel
theorem d_tp_wordHere_4 : decode (q_cc m_tp_wordHere) 4 = .ok (.pop, 1) := by decide +kernel
theorem d_tp_wordHere_5 : decode (q_cc m_tp_wordHere) 5 = .ok (.aload_n 0, 1) := by decide +kernel
theorem d_tp_wordHere_6 : decode (q_cc m_tp_wordHere) 6 = .ok (.aload_n 0, 1) := by decide +kernel
theorem d_tp_wordHere_7 : decode (q_cc m_tp_wordHere) 7 = .ok (.getfield 22, 3) := by decide +kernel
theorem d_tp_wordHere_10 : decode (q_cc m_tp_wordHere) 10 = .ok (.putfield 39, 3) := by decide +kernel
theorem d_tp_wordHere_13 : decode (q_cc m_tp_wordHere) 13 = .ok (.aload_n 0, 1) := by decide +kernel
theorem d_tp_wordHere_14 : decode (q_cc m_tp_wordHere) 14 = .ok (.getfield 39, 3) := by decide +kernel
theorem d_tp_wordHere_17 : decode (q_cc m_tp_wordHere) 17 = .ok (.aload_n 0, 1) := by decide +kernel
theorem d_tp_wordHere_18 : decode (q_cc m_tp_wordHere) 18 = .ok (.getfield 19, 3) := by decide +kernel
theorem d_tp_wordHere_21 : decode (q_cc m_tp_wordHere) 21 = .ok (.if_icmp .ge 42, 3) := by decide +kernel
theorem d_tp_wordHere_24 : decode (q_cc m_tp_wordHere) 24 = .ok (.aload_n 0, 1) := by decide +kernel
theorem d_tp_wordHere_25 : decode (q_cc m_tp_wordHere) 25 = .ok (.getfield 9, 3) := by decide +kernel
theorem d_tp_wordHere_28 : decode (q_cc m_tp_wordHere) 28 = .ok (.aload_n 0, 1) := by decide +kernel
theorem d_tp_wordHere_29 : decode (q_cc m_tp_wordHere) 29 = .ok (.getfield 39, 3) := by decide +kernel
theorem d_tp_wordHere_32 : decode (q_cc m_tp_wordHere) 32 = .ok (.iaload, 1) := by decide +kernel
theorem d_tp_wordHere_33 : decode (q_cc m_tp_wordHere) 33 = .ok (.invokestatic 42, 3) := by decide +kernel
theorem d_tp_wordHere_36 : decode (q_cc m_tp_wordHere) 36 = .ok (.ifCond .eq 27, 3) := by decide +kernel
theorem d_tp_wordHere_39 : decode (q_cc m_tp_wordHere) 39 = .ok (.aload_n 0, 1) := by decide +kernel
theorem d_tp_wordHere_40 : decode (q_cc m_tp_wordHere) 40 = .ok (.getfield 22, 3) := by decide +kernel
theorem d_tp_wordHere_43 : decode (q_cc m_tp_wordHere) 43 = .ok (.aload_n 0, 1) := by decide +kernel
theorem d_tp_wordHere_44 : decode (q_cc m_tp_wordHere) 44 = .ok (.getfield 25, 3) := by decide +kernel
theorem d_tp_wordHere_47 : decode (q_cc m_tp_wordHere) 47 = .ok (.if_icmp .eq 16, 3) := by decide +kernel
theorem d_tp_wordHere_50 : decode (q_cc m_tp_wordHere) 50 = .ok (.aload_n 0, 1) := by decide +kernel
theorem d_tp_wordHere_51 : decode (q_cc m_tp_wordHere) 51 = .ok (.dup, 1) := by decide +kernel
theorem d_tp_wordHere_52 : decode (q_cc m_tp_wordHere) 52 = .ok (.getfield 39, 3) := by decide +kernel
theorem d_tp_wordHere_55 : decode (q_cc m_tp_wordHere) 55 = .ok (.iconst 1, 1) := by decide +kernel
theorem d_tp_wordHere_56 : decode (q_cc m_tp_wordHere) 56 = .ok (.iadd, 1) := by decide +kernel
theorem d_tp_wordHere_57 : decode (q_cc m_tp_wordHere) 57 = .ok (.putfield 39, 3) := by decide +kernel
theorem d_tp_wordHere_60 : decode (q_cc m_tp_wordHere) 60 = .ok (.goto (-47), 3) := by decide +kernel
theorem d_tp_wordHere_63 : decode (q_cc m_tp_wordHere) 63 = .ok (.aload_n 0, 1) := by decide +kernel
theorem d_tp_wordHere_64 : decode (q_cc m_tp_wordHere) 64 = .ok (.getfield 39, 3) := by decide +kernel
theorem d_tp_wordHere_67 : decode (q_cc m_tp_wordHere) 67 = .ok (.aload_n 0, 1) := by decide +kernel
theorem d_tp_wordHere_68 : decode (q_cc m_tp_wordHere) 68 = .ok (.getfield 22, 3) := by decide +kernel
theorem d_tp_wordHere_71 : decode (q_cc m_tp_wordHere) 71 = .ok (.if_icmp .ne 5, 3) := by decide +kernel
theorem d_tp_wordHere_74 : decode (q_cc m_tp_wordHere) 74 = .ok (.iconst (-1), 1) := by decide +kernel
theorem d_tp_wordHere_75 : decode (q_cc m_tp_wordHere) 75 = .ok (.ireturn, 1) := by decide +kernel
theorem d_tp_wordHere_76 : decode (q_cc m_tp_wordHere) 76 = .ok (.iconst 0, 1) := by decide +kernel
theorem d_tp_wordHere_77 : decode (q_cc m_tp_wordHere) 77 = .ok (.istore_n 1, 1) := by decide +kernel
theorem d_tp_wordHere_78 : decode (q_cc m_tp_wordHere) 78 = .ok (.aload_n 0, 1) := by decide +kernel
theorem d_tp_wordHere_79 : decode (q_cc m_tp_wordHere) 79 = .ok (.getfield 22, 3) := by decide +kernel
theorem d_tp_wordHere_82 : decode (q_cc m_tp_wordHere) 82 = .ok (.istore_n 2, 1) := by decide +kernel
theorem d_tp_wordHere_83 : decode (q_cc m_tp_wordHere) 83 = .ok (.iconst 0, 1) := by decide +kernel
theorem d_tp_wordHere_84 : decode (q_cc m_tp_wordHere) 84 = .ok (.istore_n 3, 1) := by decide +kernel
theorem d_tp_wordHere_85 : decode (q_cc m_tp_wordHere) 85 = .ok (.iload_n 3, 1) := by decide +kernel
theorem d_tp_wordHere_86 : decode (q_cc m_tp_wordHere) 86 = .ok (.ldc 46, 2) := by decide +kernel
theorem d_tp_wordHere_88 : decode (q_cc m_tp_wordHere) 88 = .ok (.invokevirtual 48, 3) := by decide +kernel
theorem d_tp_wordHere_91 : decode (q_cc m_tp_wordHere) 91 = .ok (.if_icmp .ge 77, 3) := by decide +kernel
theorem d_tp_wordHere_94 : decode (q_cc m_tp_wordHere) 94 = .ok (.ldc 46, 2) := by decide +kernel
theorem d_tp_wordHere_96 : decode (q_cc m_tp_wordHere) 96 = .ok (.iload_n 3, 1) := by decide +kernel
theorem d_tp_wordHere_97 : decode (q_cc m_tp_wordHere) 97 = .ok (.invokevirtual 52, 3) := by decide +kernel
theorem d_tp_wordHere_100 : decode (q_cc m_tp_wordHere) 100 = .ok (.istore 4, 2) := by decide +kernel
theorem d_tp_wordHere_102 : decode (q_cc m_tp_wordHere) 102 = .ok (.iload 4, 2) := by decide +kernel
theorem d_tp_wordHere_104 : decode (q_cc m_tp_wordHere) 104 = .ok (.bipush 32, 2) := by decide +kernel
theorem d_tp_wordHere_106 : decode (q_cc m_tp_wordHere) 106 = .ok (.if_icmp .eq 38, 3) := by decide +kernel
theorem d_tp_wordHere_109 : decode (q_cc m_tp_wordHere) 109 = .ok (.iload_n 2, 1) := by decide +kernel
theorem d_tp_wordHere_110 : decode (q_cc m_tp_wordHere) 110 = .ok (.iconst (-1), 1) := by decide +kernel
theorem d_tp_wordHere_111 : decode (q_cc m_tp_wordHere) 111 = .ok (.if_icmp .eq 28, 3) := by decide +kernel
theorem d_tp_wordHere_114 : decode (q_cc m_tp_wordHere) 114 = .ok (.iload_n 2, 1) := by decide +kernel
theorem d_tp_wordHere_115 : decode (q_cc m_tp_wordHere) 115 = .ok (.aload_n 0, 1) := by decide +kernel
theorem d_tp_wordHere_116 : decode (q_cc m_tp_wordHere) 116 = .ok (.getfield 39, 3) := by decide +kernel
theorem d_tp_wordHere_119 : decode (q_cc m_tp_wordHere) 119 = .ok (.if_icmp .ge 20, 3) := by decide +kernel
theorem d_tp_wordHere_122 : decode (q_cc m_tp_wordHere) 122 = .ok (.aload_n 0, 1) := by decide +kernel
theorem d_tp_wordHere_123 : decode (q_cc m_tp_wordHere) 123 = .ok (.getfield 9, 3) := by decide +kernel
theorem d_tp_wordHere_126 : decode (q_cc m_tp_wordHere) 126 = .ok (.iload_n 2, 1) := by decide +kernel
theorem d_tp_wordHere_127 : decode (q_cc m_tp_wordHere) 127 = .ok (.iaload, 1) := by decide +kernel
theorem d_tp_wordHere_128 : decode (q_cc m_tp_wordHere) 128 = .ok (.iload 4, 2) := by decide +kernel
theorem d_tp_wordHere_130 : decode (q_cc m_tp_wordHere) 130 = .ok (.if_icmp .ne 9, 3) := by decide +kernel
theorem d_tp_wordHere_133 : decode (q_cc m_tp_wordHere) 133 = .ok (.iload_n 2, 1) := by decide +kernel
theorem d_tp_wordHere_134 : decode (q_cc m_tp_wordHere) 134 = .ok (.iconst 1, 1) := by decide +kernel
theorem d_tp_wordHere_135 : decode (q_cc m_tp_wordHere) 135 = .ok (.iadd, 1) := by decide +kernel
theorem d_tp_wordHere_136 : decode (q_cc m_tp_wordHere) 136 = .ok (.goto 4, 3) := by decide +kernel
theorem d_tp_wordHere_139 : decode (q_cc m_tp_wordHere) 139 = .ok (.iconst (-1), 1) := by decide +kernel
theorem d_tp_wordHere_140 : decode (q_cc m_tp_wordHere) 140 = .ok (.istore_n 2, 1) := by decide +kernel
theorem d_tp_wordHere_141 : decode (q_cc m_tp_wordHere) 141 = .ok (.goto 21, 3) := by decide +kernel
theorem d_tp_wordHere_144 : decode (q_cc m_tp_wordHere) 144 = .ok (.iload_n 2, 1) := by decide +kernel
theorem d_tp_wordHere_145 : decode (q_cc m_tp_wordHere) 145 = .ok (.aload_n 0, 1) := by decide +kernel
theorem d_tp_wordHere_146 : decode (q_cc m_tp_wordHere) 146 = .ok (.getfield 39, 3) := by decide +kernel
theorem d_tp_wordHere_149 : decode (q_cc m_tp_wordHere) 149 = .ok (.if_icmp .ne 5, 3) := by decide +kernel
theorem d_tp_wordHere_152 : decode (q_cc m_tp_wordHere) 152 = .ok (.iload_n 1, 1) := by decide +kernel
theorem d_tp_wordHere_153 : decode (q_cc m_tp_wordHere) 153 = .ok (.ireturn, 1) := by decide +kernel
theorem d_tp_wordHere_154 : decode (q_cc m_tp_wordHere) 154 = .ok (.iinc 1 1, 3) := by decide +kernel
theorem d_tp_wordHere_157 : decode (q_cc m_tp_wordHere) 157 = .ok (.aload_n 0, 1) := by decide +kernel
theorem d_tp_wordHere_158 : decode (q_cc m_tp_wordHere) 158 = .ok (.getfield 22, 3) := by decide +kernel
theorem d_tp_wordHere_161 : decode (q_cc m_tp_wordHere) 161 = .ok (.istore_n 2, 1) := by decide +kernel
theorem d_tp_wordHere_162 : decode (q_cc m_tp_wordHere) 162 = .ok (.iinc 3 1, 3) := by decide +kernel
theorem d_tp_wordHere_165 : decode (q_cc m_tp_wordHere) 165 = .ok (.goto (-80), 3) := by decide +kernel
theorem d_tp_wordHere_168 : decode (q_cc m_tp_wordHere) 168 = .ok (.iconst (-1), 1) := by decide +kernel
theorem d_tp_wordHere_169 : decode (q_cc m_tp_wordHere) 169 = .ok (.ireturn, 1) := by decide +kernel
theorem d_tp_takeWord_0 : decode (q_cc m_tp_takeWord) 0 = .ok (.aload_n 0, 1) := by decide +kernel
theorem d_tp_takeWord_1 : decode (q_cc m_tp_takeWord) 1 = .ok (.invokevirtual 56, 3) := by decide +kernel
theorem d_tp_takeWord_4 : decode (q_cc m_tp_takeWord) 4 = .ok (.iload_n 1, 1) := by decide +kernel
theorem d_tp_takeWord_5 : decode (q_cc m_tp_takeWord) 5 = .ok (.if_icmp .eq 8, 3) := by decide +kernel
theorem d_tp_takeWord_8 : decode (q_cc m_tp_takeWord) 8 = .ok (.aload_n 0, 1) := by decide +kernel
theorem d_tp_takeWord_9 : decode (q_cc m_tp_takeWord) 9 = .ok (.invokevirtual 59, 3) := by decide +kernel
theorem d_tp_takeWord_12 : decode (q_cc m_tp_takeWord) 12 = .ok (.ireturn, 1) := by decide +kernel
theorem d_tp_takeWord_13 : decode (q_cc m_tp_takeWord) 13 = .ok (.aload_n 0, 1) := by decide +kernel
theorem d_tp_takeWord_14 : decode (q_cc m_tp_takeWord) 14 = .ok (.invokevirtual 63, 3) := by decide +kernel
theorem d_tp_takeWord_17 : decode (q_cc m_tp_takeWord) 17 = .ok (.ireturn, 1) := by decide +kernel
theorem d_tp_passOverWord_0 : decode (q_cc m_tp_passOverWord) 0 = .ok (.aload_n 0, 1) := by decide +kernel
theorem d_tp_passOverWord_1 : decode (q_cc m_tp_passOverWord) 1 = .ok (.invokevirtual 56, 3) := by decide +kernel
theorem d_tp_passOverWord_4 : decode (q_cc m_tp_passOverWord) 4 = .ok (.iload_n 1, 1) := by decide +kernel
theorem d_tp_passOverWord_5 : decode (q_cc m_tp_passOverWord) 5 = .ok (.if_icmp .ne 14, 3) := by decide +kernel
theorem d_tp_passOverWord_8 : decode (q_cc m_tp_passOverWord) 8 = .ok (.aload_n 0, 1) := by decide +kernel
theorem d_tp_passOverWord_9 : decode (q_cc m_tp_passOverWord) 9 = .ok (.invokevirtual 63, 3) := by decide +kernel
theorem d_tp_passOverWord_12 : decode (q_cc m_tp_passOverWord) 12 = .ok (.ifCond .eq 7, 3) := by decide +kernel
theorem d_tp_passOverWord_15 : decode (q_cc m_tp_passOverWord) 15 = .ok (.iconst 1, 1) := by decide +kernel
theorem d_tp_passOverWord_16 : decode (q_cc m_tp_passOverWord) 16 = .ok (.goto 4, 3) := by decide +kernel
theorem d_tp_passOverWord_19 : decode (q_cc m_tp_passOverWord) 19 = .ok (.iconst 0, 1) := by decide +kernel
theorem d_tp_passOverWord_20 : decode (q_cc m_tp_passOverWord) 20 = .ok (.ireturn, 1) := by decide +kernel
theorem d_tp_takeWordHere_0 : decode (q_cc m_tp_takeWordHere) 0 = .ok (.aload_n 0, 1) := by decide +kernel
theorem d_tp_takeWordHere_1 : decode (q_cc m_tp_takeWordHere) 1 = .ok (.aload_n 0, 1) := by decide +kernel
theorem d_tp_takeWordHere_2 : decode (q_cc m_tp_takeWordHere) 2 = .ok (.getfield 39, 3) := by decide +kernel
theorem d_tp_takeWordHere_5 : decode (q_cc m_tp_takeWordHere) 5 = .ok (.putfield 22, 3) := by decide +kernel
theorem d_tp_takeWordHere_8 : decode (q_cc m_tp_takeWordHere) 8 = .ok (.aload_n 0, 1) := by decide +kernel
theorem d_tp_takeWordHere_9 : decode (q_cc m_tp_takeWordHere) 9 = .ok (.aload_n 0, 1) := by decide +kernel
theorem d_tp_takeWordHere_10 : decode (q_cc m_tp_takeWordHere) 10 = .ok (.getfield 22, 3) := by decide +kernel
theorem d_tp_takeWordHere_13 : decode (q_cc m_tp_takeWordHere) 13 = .ok (.putfield 25, 3) := by decide +kernel
theorem d_tp_takeWordHere_16 : decode (q_cc m_tp_takeWordHere) 16 = .ok (.iconst 1, 1) := by decide +kernel
theorem d_tp_takeWordHere_17 : decode (q_cc m_tp_takeWordHere) 17 = .ok (.ireturn, 1) := by decide +kernel
theorem d_tp_takeNumber_0 : decode (q_cc m_tp_takeNumber) 0 = .ok (.aload_n 0, 1) := by decide +kernel
theorem d_tp_takeNumber_1 : decode (q_cc m_tp_takeNumber) 1 = .ok (.invokevirtual 35, 3) := by decide +kernel
theorem d_tp_takeNumber_4 : decode (q_cc m_tp_takeNumber) 4 = .ok (.invokestatic 66, 3) := by decide +kernel
theorem d_tp_takeNumber_7 : decode (q_cc m_tp_takeNumber) 7 = .ok (.ifCond .eq 14, 3) := by decide +kernel
theorem d_tp_takeNumber_10 : decode (q_cc m_tp_takeNumber) 10 = .ok (.aload_n 0, 1) := by decide +kernel
theorem d_tp_takeNumber_11 : decode (q_cc m_tp_takeNumber) 11 = .ok (.getfield 22, 3) := by decide +kernel
theorem d_tp_takeNumber_14 : decode (q_cc m_tp_takeNumber) 14 = .ok (.aload_n 0, 1) := by decide +kernel
theorem d_tp_takeNumber_15 : decode (q_cc m_tp_takeNumber) 15 = .ok (.getfield 25, 3) := by decide +kernel
theorem d_tp_takeNumber_18 : decode (q_cc m_tp_takeNumber) 18 = .ok (.if_icmp .ne 13, 3) := by decide +kernel
theorem d_tp_takeNumber_21 : decode (q_cc m_tp_takeNumber) 21 = .ok (.aload_n 0, 1) := by decide +kernel
theorem d_tp_takeNumber_22 : decode (q_cc m_tp_takeNumber) 22 = .ok (.iconst 1, 1) := by decide +kernel
theorem d_tp_takeNumber_23 : decode (q_cc m_tp_takeNumber) 23 = .ok (.aload_n 0, 1) := by decide +kernel
theorem d_tp_takeNumber_24 : decode (q_cc m_tp_takeNumber) 24 = .ok (.getfield 22, 3) := by decide +kernel
theorem d_tp_takeNumber_27 : decode (q_cc m_tp_takeNumber) 27 = .ok (.invokevirtual 31, 3) := by decide +kernel
theorem d_tp_takeNumber_30 : decode (q_cc m_tp_takeNumber) 30 = .ok (.ireturn, 1) := by decide +kernel
theorem d_tp_takeNumber_31 : decode (q_cc m_tp_takeNumber) 31 = .ok (.aload_n 0, 1) := by decide +kernel
theorem d_tp_takeNumber_32 : decode (q_cc m_tp_takeNumber) 32 = .ok (.aload_n 0, 1) := by decide +kernel
theorem d_tp_takeNumber_33 : decode (q_cc m_tp_takeNumber) 33 = .ok (.getfield 22, 3) := by decide +kernel
theorem d_tp_takeNumber_36 : decode (q_cc m_tp_takeNumber) 36 = .ok (.putfield 69, 3) := by decide +kernel
theorem d_tp_takeNumber_39 : decode (q_cc m_tp_takeNumber) 39 = .ok (.aload_n 0, 1) := by decide +kernel
theorem d_tp_takeNumber_40 : decode (q_cc m_tp_takeNumber) 40 = .ok (.iconst 0, 1) := by decide +kernel
theorem d_tp_takeNumber_41 : decode (q_cc m_tp_takeNumber) 41 = .ok (.putfield 72, 3) := by decide +kernel
theorem d_tp_takeNumber_44 : decode (q_cc m_tp_takeNumber) 44 = .ok (.aload_n 0, 1) := by decide +kernel
theorem d_tp_takeNumber_45 : decode (q_cc m_tp_takeNumber) 45 = .ok (.getfield 22, 3) := by decide +kernel
theorem d_tp_takeNumber_48 : decode (q_cc m_tp_takeNumber) 48 = .ok (.aload_n 0, 1) := by decide +kernel
theorem d_tp_takeNumber_49 : decode (q_cc m_tp_takeNumber) 49 = .ok (.getfield 19, 3) := by decide +kernel
theorem d_tp_takeNumber_52 : decode (q_cc m_tp_takeNumber) 52 = .ok (.if_icmp .ge 78, 3) := by decide +kernel
theorem d_tp_takeNumber_55 : decode (q_cc m_tp_takeNumber) 55 = .ok (.aload_n 0, 1) := by decide +kernel
theorem d_tp_takeNumber_56 : decode (q_cc m_tp_takeNumber) 56 = .ok (.getfield 9, 3) := by decide +kernel
theorem d_tp_takeNumber_59 : decode (q_cc m_tp_takeNumber) 59 = .ok (.aload_n 0, 1) := by decide +kernel
theorem d_tp_takeNumber_60 : decode (q_cc m_tp_takeNumber) 60 = .ok (.getfield 22, 3) := by decide +kernel
theorem d_tp_takeNumber_63 : decode (q_cc m_tp_takeNumber) 63 = .ok (.iaload, 1) := by decide +kernel
theorem d_tp_takeNumber_64 : decode (q_cc m_tp_takeNumber) 64 = .ok (.invokestatic 66, 3) := by decide +kernel
theorem d_tp_takeNumber_67 : decode (q_cc m_tp_takeNumber) 67 = .ok (.ifCond .eq 63, 3) := by decide +kernel
theorem d_tp_takeNumber_70 : decode (q_cc m_tp_takeNumber) 70 = .ok (.aload_n 0, 1) := by decide +kernel
theorem d_tp_takeNumber_71 : decode (q_cc m_tp_takeNumber) 71 = .ok (.getfield 22, 3) := by decide +kernel
theorem d_tp_takeNumber_74 : decode (q_cc m_tp_takeNumber) 74 = .ok (.aload_n 0, 1) := by decide +kernel
theorem d_tp_takeNumber_75 : decode (q_cc m_tp_takeNumber) 75 = .ok (.getfield 69, 3) := by decide +kernel
theorem d_tp_takeNumber_78 : decode (q_cc m_tp_takeNumber) 78 = .ok (.isub, 1) := by decide +kernel
theorem d_tp_takeNumber_79 : decode (q_cc m_tp_takeNumber) 79 = .ok (.iconst 4, 1) := by decide +kernel
theorem d_tp_takeNumber_80 : decode (q_cc m_tp_takeNumber) 80 = .ok (.if_icmp .ne 13, 3) := by decide +kernel
theorem d_tp_takeNumber_83 : decode (q_cc m_tp_takeNumber) 83 = .ok (.aload_n 0, 1) := by decide +kernel
theorem d_tp_takeNumber_84 : decode (q_cc m_tp_takeNumber) 84 = .ok (.iconst 1, 1) := by decide +kernel
theorem d_tp_takeNumber_85 : decode (q_cc m_tp_takeNumber) 85 = .ok (.aload_n 0, 1) := by decide +kernel
theorem d_tp_takeNumber_86 : decode (q_cc m_tp_takeNumber) 86 = .ok (.getfield 22, 3) := by decide +kernel
theorem d_tp_takeNumber_89 : decode (q_cc m_tp_takeNumber) 89 = .ok (.invokevirtual 31, 3) := by decide +kernel
theorem d_tp_takeNumber_92 : decode (q_cc m_tp_takeNumber) 92 = .ok (.ireturn, 1) := by decide +kernel
theorem d_tp_takeNumber_93 : decode (q_cc m_tp_takeNumber) 93 = .ok (.aload_n 0, 1) := by decide +kernel
theorem d_tp_takeNumber_94 : decode (q_cc m_tp_takeNumber) 94 = .ok (.bipush 10, 2) := by decide +kernel
theorem d_tp_takeNumber_96 : decode (q_cc m_tp_takeNumber) 96 = .ok (.aload_n 0, 1) := by decide +kernel
theorem d_tp_takeNumber_97 : decode (q_cc m_tp_takeNumber) 97 = .ok (.getfield 72, 3) := by decide +kernel
theorem d_tp_takeNumber_100 : decode (q_cc m_tp_takeNumber) 100 = .ok (.imul, 1) := by decide +kernel
theorem d_tp_takeNumber_101 : decode (q_cc m_tp_takeNumber) 101 = .ok (.aload_n 0, 1) := by decide +kernel
theorem d_tp_takeNumber_102 : decode (q_cc m_tp_takeNumber) 102 = .ok (.getfield 9, 3) := by decide +kernel
theorem d_tp_takeNumber_105 : decode (q_cc m_tp_takeNumber) 105 = .ok (.aload_n 0, 1) := by decide +kernel
theorem d_tp_takeNumber_106 : decode (q_cc m_tp_takeNumber) 106 = .ok (.getfield 22, 3) := by decide +kernel
theorem d_tp_takeNumber_109 : decode (q_cc m_tp_takeNumber) 109 = .ok (.iaload, 1) := by decide +kernel
theorem d_tp_takeNumber_110 : decode (q_cc m_tp_takeNumber) 110 = .ok (.iadd, 1) := by decide +kernel
theorem d_tp_takeNumber_111 : decode (q_cc m_tp_takeNumber) 111 = .ok (.bipush 48, 2) := by decide +kernel
theorem d_tp_takeNumber_113 : decode (q_cc m_tp_takeNumber) 113 = .ok (.isub, 1) := by decide +kernel
theorem d_tp_takeNumber_114 : decode (q_cc m_tp_takeNumber) 114 = .ok (.putfield 72, 3) := by decide +kernel
theorem d_tp_takeNumber_117 : decode (q_cc m_tp_takeNumber) 117 = .ok (.aload_n 0, 1) := by decide +kernel
theorem d_tp_takeNumber_118 : decode (q_cc m_tp_takeNumber) 118 = .ok (.dup, 1) := by decide +kernel
theorem d_tp_takeNumber_119 : decode (q_cc m_tp_takeNumber) 119 = .ok (.getfield 22, 3) := by decide +kernel
theorem d_tp_takeNumber_122 : decode (q_cc m_tp_takeNumber) 122 = .ok (.iconst 1, 1) := by decide +kernel
theorem d_tp_takeNumber_123 : decode (q_cc m_tp_takeNumber) 123 = .ok (.iadd, 1) := by decide +kernel
theorem d_tp_takeNumber_124 : decode (q_cc m_tp_takeNumber) 124 = .ok (.putfield 22, 3) := by decide +kernel
theorem d_tp_takeNumber_127 : decode (q_cc m_tp_takeNumber) 127 = .ok (.goto (-83), 3) := by decide +kernel
theorem d_tp_takeNumber_130 : decode (q_cc m_tp_takeNumber) 130 = .ok (.aload_n 0, 1) := by decide +kernel
theorem d_tp_takeNumber_131 : decode (q_cc m_tp_takeNumber) 131 = .ok (.aload_n 0, 1) := by decide +kernel
theorem d_tp_takeNumber_132 : decode (q_cc m_tp_takeNumber) 132 = .ok (.getfield 22, 3) := by decide +kernel
theorem d_tp_takeNumber_135 : decode (q_cc m_tp_takeNumber) 135 = .ok (.putfield 25, 3) := by decide +kernel
theorem d_tp_takeNumber_138 : decode (q_cc m_tp_takeNumber) 138 = .ok (.aload_n 0, 1) := by decide +kernel
theorem d_tp_takeNumber_139 : decode (q_cc m_tp_takeNumber) 139 = .ok (.getfield 72, 3) := by decide +kernel
theorem d_tp_takeNumber_142 : decode (q_cc m_tp_takeNumber) 142 = .ok (.iload_n 1, 1) := by decide +kernel
theorem d_tp_takeNumber_143 : decode (q_cc m_tp_takeNumber) 143 = .ok (.if_icmp .lt 11, 3) := by decide +kernel
theorem d_tp_takeNumber_146 : decode (q_cc m_tp_takeNumber) 146 = .ok (.aload_n 0, 1) := by decide +kernel
theorem d_tp_takeNumber_147 : decode (q_cc m_tp_takeNumber) 147 = .ok (.getfield 72, 3) := by decide +kernel
theorem d_tp_takeNumber_150 : decode (q_cc m_tp_takeNumber) 150 = .ok (.iload_n 2, 1) := by decide +kernel
theorem d_tp_takeNumber_151 : decode (q_cc m_tp_takeNumber) 151 = .ok (.if_icmp .le 15, 3) := by decide +kernel
theorem d_tp_takeNumber_154 : decode (q_cc m_tp_takeNumber) 154 = .ok (.aload_n 0, 1) := by decide +kernel
theorem d_tp_takeNumber_155 : decode (q_cc m_tp_takeNumber) 155 = .ok (.iconst 2, 1) := by decide +kernel
theorem d_tp_takeNumber_156 : decode (q_cc m_tp_takeNumber) 156 = .ok (.aload_n 0, 1) := by decide +kernel
theorem d_tp_takeNumber_157 : decode (q_cc m_tp_takeNumber) 157 = .ok (.getfield 69, 3) := by decide +kernel
theorem d_tp_takeNumber_160 : decode (q_cc m_tp_takeNumber) 160 = .ok (.invokevirtual 31, 3) := by decide +kernel
theorem d_tp_takeNumber_163 : decode (q_cc m_tp_takeNumber) 163 = .ok (.ifCond .eq 7, 3) := by decide +kernel
theorem d_tp_takeNumber_166 : decode (q_cc m_tp_takeNumber) 166 = .ok (.iconst 1, 1) := by decide +kernel
theorem d_tp_takeNumber_167 : decode (q_cc m_tp_takeNumber) 167 = .ok (.goto 4, 3) := by decide +kernel
theorem d_tp_takeNumber_170 : decode (q_cc m_tp_takeNumber) 170 = .ok (.iconst 0, 1) := by decide +kernel
theorem d_tp_takeNumber_171 : decode (q_cc m_tp_takeNumber) 171 = .ok (.ireturn, 1) := by decide +kernel
theorem d_tp_takeName_0 : decode (q_cc m_tp_takeName) 0 = .ok (.aload_n 0, 1) := by decide +kernel
theorem d_tp_takeName_1 : decode (q_cc m_tp_takeName) 1 = .ok (.invokevirtual 56, 3) := by decide +kernel
theorem d_tp_takeName_4 : decode (q_cc m_tp_takeName) 4 = .ok (.iconst (-1), 1) := by decide +kernel
theorem d_tp_takeName_5 : decode (q_cc m_tp_takeName) 5 = .ok (.if_icmp .ne 14, 3) := by decide +kernel
theorem d_tp_takeName_8 : decode (q_cc m_tp_takeName) 8 = .ok (.aload_n 0, 1) := by decide +kernel
theorem d_tp_takeName_9 : decode (q_cc m_tp_takeName) 9 = .ok (.getfield 39, 3) := by decide +kernel
theorem d_tp_takeName_12 : decode (q_cc m_tp_takeName) 12 = .ok (.aload_n 0, 1) := by decide +kernel
theorem d_tp_takeName_13 : decode (q_cc m_tp_takeName) 13 = .ok (.getfield 22, 3) := by decide +kernel
theorem d_tp_takeName_16 : decode (q_cc m_tp_takeName) 16 = .ok (.if_icmp .ne 8, 3) := by decide +kernel
theorem d_tp_takeName_19 : decode (q_cc m_tp_takeName) 19 = .ok (.aload_n 0, 1) := by decide +kernel
theorem d_tp_takeName_20 : decode (q_cc m_tp_takeName) 20 = .ok (.invokevirtual 59, 3) := by decide +kernel
theorem d_tp_takeName_23 : decode (q_cc m_tp_takeName) 23 = .ok (.ireturn, 1) := by decide +kernel
theorem d_tp_takeName_24 : decode (q_cc m_tp_takeName) 24 = .ok (.aload_n 0, 1) := by decide +kernel
theorem d_tp_takeName_25 : decode (q_cc m_tp_takeName) 25 = .ok (.aload_n 0, 1) := by decide +kernel
theorem d_tp_takeName_26 : decode (q_cc m_tp_takeName) 26 = .ok (.getfield 22, 3) := by decide +kernel
theorem d_tp_takeName_29 : decode (q_cc m_tp_takeName) 29 = .ok (.putfield 69, 3) := by decide +kernel
theorem d_tp_takeName_32 : decode (q_cc m_tp_takeName) 32 = .ok (.aload_n 0, 1) := by decide +kernel
theorem d_tp_takeName_33 : decode (q_cc m_tp_takeName) 33 = .ok (.iconst 0, 1) := by decide +kernel
theorem d_tp_takeName_34 : decode (q_cc m_tp_takeName) 34 = .ok (.putfield 72, 3) := by decide +kernel
theorem d_tp_takeName_37 : decode (q_cc m_tp_takeName) 37 = .ok (.aload_n 0, 1) := by decide +kernel
theorem d_tp_takeName_38 : decode (q_cc m_tp_takeName) 38 = .ok (.getfield 22, 3) := by decide +kernel
theorem d_tp_takeName_41 : decode (q_cc m_tp_takeName) 41 = .ok (.aload_n 0, 1) := by decide +kernel
theorem d_tp_takeName_42 : decode (q_cc m_tp_takeName) 42 = .ok (.getfield 39, 3) := by decide +kernel
theorem d_tp_takeName_45 : decode (q_cc m_tp_takeName) 45 = .ok (.if_icmp .ge 64, 3) := by decide +kernel
theorem d_tp_takeName_48 : decode (q_cc m_tp_takeName) 48 = .ok (.aload_n 0, 1) := by decide +kernel
theorem d_tp_takeName_49 : decode (q_cc m_tp_takeName) 49 = .ok (.getfield 22, 3) := by decide +kernel
theorem d_tp_takeName_52 : decode (q_cc m_tp_takeName) 52 = .ok (.aload_n 0, 1) := by decide +kernel
theorem d_tp_takeName_53 : decode (q_cc m_tp_takeName) 53 = .ok (.getfield 69, 3) := by decide +kernel
theorem d_tp_takeName_56 : decode (q_cc m_tp_takeName) 56 = .ok (.isub, 1) := by decide +kernel
theorem d_tp_takeName_57 : decode (q_cc m_tp_takeName) 57 = .ok (.istore_n 1, 1) := by decide +kernel
theorem d_tp_takeName_58 : decode (q_cc m_tp_takeName) 58 = .ok (.iload_n 1, 1) := by decide +kernel
theorem d_tp_takeName_59 : decode (q_cc m_tp_takeName) 59 = .ok (.bipush 6, 2) := by decide +kernel
theorem d_tp_takeName_61 : decode (q_cc m_tp_takeName) 61 = .ok (.if_icmp .ne 8, 3) := by decide +kernel
theorem d_tp_takeName_64 : decode (q_cc m_tp_takeName) 64 = .ok (.aload_n 0, 1) := by decide +kernel
theorem d_tp_takeName_65 : decode (q_cc m_tp_takeName) 65 = .ok (.invokevirtual 59, 3) := by decide +kernel
theorem d_tp_takeName_68 : decode (q_cc m_tp_takeName) 68 = .ok (.ireturn, 1) := by decide +kernel
theorem d_tp_takeName_69 : decode (q_cc m_tp_takeName) 69 = .ok (.aload_n 0, 1) := by decide +kernel
theorem d_tp_takeName_70 : decode (q_cc m_tp_takeName) 70 = .ok (.dup, 1) := by decide +kernel
theorem d_tp_takeName_71 : decode (q_cc m_tp_takeName) 71 = .ok (.getfield 72, 3) := by decide +kernel
theorem d_tp_takeName_74 : decode (q_cc m_tp_takeName) 74 = .ok (.aload_n 0, 1) := by decide +kernel
theorem d_tp_takeName_75 : decode (q_cc m_tp_takeName) 75 = .ok (.getfield 9, 3) := by decide +kernel
theorem d_tp_takeName_78 : decode (q_cc m_tp_takeName) 78 = .ok (.aload_n 0, 1) := by decide +kernel
theorem d_tp_takeName_79 : decode (q_cc m_tp_takeName) 79 = .ok (.getfield 22, 3) := by decide +kernel
theorem d_tp_takeName_82 : decode (q_cc m_tp_takeName) 82 = .ok (.iaload, 1) := by decide +kernel
theorem d_tp_takeName_83 : decode (q_cc m_tp_takeName) 83 = .ok (.bipush 97, 2) := by decide +kernel
theorem d_tp_takeName_85 : decode (q_cc m_tp_takeName) 85 = .ok (.isub, 1) := by decide +kernel
theorem d_tp_takeName_86 : decode (q_cc m_tp_takeName) 86 = .ok (.iconst 1, 1) := by decide +kernel
theorem d_tp_takeName_87 : decode (q_cc m_tp_takeName) 87 = .ok (.iadd, 1) := by decide +kernel
theorem d_tp_takeName_88 : decode (q_cc m_tp_takeName) 88 = .ok (.iconst 5, 1) := by decide +kernel
theorem d_tp_takeName_89 : decode (q_cc m_tp_takeName) 89 = .ok (.iload_n 1, 1) := by decide +kernel
theorem d_tp_takeName_90 : decode (q_cc m_tp_takeName) 90 = .ok (.imul, 1) := by decide +kernel
theorem d_tp_takeName_91 : decode (q_cc m_tp_takeName) 91 = .ok (.ishl, 1) := by decide +kernel
theorem d_tp_takeName_92 : decode (q_cc m_tp_takeName) 92 = .ok (.ior, 1) := by decide +kernel
theorem d_tp_takeName_93 : decode (q_cc m_tp_takeName) 93 = .ok (.putfield 72, 3) := by decide +kernel
theorem d_tp_takeName_96 : decode (q_cc m_tp_takeName) 96 = .ok (.aload_n 0, 1) := by decide +kernel
theorem d_tp_takeName_97 : decode (q_cc m_tp_takeName) 97 = .ok (.dup, 1) := by decide +kernel
theorem d_tp_takeName_98 : decode (q_cc m_tp_takeName) 98 = .ok (.getfield 22, 3) := by decide +kernel
theorem d_tp_takeName_101 : decode (q_cc m_tp_takeName) 101 = .ok (.iconst 1, 1) := by decide +kernel
theorem d_tp_takeName_102 : decode (q_cc m_tp_takeName) 102 = .ok (.iadd, 1) := by decide +kernel
theorem d_tp_takeName_103 : decode (q_cc m_tp_takeName) 103 = .ok (.putfield 22, 3) := by decide +kernel
theorem d_tp_takeName_106 : decode (q_cc m_tp_takeName) 106 = .ok (.goto (-69), 3) := by decide +kernel
theorem d_tp_takeName_109 : decode (q_cc m_tp_takeName) 109 = .ok (.aload_n 0, 1) := by decide +kernel
theorem d_tp_takeName_110 : decode (q_cc m_tp_takeName) 110 = .ok (.aload_n 0, 1) := by decide +kernel
theorem d_tp_takeName_111 : decode (q_cc m_tp_takeName) 111 = .ok (.getfield 22, 3) := by decide +kernel
theorem d_tp_takeName_114 : decode (q_cc m_tp_takeName) 114 = .ok (.putfield 25, 3) := by decide +kernel
theorem d_tp_takeName_117 : decode (q_cc m_tp_takeName) 117 = .ok (.iconst 1, 1) := by decide +kernel
theorem d_tp_takeName_118 : decode (q_cc m_tp_takeName) 118 = .ok (.ireturn, 1) := by decide +kernel
theorem d_tp_letterOf_0 : decode (q_cc m_tp_letterOf) 0 = .ok (.iload_n 0, 1) := by decide +kernel
theorem d_tp_letterOf_1 : decode (q_cc m_tp_letterOf) 1 = .ok (.iconst 5, 1) := by decide +kernel
theorem d_tp_letterOf_2 : decode (q_cc m_tp_letterOf) 2 = .ok (.iload_n 1, 1) := by decide +kernel
theorem d_tp_letterOf_3 : decode (q_cc m_tp_letterOf) 3 = .ok (.imul, 1) := by decide +kernel
theorem d_tp_letterOf_4 : decode (q_cc m_tp_letterOf) 4 = .ok (.ishr, 1) := by decide +kernel
theorem d_tp_letterOf_5 : decode (q_cc m_tp_letterOf) 5 = .ok (.bipush 31, 2) := by decide +kernel
theorem d_tp_letterOf_7 : decode (q_cc m_tp_letterOf) 7 = .ok (.iand, 1) := by decide +kernel
theorem d_tp_letterOf_8 : decode (q_cc m_tp_letterOf) 8 = .ok (.ireturn, 1) := by decide +kernel
theorem d_tp_isDigit_0 : decode (q_cc m_tp_isDigit) 0 = .ok (.iload_n 0, 1) := by decide +kernel
theorem d_tp_isDigit_1 : decode (q_cc m_tp_isDigit) 1 = .ok (.bipush 48, 2) := by decide +kernel
theorem d_tp_isDigit_3 : decode (q_cc m_tp_isDigit) 3 = .ok (.if_icmp .lt 13, 3) := by decide +kernel
theorem d_tp_isDigit_6 : decode (q_cc m_tp_isDigit) 6 = .ok (.iload_n 0, 1) := by decide +kernel
theorem d_tp_isDigit_7 : decode (q_cc m_tp_isDigit) 7 = .ok (.bipush 57, 2) := by decide +kernel
theorem d_tp_isDigit_9 : decode (q_cc m_tp_isDigit) 9 = .ok (.if_icmp .gt 7, 3) := by decide +kernel
theorem d_tp_isDigit_12 : decode (q_cc m_tp_isDigit) 12 = .ok (.iconst 1, 1) := by decide +kernel
theorem d_tp_isDigit_13 : decode (q_cc m_tp_isDigit) 13 = .ok (.goto 4, 3) := by decide +kernel
theorem d_tp_isDigit_16 : decode (q_cc m_tp_isDigit) 16 = .ok (.iconst 0, 1) := by decide +kernel
theorem d_tp_isDigit_17 : decode (q_cc m_tp_isDigit) 17 = .ok (.ireturn, 1) := by decide +kernel
theorem d_tp_isLetter_0 : decode (q_cc m_tp_isLetter) 0 = .ok (.iload_n 0, 1) := by decide +kernel
theorem d_tp_isLetter_1 : decode (q_cc m_tp_isLetter) 1 = .ok (.bipush 97, 2) := by decide +kernel
theorem d_tp_isLetter_3 : decode (q_cc m_tp_isLetter) 3 = .ok (.if_icmp .lt 13, 3) := by decide +kernel
theorem d_tp_isLetter_6 : decode (q_cc m_tp_isLetter) 6 = .ok (.iload_n 0, 1) := by decide +kernel
theorem d_tp_isLetter_7 : decode (q_cc m_tp_isLetter) 7 = .ok (.bipush 122, 2) := by decide +kernel
theorem d_tp_isLetter_9 : decode (q_cc m_tp_isLetter) 9 = .ok (.if_icmp .gt 7, 3) := by decide +kernel
theorem d_tp_isLetter_12 : decode (q_cc m_tp_isLetter) 12 = .ok (.iconst 1, 1) := by decide +kernel
theorem d_tp_isLetter_13 : decode (q_cc m_tp_isLetter) 13 = .ok (.goto 4, 3) := by decide +kernel
theorem d_tp_isLetter_16 : decode (q_cc m_tp_isLetter) 16 = .ok (.iconst 0, 1) := by decide +kernel
theorem d_tp_isLetter_17 : decode (q_cc m_tp_isLetter) 17 = .ok (.ireturn, 1) := by decide +kernel
theorem d_hs_init_0 : decode (q_cc m_hs_init) 0 = .ok (.aload_n 0, 1) := by decide +kernel
theorem d_hs_init_1 : decode (q_cc m_hs_init) 1 = .ok (.invokespecial 1, 3) := by decide +kernel
theorem d_hs_init_4 : decode (q_cc m_hs_init) 4 = .ok (.aload_n 0, 1) := by decide +kernel
theorem d_hs_init_5 : decode (q_cc m_hs_init) 5 = .ok (.new 7, 3) := by decide +kernel
theorem d_hs_init_8 : decode (q_cc m_hs_init) 8 = .ok (.dup, 1) := by decide +kernel
theorem d_hs_init_9 : decode (q_cc m_hs_init) 9 = .ok (.invokespecial 9, 3) := by decide +kernel
theorem d_hs_init_12 : decode (q_cc m_hs_init) 12 = .ok (.putfield 10, 3) := by decide +kernel
theorem d_hs_init_15 : decode (q_cc m_hs_init) 15 = .ok (.aload_n 0, 1) := by decide +kernel
theorem d_hs_init_16 : decode (q_cc m_hs_init) 16 = .ok (.new 16, 3) := by decide +kernel
theorem d_hs_init_19 : decode (q_cc m_hs_init) 19 = .ok (.dup, 1) := by decide +kernel
theorem d_hs_init_20 : decode (q_cc m_hs_init) 20 = .ok (.aload_n 0, 1) := by decide +kernel
theorem d_hs_init_21 : decode (q_cc m_hs_init) 21 = .ok (.getfield 10, 3) := by decide +kernel
theorem d_hs_init_24 : decode (q_cc m_hs_init) 24 = .ok (.invokespecial 18, 3) := by decide +kernel
theorem d_hs_init_27 : decode (q_cc m_hs_init) 27 = .ok (.putfield 21, 3) := by decide +kernel
theorem d_hs_init_30 : decode (q_cc m_hs_init) 30 = .ok (.aload_n 0, 1) := by decide +kernel
theorem d_hs_init_31 : decode (q_cc m_hs_init) 31 = .ok (.new 25, 3) := by decide +kernel
theorem d_hs_init_34 : decode (q_cc m_hs_init) 34 = .ok (.dup, 1) := by decide +kernel
theorem d_hs_init_35 : decode (q_cc m_hs_init) 35 = .ok (.invokespecial 27, 3) := by decide +kernel
theorem d_hs_init_38 : decode (q_cc m_hs_init) 38 = .ok (.putfield 28, 3) := by decide +kernel
theorem d_hs_init_41 : decode (q_cc m_hs_init) 41 = .ok (.aload_n 0, 1) := by decide +kernel
theorem d_hs_init_42 : decode (q_cc m_hs_init) 42 = .ok (.new 32, 3) := by decide +kernel
theorem d_hs_init_45 : decode (q_cc m_hs_init) 45 = .ok (.dup, 1) := by decide +kernel
theorem d_hs_init_46 : decode (q_cc m_hs_init) 46 = .ok (.invokespecial 34, 3) := by decide +kernel
theorem d_hs_init_49 : decode (q_cc m_hs_init) 49 = .ok (.putfield 35, 3) := by decide +kernel
theorem d_hs_init_52 : decode (q_cc m_hs_init) 52 = .ok (.aload_n 0, 1) := by decide +kernel
theorem d_hs_init_53 : decode (q_cc m_hs_init) 53 = .ok (.new 39, 3) := by decide +kernel
theorem d_hs_init_56 : decode (q_cc m_hs_init) 56 = .ok (.dup, 1) := by decide +kernel
theorem d_hs_init_57 : decode (q_cc m_hs_init) 57 = .ok (.invokespecial 41, 3) := by decide +kernel
theorem d_hs_init_60 : decode (q_cc m_hs_init) 60 = .ok (.putfield 42, 3) := by decide +kernel
theorem d_hs_init_63 : decode (q_cc m_hs_init) 63 = .ok (.aload_n 0, 1) := by decide +kernel
theorem d_hs_init_64 : decode (q_cc m_hs_init) 64 = .ok (.bipush 25, 2) := by decide +kernel
theorem d_hs_init_66 : decode (q_cc m_hs_init) 66 = .ok (.newarray .int, 2) := by decide +kernel
theorem d_hs_init_68 : decode (q_cc m_hs_init) 68 = .ok (.putfield 46, 3) := by decide +kernel
theorem d_hs_init_71 : decode (q_cc m_hs_init) 71 = .ok (.aload_n 0, 1) := by decide +kernel
theorem d_hs_init_72 : decode (q_cc m_hs_init) 72 = .ok (.iconst 1, 1) := by decide +kernel
theorem d_hs_init_73 : decode (q_cc m_hs_init) 73 = .ok (.putfield 50, 3) := by decide +kernel
theorem d_hs_init_76 : decode (q_cc m_hs_init) 76 = .ok (.aload_n 0, 1) := by decide +kernel
theorem d_hs_init_77 : decode (q_cc m_hs_init) 77 = .ok (.new 54, 3) := by decide +kernel
theorem d_hs_init_80 : decode (q_cc m_hs_init) 80 = .ok (.dup, 1) := by decide +kernel
theorem d_hs_init_81 : decode (q_cc m_hs_init) 81 = .ok (.invokespecial 56, 3) := by decide +kernel
theorem d_hs_init_84 : decode (q_cc m_hs_init) 84 = .ok (.putfield 57, 3) := by decide +kernel
theorem d_hs_init_87 : decode (q_cc m_hs_init) 87 = .ok (.aload_n 0, 1) := by decide +kernel
theorem d_hs_init_88 : decode (q_cc m_hs_init) 88 = .ok (.new 54, 3) := by decide +kernel
theorem d_hs_init_91 : decode (q_cc m_hs_init) 91 = .ok (.dup, 1) := by decide +kernel
theorem d_hs_init_92 : decode (q_cc m_hs_init) 92 = .ok (.invokespecial 56, 3) := by decide +kernel
theorem d_hs_init_95 : decode (q_cc m_hs_init) 95 = .ok (.putfield 61, 3) := by decide +kernel
theorem d_hs_init_98 : decode (q_cc m_hs_init) 98 = .ok (.return_, 1) := by decide +kernel
theorem d_hs_feed_0 : decode (q_cc m_hs_feed) 0 = .ok (.aload_n 0, 1) := by decide +kernel
theorem d_hs_feed_1 : decode (q_cc m_hs_feed) 1 = .ok (.getfield 10, 3) := by decide +kernel
theorem d_hs_feed_4 : decode (q_cc m_hs_feed) 4 = .ok (.getfield 64, 3) := by decide +kernel
theorem d_hs_feed_7 : decode (q_cc m_hs_feed) 7 = .ok (.bipush 20, 2) := by decide +kernel
theorem d_hs_feed_9 : decode (q_cc m_hs_feed) 9 = .ok (.iadd, 1) := by decide +kernel
theorem d_hs_feed_10 : decode (q_cc m_hs_feed) 10 = .ok (.sipush 1600, 3) := by decide +kernel
theorem d_hs_feed_13 : decode (q_cc m_hs_feed) 13 = .ok (.if_icmp .le 5, 3) := by decide +kernel
theorem d_hs_feed_16 : decode (q_cc m_hs_feed) 16 = .ok (.iconst (-1), 1) := by decide +kernel
theorem d_hs_feed_17 : decode (q_cc m_hs_feed) 17 = .ok (.ireturn, 1) := by decide +kernel
theorem d_hs_feed_18 : decode (q_cc m_hs_feed) 18 = .ok (.aload_n 0, 1) := by decide +kernel
theorem d_hs_feed_19 : decode (q_cc m_hs_feed) 19 = .ok (.getfield 10, 3) := by decide +kernel
theorem d_hs_feed_22 : decode (q_cc m_hs_feed) 22 = .ok (.iload_n 1, 1) := by decide +kernel
theorem d_hs_feed_23 : decode (q_cc m_hs_feed) 23 = .ok (.invokevirtual 67, 3) := by decide +kernel
theorem d_hs_feed_26 : decode (q_cc m_hs_feed) 26 = .ok (.aload_n 0, 1) := by decide +kernel
theorem d_hs_feed_27 : decode (q_cc m_hs_feed) 27 = .ok (.getfield 10, 3) := by decide +kernel
theorem d_hs_feed_30 : decode (q_cc m_hs_feed) 30 = .ok (.iload_n 2, 1) := by decide +kernel
theorem d_hs_feed_31 : decode (q_cc m_hs_feed) 31 = .ok (.invokevirtual 67, 3) := by decide +kernel
theorem d_hs_feed_34 : decode (q_cc m_hs_feed) 34 = .ok (.aload_n 0, 1) := by decide +kernel
theorem d_hs_feed_35 : decode (q_cc m_hs_feed) 35 = .ok (.getfield 10, 3) := by decide +kernel
theorem d_hs_feed_38 : decode (q_cc m_hs_feed) 38 = .ok (.iload_n 3, 1) := by decide +kernel
theorem d_hs_feed_39 : decode (q_cc m_hs_feed) 39 = .ok (.invokevirtual 67, 3) := by decide +kernel
theorem d_hs_feed_42 : decode (q_cc m_hs_feed) 42 = .ok (.aload_n 0, 1) := by decide +kernel
theorem d_hs_feed_43 : decode (q_cc m_hs_feed) 43 = .ok (.getfield 10, 3) := by decide +kernel
theorem d_hs_feed_46 : decode (q_cc m_hs_feed) 46 = .ok (.iload 4, 2) := by decide +kernel
theorem d_hs_feed_48 : decode (q_cc m_hs_feed) 48 = .ok (.invokevirtual 67, 3) := by decide +kernel
theorem d_hs_feed_51 : decode (q_cc m_hs_feed) 51 = .ok (.aload_n 0, 1) := by decide +kernel
theorem d_hs_feed_52 : decode (q_cc m_hs_feed) 52 = .ok (.getfield 10, 3) := by decide +kernel
theorem d_hs_feed_55 : decode (q_cc m_hs_feed) 55 = .ok (.iload 5, 2) := by decide +kernel
theorem d_hs_feed_57 : decode (q_cc m_hs_feed) 57 = .ok (.invokevirtual 67, 3) := by decide +kernel
theorem d_hs_feed_60 : decode (q_cc m_hs_feed) 60 = .ok (.aload_n 0, 1) := by decide +kernel
theorem d_hs_feed_61 : decode (q_cc m_hs_feed) 61 = .ok (.getfield 10, 3) := by decide +kernel
theorem d_hs_feed_64 : decode (q_cc m_hs_feed) 64 = .ok (.getfield 64, 3) := by decide +kernel
theorem d_hs_feed_67 : decode (q_cc m_hs_feed) 67 = .ok (.ireturn, 1) := by decide +kernel
theorem d_hs_end_0 : decode (q_cc m_hs_end) 0 = .ok (.iload_n 1, 1) := by decide +kernel
theorem d_hs_end_1 : decode (q_cc m_hs_end) 1 = .ok (.ifCond .lt 14, 3) := by decide +kernel
theorem d_hs_end_4 : decode (q_cc m_hs_end) 4 = .ok (.iload_n 1, 1) := by decide +kernel
theorem d_hs_end_5 : decode (q_cc m_hs_end) 5 = .ok (.aload_n 0, 1) := by decide +kernel
theorem d_hs_end_6 : decode (q_cc m_hs_end) 6 = .ok (.getfield 10, 3) := by decide +kernel
theorem d_hs_end_9 : decode (q_cc m_hs_end) 9 = .ok (.getfield 64, 3) := by decide +kernel
theorem d_hs_end_12 : decode (q_cc m_hs_end) 12 = .ok (.if_icmp .le 5, 3) := by decide +kernel
theorem d_hs_end_15 : decode (q_cc m_hs_end) 15 = .ok (.iconst 0, 1) := by decide +kernel
theorem d_hs_end_16 : decode (q_cc m_hs_end) 16 = .ok (.ireturn, 1) := by decide +kernel
theorem d_hs_end_17 : decode (q_cc m_hs_end) 17 = .ok (.aload_n 0, 1) := by decide +kernel
theorem d_hs_end_18 : decode (q_cc m_hs_end) 18 = .ok (.getfield 10, 3) := by decide +kernel
theorem d_hs_end_21 : decode (q_cc m_hs_end) 21 = .ok (.iload_n 1, 1) := by decide +kernel
theorem d_hs_end_22 : decode (q_cc m_hs_end) 22 = .ok (.putfield 64, 3) := by decide +kernel
theorem d_hs_end_25 : decode (q_cc m_hs_end) 25 = .ok (.iconst 1, 1) := by decide +kernel
theorem d_hs_end_26 : decode (q_cc m_hs_end) 26 = .ok (.ireturn, 1) := by decide +kernel
theorem d_hs_guild_0 : decode (q_cc m_hs_guild) 0 = .ok (.aload_n 0, 1) := by decide +kernel
theorem d_hs_guild_1 : decode (q_cc m_hs_guild) 1 = .ok (.getfield 21, 3) := by decide +kernel
theorem d_hs_guild_4 : decode (q_cc m_hs_guild) 4 = .ok (.aload_n 0, 1) := by decide +kernel
theorem d_hs_guild_5 : decode (q_cc m_hs_guild) 5 = .ok (.getfield 61, 3) := by decide +kernel
theorem d_hs_guild_8 : decode (q_cc m_hs_guild) 8 = .ok (.invokevirtual 71, 3) := by decide +kernel
theorem d_hs_guild_11 : decode (q_cc m_hs_guild) 11 = .ok (.istore_n 1, 1) := by decide +kernel
theorem d_hs_guild_12 : decode (q_cc m_hs_guild) 12 = .ok (.aload_n 0, 1) := by decide +kernel
theorem d_hs_guild_13 : decode (q_cc m_hs_guild) 13 = .ok (.getfield 10, 3) := by decide +kernel
theorem d_hs_guild_16 : decode (q_cc m_hs_guild) 16 = .ok (.iconst 0, 1) := by decide +kernel
theorem d_hs_guild_17 : decode (q_cc m_hs_guild) 17 = .ok (.putfield 64, 3) := by decide +kernel
theorem d_hs_guild_20 : decode (q_cc m_hs_guild) 20 = .ok (.iload_n 1, 1) := by decide +kernel
theorem d_hs_guild_21 : decode (q_cc m_hs_guild) 21 = .ok (.ifCond .ne 5, 3) := by decide +kernel
theorem d_hs_guild_24 : decode (q_cc m_hs_guild) 24 = .ok (.iconst (-1), 1) := by decide +kernel
theorem d_hs_guild_25 : decode (q_cc m_hs_guild) 25 = .ok (.ireturn, 1) := by decide +kernel
theorem d_hs_guild_26 : decode (q_cc m_hs_guild) 26 = .ok (.aload_n 0, 1) := by decide +kernel
theorem d_hs_guild_27 : decode (q_cc m_hs_guild) 27 = .ok (.getfield 21, 3) := by decide +kernel
theorem d_hs_guild_30 : decode (q_cc m_hs_guild) 30 = .ok (.invokevirtual 75, 3) := by decide +kernel
theorem d_hs_guild_33 : decode (q_cc m_hs_guild) 33 = .ok (.aload_n 0, 1) := by decide +kernel
theorem d_hs_guild_34 : decode (q_cc m_hs_guild) 34 = .ok (.getfield 57, 3) := by decide +kernel
theorem d_hs_guild_37 : decode (q_cc m_hs_guild) 37 = .ok (.astore_n 2, 1) := by decide +kernel
theorem d_hs_guild_38 : decode (q_cc m_hs_guild) 38 = .ok (.aload_n 0, 1) := by decide +kernel
theorem d_hs_guild_39 : decode (q_cc m_hs_guild) 39 = .ok (.aload_n 0, 1) := by decide +kernel
theorem d_hs_guild_40 : decode (q_cc m_hs_guild) 40 = .ok (.getfield 61, 3) := by decide +kernel
theorem d_hs_guild_43 : decode (q_cc m_hs_guild) 43 = .ok (.putfield 57, 3) := by decide +kernel
theorem d_hs_guild_46 : decode (q_cc m_hs_guild) 46 = .ok (.aload_n 0, 1) := by decide +kernel
theorem d_hs_guild_47 : decode (q_cc m_hs_guild) 47 = .ok (.aload_n 2, 1) := by decide +kernel
theorem d_hs_guild_48 : decode (q_cc m_hs_guild) 48 = .ok (.putfield 61, 3) := by decide +kernel
theorem d_hs_guild_51 : decode (q_cc m_hs_guild) 51 = .ok (.aload_n 0, 1) := by decide +kernel
theorem d_hs_guild_52 : decode (q_cc m_hs_guild) 52 = .ok (.getfield 28, 3) := by decide +kernel
theorem d_hs_guild_55 : decode (q_cc m_hs_guild) 55 = .ok (.invokevirtual 78, 3) := by decide +kernel
theorem d_hs_guild_58 : decode (q_cc m_hs_guild) 58 = .ok (.aload_n 0, 1) := by decide +kernel
theorem d_hs_guild_59 : decode (q_cc m_hs_guild) 59 = .ok (.getfield 57, 3) := by decide +kernel
theorem d_hs_guild_62 : decode (q_cc m_hs_guild) 62 = .ok (.getfield 81, 3) := by decide +kernel
theorem d_hs_guild_65 : decode (q_cc m_hs_guild) 65 = .ok (.ireturn, 1) := by decide +kernel
theorem d_hs_fault_0 : decode (q_cc m_hs_fault) 0 = .ok (.iload_n 1, 1) := by decide +kernel
theorem d_hs_fault_1 : decode (q_cc m_hs_fault) 1 = .ok (.ifCond .ne 11, 3) := by decide +kernel
theorem d_hs_fault_4 : decode (q_cc m_hs_fault) 4 = .ok (.aload_n 0, 1) := by decide +kernel
theorem d_hs_fault_5 : decode (q_cc m_hs_fault) 5 = .ok (.getfield 10, 3) := by decide +kernel
theorem d_hs_fault_8 : decode (q_cc m_hs_fault) 8 = .ok (.getfield 84, 3) := by decide +kernel
theorem d_hs_fault_11 : decode (q_cc m_hs_fault) 11 = .ok (.ireturn, 1) := by decide +kernel
theorem d_hs_fault_12 : decode (q_cc m_hs_fault) 12 = .ok (.iload_n 1, 1) := by decide +kernel
theorem d_hs_fault_13 : decode (q_cc m_hs_fault) 13 = .ok (.iconst 1, 1) := by decide +kernel
theorem d_hs_fault_14 : decode (q_cc m_hs_fault) 14 = .ok (.if_icmp .ne 13, 3) := by decide +kernel
theorem d_hs_fault_17 : decode (q_cc m_hs_fault) 17 = .ok (.aload_n 0, 1) := by decide +kernel
theorem d_hs_fault_18 : decode (q_cc m_hs_fault) 18 = .ok (.getfield 10, 3) := by decide +kernel
theorem d_hs_fault_21 : decode (q_cc m_hs_fault) 21 = .ok (.getfield 87, 3) := by decide +kernel
theorem d_hs_fault_24 : decode (q_cc m_hs_fault) 24 = .ok (.goto 4, 3) := by decide +kernel
theorem d_hs_fault_27 : decode (q_cc m_hs_fault) 27 = .ok (.iconst (-1), 1) := by decide +kernel
theorem d_hs_fault_28 : decode (q_cc m_hs_fault) 28 = .ok (.ireturn, 1) := by decide +kernel
theorem d_hs_has_0 : decode (q_cc m_hs_has) 0 = .ok (.iload_n 1, 1) := by decide +kernel
theorem d_hs_has_1 : decode (q_cc m_hs_has) 1 = .ok (.ifCond .lt 18, 3) := by decide +kernel
theorem d_hs_has_4 : decode (q_cc m_hs_has) 4 = .ok (.iload_n 1, 1) := by decide +kernel
theorem d_hs_has_5 : decode (q_cc m_hs_has) 5 = .ok (.iconst 5, 1) := by decide +kernel
theorem d_hs_has_6 : decode (q_cc m_hs_has) 6 = .ok (.if_icmp .gt 13, 3) := by decide +kernel
theorem d_hs_has_9 : decode (q_cc m_hs_has) 9 = .ok (.aload_n 0, 1) := by decide +kernel
theorem d_hs_has_10 : decode (q_cc m_hs_has) 10 = .ok (.getfield 57, 3) := by decide +kernel
theorem d_hs_has_13 : decode (q_cc m_hs_has) 13 = .ok (.getfield 90, 3) := by decide +kernel
theorem d_hs_has_16 : decode (q_cc m_hs_has) 16 = .ok (.iload_n 1, 1) := by decide +kernel
theorem d_hs_has_17 : decode (q_cc m_hs_has) 17 = .ok (.iaload, 1) := by decide +kernel
theorem d_hs_has_18 : decode (q_cc m_hs_has) 18 = .ok (.ireturn, 1) := by decide +kernel
theorem d_hs_has_19 : decode (q_cc m_hs_has) 19 = .ok (.iload_n 1, 1) := by decide +kernel
theorem d_hs_has_20 : decode (q_cc m_hs_has) 20 = .ok (.tableswitch 62 6 8 #[28, 36, 54], 28) := by decide +kernel
theorem d_hs_has_48 : decode (q_cc m_hs_has) 48 = .ok (.aload_n 0, 1) := by decide +kernel
theorem d_hs_has_49 : decode (q_cc m_hs_has) 49 = .ok (.getfield 57, 3) := by decide +kernel
theorem d_hs_has_52 : decode (q_cc m_hs_has) 52 = .ok (.getfield 93, 3) := by decide +kernel
theorem d_hs_has_55 : decode (q_cc m_hs_has) 55 = .ok (.ireturn, 1) := by decide +kernel
theorem d_hs_has_56 : decode (q_cc m_hs_has) 56 = .ok (.aload_n 0, 1) := by decide +kernel
theorem d_hs_has_57 : decode (q_cc m_hs_has) 57 = .ok (.getfield 57, 3) := by decide +kernel
theorem d_hs_has_60 : decode (q_cc m_hs_has) 60 = .ok (.invokevirtual 96, 3) := by decide +kernel
theorem d_hs_has_63 : decode (q_cc m_hs_has) 63 = .ok (.aload_n 0, 1) := by decide +kernel
theorem d_hs_has_64 : decode (q_cc m_hs_has) 64 = .ok (.invokevirtual 100, 3) := by decide +kernel
theorem d_hs_has_67 : decode (q_cc m_hs_has) 67 = .ok (.iconst (-1), 1) := by decide +kernel
theorem d_hs_has_68 : decode (q_cc m_hs_has) 68 = .ok (.ixor, 1) := by decide +kernel
theorem d_hs_has_69 : decode (q_cc m_hs_has) 69 = .ok (.iand, 1) := by decide +kernel
theorem d_hs_has_70 : decode (q_cc m_hs_has) 70 = .ok (.invokestatic 103, 3) := by decide +kernel
theorem d_hs_has_73 : decode (q_cc m_hs_has) 73 = .ok (.ireturn, 1) := by decide +kernel
theorem d_hs_has_74 : decode (q_cc m_hs_has) 74 = .ok (.aload_n 0, 1) := by decide +kernel
theorem d_hs_has_75 : decode (q_cc m_hs_has) 75 = .ok (.getfield 28, 3) := by decide +kernel
theorem d_hs_has_78 : decode (q_cc m_hs_has) 78 = .ok (.getfield 109, 3) := by decide +kernel
theorem d_hs_has_81 : decode (q_cc m_hs_has) 81 = .ok (.ireturn, 1) := by decide +kernel
theorem d_hs_has_82 : decode (q_cc m_hs_has) 82 = .ok (.iconst (-1), 1) := by decide +kernel
theorem d_hs_has_83 : decode (q_cc m_hs_has) 83 = .ok (.ireturn, 1) := by decide +kernel
theorem d_hs_letter_0 : decode (q_cc m_hs_letter) 0 = .ok (.iload_n 1, 1) := by decide +kernel
theorem d_hs_letter_1 : decode (q_cc m_hs_letter) 1 = .ok (.ifCond .lt 29, 3) := by decide +kernel
theorem d_hs_letter_4 : decode (q_cc m_hs_letter) 4 = .ok (.iload_n 1, 1) := by decide +kernel
theorem d_hs_letter_5 : decode (q_cc m_hs_letter) 5 = .ok (.iconst 3, 1) := by decide +kernel
theorem d_hs_letter_6 : decode (q_cc m_hs_letter) 6 = .ok (.if_icmp .gt 24, 3) := by decide +kernel
theorem d_hs_letter_9 : decode (q_cc m_hs_letter) 9 = .ok (.aload_n 0, 1) := by decide +kernel
theorem d_hs_letter_10 : decode (q_cc m_hs_letter) 10 = .ok (.getfield 57, 3) := by decide +kernel
theorem d_hs_letter_13 : decode (q_cc m_hs_letter) 13 = .ok (.iload_n 1, 1) := by decide +kernel
theorem d_hs_letter_14 : decode (q_cc m_hs_letter) 14 = .ok (.iload_n 2, 1) := by decide +kernel
theorem d_hs_letter_15 : decode (q_cc m_hs_letter) 15 = .ok (.invokevirtual 112, 3) := by decide +kernel
theorem d_hs_letter_18 : decode (q_cc m_hs_letter) 18 = .ok (.ifCond .eq 12, 3) := by decide +kernel
theorem d_hs_letter_21 : decode (q_cc m_hs_letter) 21 = .ok (.iload_n 3, 1) := by decide +kernel
theorem d_hs_letter_22 : decode (q_cc m_hs_letter) 22 = .ok (.ifCond .lt 8, 3) := by decide +kernel
theorem d_hs_letter_25 : decode (q_cc m_hs_letter) 25 = .ok (.iload_n 3, 1) := by decide +kernel
theorem d_hs_letter_26 : decode (q_cc m_hs_letter) 26 = .ok (.iconst 5, 1) := by decide +kernel
theorem d_hs_letter_27 : decode (q_cc m_hs_letter) 27 = .ok (.if_icmp .le 5, 3) := by decide +kernel
theorem d_hs_letter_30 : decode (q_cc m_hs_letter) 30 = .ok (.iconst (-1), 1) := by decide +kernel
theorem d_hs_letter_31 : decode (q_cc m_hs_letter) 31 = .ok (.ireturn, 1) := by decide +kernel
theorem d_hs_letter_32 : decode (q_cc m_hs_letter) 32 = .ok (.aload_n 0, 1) := by decide +kernel
theorem d_hs_letter_33 : decode (q_cc m_hs_letter) 33 = .ok (.getfield 57, 3) := by decide +kernel
theorem d_hs_letter_36 : decode (q_cc m_hs_letter) 36 = .ok (.getfield 116, 3) := by decide +kernel
theorem d_hs_letter_39 : decode (q_cc m_hs_letter) 39 = .ok (.iload_n 1, 1) := by decide +kernel
theorem d_hs_letter_40 : decode (q_cc m_hs_letter) 40 = .ok (.aaload, 1) := by decide +kernel
theorem d_hs_letter_41 : decode (q_cc m_hs_letter) 41 = .ok (.iload_n 2, 1) := by decide +kernel
theorem d_hs_letter_42 : decode (q_cc m_hs_letter) 42 = .ok (.iaload, 1) := by decide +kernel
theorem d_hs_letter_43 : decode (q_cc m_hs_letter) 43 = .ok (.iload_n 3, 1) := by decide +kernel
theorem d_hs_letter_44 : decode (q_cc m_hs_letter) 44 = .ok (.invokestatic 120, 3) := by decide +kernel
theorem d_hs_letter_47 : decode (q_cc m_hs_letter) 47 = .ok (.ireturn, 1) := by decide +kernel
theorem d_hs_trait_0 : decode (q_cc m_hs_trait) 0 = .ok (.aload_n 0, 1) := by decide +kernel
theorem d_hs_trait_1 : decode (q_cc m_hs_trait) 1 = .ok (.getfield 57, 3) := by decide +kernel
theorem d_hs_trait_4 : decode (q_cc m_hs_trait) 4 = .ok (.iconst 0, 1) := by decide +kernel
theorem d_hs_trait_5 : decode (q_cc m_hs_trait) 5 = .ok (.iload_n 1, 1) := by decide +kernel
theorem d_hs_trait_6 : decode (q_cc m_hs_trait) 6 = .ok (.invokevirtual 112, 3) := by decide +kernel
theorem d_hs_trait_9 : decode (q_cc m_hs_trait) 9 = .ok (.ifCond .ne 5, 3) := by decide +kernel
theorem d_hs_trait_12 : decode (q_cc m_hs_trait) 12 = .ok (.iconst (-1), 1) := by decide +kernel
theorem d_hs_trait_13 : decode (q_cc m_hs_trait) 13 = .ok (.ireturn, 1) := by decide +kernel
theorem d_hs_trait_14 : decode (q_cc m_hs_trait) 14 = .ok (.iload_n 3, 1) := by decide +kernel
theorem d_hs_trait_15 : decode (q_cc m_hs_trait) 15 = .ok (.tableswitch 138 0 4 #[33, 33, 54, 82, 110], 33) := by decide +kernel
theorem d_hs_trait_48 : decode (q_cc m_hs_trait) 48 = .ok (.iload_n 2, 1) := by decide +kernel
theorem d_hs_trait_49 : decode (q_cc m_hs_trait) 49 = .ok (.iconst (-1), 1) := by decide +kernel
theorem d_hs_trait_50 : decode (q_cc m_hs_trait) 50 = .ok (.if_icmp .ne 17, 3) := by decide +kernel
theorem d_hs_trait_53 : decode (q_cc m_hs_trait) 53 = .ok (.aload_n 0, 1) := by decide +kernel
theorem d_hs_trait_54 : decode (q_cc m_hs_trait) 54 = .ok (.getfield 57, 3) := by decide +kernel
theorem d_hs_trait_57 : decode (q_cc m_hs_trait) 57 = .ok (.getfield 124, 3) := by decide +kernel
theorem d_hs_trait_60 : decode (q_cc m_hs_trait) 60 = .ok (.iload_n 1, 1) := by decide +kernel
theorem d_hs_trait_61 : decode (q_cc m_hs_trait) 61 = .ok (.aaload, 1) := by decide +kernel
theorem d_hs_trait_62 : decode (q_cc m_hs_trait) 62 = .ok (.iload_n 3, 1) := by decide +kernel
theorem d_hs_trait_63 : decode (q_cc m_hs_trait) 63 = .ok (.iaload, 1) := by decide +kernel
theorem d_hs_trait_64 : decode (q_cc m_hs_trait) 64 = .ok (.goto 4, 3) := by decide +kernel
theorem d_hs_trait_67 : decode (q_cc m_hs_trait) 67 = .ok (.iconst (-1), 1) := by decide +kernel
theorem d_hs_trait_68 : decode (q_cc m_hs_trait) 68 = .ok (.ireturn, 1) := by decide +kernel
theorem d_hs_trait_69 : decode (q_cc m_hs_trait) 69 = .ok (.aload_n 0, 1) := by decide +kernel
theorem d_hs_trait_70 : decode (q_cc m_hs_trait) 70 = .ok (.getfield 57, 3) := by decide +kernel
theorem d_hs_trait_73 : decode (q_cc m_hs_trait) 73 = .ok (.iconst 1, 1) := by decide +kernel
theorem d_hs_trait_74 : decode (q_cc m_hs_trait) 74 = .ok (.iload_n 2, 1) := by decide +kernel
theorem d_hs_trait_75 : decode (q_cc m_hs_trait) 75 = .ok (.invokevirtual 112, 3) := by decide +kernel
theorem d_hs_trait_78 : decode (q_cc m_hs_trait) 78 = .ok (.ifCond .eq 17, 3) := by decide +kernel
theorem d_hs_trait_81 : decode (q_cc m_hs_trait) 81 = .ok (.aload_n 0, 1) := by decide +kernel
theorem d_hs_trait_82 : decode (q_cc m_hs_trait) 82 = .ok (.getfield 57, 3) := by decide +kernel
theorem d_hs_trait_85 : decode (q_cc m_hs_trait) 85 = .ok (.getfield 127, 3) := by decide +kernel
theorem d_hs_trait_88 : decode (q_cc m_hs_trait) 88 = .ok (.iload_n 2, 1) := by decide +kernel
theorem d_hs_trait_89 : decode (q_cc m_hs_trait) 89 = .ok (.aaload, 1) := by decide +kernel
theorem d_hs_trait_90 : decode (q_cc m_hs_trait) 90 = .ok (.iload_n 1, 1) := by decide +kernel
theorem d_hs_trait_91 : decode (q_cc m_hs_trait) 91 = .ok (.iaload, 1) := by decide +kernel
theorem d_hs_trait_92 : decode (q_cc m_hs_trait) 92 = .ok (.goto 4, 3) := by decide +kernel
theorem d_hs_trait_95 : decode (q_cc m_hs_trait) 95 = .ok (.iconst (-1), 1) := by decide +kernel
theorem d_hs_trait_96 : decode (q_cc m_hs_trait) 96 = .ok (.ireturn, 1) := by decide +kernel
theorem d_hs_trait_97 : decode (q_cc m_hs_trait) 97 = .ok (.aload_n 0, 1) := by decide +kernel
theorem d_hs_trait_98 : decode (q_cc m_hs_trait) 98 = .ok (.getfield 57, 3) := by decide +kernel
theorem d_hs_trait_101 : decode (q_cc m_hs_trait) 101 = .ok (.iconst 2, 1) := by decide +kernel
theorem d_hs_trait_102 : decode (q_cc m_hs_trait) 102 = .ok (.iload_n 2, 1) := by decide +kernel
theorem d_hs_trait_103 : decode (q_cc m_hs_trait) 103 = .ok (.invokevirtual 112, 3) := by decide +kernel
theorem d_hs_trait_106 : decode (q_cc m_hs_trait) 106 = .ok (.ifCond .eq 17, 3) := by decide +kernel
theorem d_hs_trait_109 : decode (q_cc m_hs_trait) 109 = .ok (.aload_n 0, 1) := by decide +kernel
theorem d_hs_trait_110 : decode (q_cc m_hs_trait) 110 = .ok (.getfield 57, 3) := by decide +kernel
theorem d_hs_trait_113 : decode (q_cc m_hs_trait) 113 = .ok (.getfield 130, 3) := by decide +kernel
theorem d_hs_trait_116 : decode (q_cc m_hs_trait) 116 = .ok (.iload_n 2, 1) := by decide +kernel
theorem d_hs_trait_117 : decode (q_cc m_hs_trait) 117 = .ok (.aaload, 1) := by decide +kernel
theorem d_hs_trait_118 : decode (q_cc m_hs_trait) 118 = .ok (.iload_n 1, 1) := by decide +kernel
theorem d_hs_trait_119 : decode (q_cc m_hs_trait) 119 = .ok (.iaload, 1) := by decide +kernel
theorem d_hs_trait_120 : decode (q_cc m_hs_trait) 120 = .ok (.goto 4, 3) := by decide +kernel
theorem d_hs_trait_123 : decode (q_cc m_hs_trait) 123 = .ok (.iconst (-1), 1) := by decide +kernel
theorem d_hs_trait_124 : decode (q_cc m_hs_trait) 124 = .ok (.ireturn, 1) := by decide +kernel
theorem d_hs_trait_125 : decode (q_cc m_hs_trait) 125 = .ok (.aload_n 0, 1) := by decide +kernel
theorem d_hs_trait_126 : decode (q_cc m_hs_trait) 126 = .ok (.getfield 57, 3) := by decide +kernel
theorem d_hs_trait_129 : decode (q_cc m_hs_trait) 129 = .ok (.iconst 2, 1) := by decide +kernel
theorem d_hs_trait_130 : decode (q_cc m_hs_trait) 130 = .ok (.iload_n 2, 1) := by decide +kernel
theorem d_hs_trait_131 : decode (q_cc m_hs_trait) 131 = .ok (.invokevirtual 112, 3) := by decide +kernel
theorem d_hs_trait_134 : decode (q_cc m_hs_trait) 134 = .ok (.ifCond .eq 17, 3) := by decide +kernel
theorem d_hs_trait_137 : decode (q_cc m_hs_trait) 137 = .ok (.aload_n 0, 1) := by decide +kernel
theorem d_hs_trait_138 : decode (q_cc m_hs_trait) 138 = .ok (.getfield 57, 3) := by decide +kernel
theorem d_hs_trait_141 : decode (q_cc m_hs_trait) 141 = .ok (.getfield 133, 3) := by decide +kernel
theorem d_hs_trait_144 : decode (q_cc m_hs_trait) 144 = .ok (.iload_n 2, 1) := by decide +kernel
theorem d_hs_trait_145 : decode (q_cc m_hs_trait) 145 = .ok (.aaload, 1) := by decide +kernel
theorem d_hs_trait_146 : decode (q_cc m_hs_trait) 146 = .ok (.iload_n 1, 1) := by decide +kernel
theorem d_hs_trait_147 : decode (q_cc m_hs_trait) 147 = .ok (.iaload, 1) := by decide +kernel
theorem d_hs_trait_148 : decode (q_cc m_hs_trait) 148 = .ok (.goto 4, 3) := by decide +kernel
theorem d_hs_trait_151 : decode (q_cc m_hs_trait) 151 = .ok (.iconst (-1), 1) := by decide +kernel
theorem d_hs_trait_152 : decode (q_cc m_hs_trait) 152 = .ok (.ireturn, 1) := by decide +kernel
theorem d_hs_trait_153 : decode (q_cc m_hs_trait) 153 = .ok (.iconst (-1), 1) := by decide +kernel
theorem d_hs_trait_154 : decode (q_cc m_hs_trait) 154 = .ok (.ireturn, 1) := by decide +kernel
theorem d_hs_seen_0 : decode (q_cc m_hs_seen) 0 = .ok (.aload_n 0, 1) := by decide +kernel
theorem d_hs_seen_1 : decode (q_cc m_hs_seen) 1 = .ok (.iload_n 1, 1) := by decide +kernel
theorem d_hs_seen_2 : decode (q_cc m_hs_seen) 2 = .ok (.invokevirtual 136, 3) := by decide +kernel
theorem d_hs_seen_5 : decode (q_cc m_hs_seen) 5 = .ok (.ifCond .ne 5, 3) := by decide +kernel
theorem d_hs_seen_8 : decode (q_cc m_hs_seen) 8 = .ok (.iconst (-1), 1) := by decide +kernel
theorem d_hs_seen_9 : decode (q_cc m_hs_seen) 9 = .ok (.ireturn, 1) := by decide +kernel
theorem d_hs_seen_10 : decode (q_cc m_hs_seen) 10 = .ok (.iload_n 2, 1) := by decide +kernel
theorem d_hs_seen_11 : decode (q_cc m_hs_seen) 11 = .ok (.ifCond .lt 20, 3) := by decide +kernel
theorem d_hs_seen_14 : decode (q_cc m_hs_seen) 14 = .ok (.iload_n 2, 1) := by decide +kernel
theorem d_hs_seen_15 : decode (q_cc m_hs_seen) 15 = .ok (.iconst 4, 1) := by decide +kernel
theorem d_hs_seen_16 : decode (q_cc m_hs_seen) 16 = .ok (.if_icmp .gt 15, 3) := by decide +kernel
theorem d_hs_seen_19 : decode (q_cc m_hs_seen) 19 = .ok (.aload_n 0, 1) := by decide +kernel
theorem d_hs_seen_20 : decode (q_cc m_hs_seen) 20 = .ok (.getfield 57, 3) := by decide +kernel
theorem d_hs_seen_23 : decode (q_cc m_hs_seen) 23 = .ok (.getfield 140, 3) := by decide +kernel
theorem d_hs_seen_26 : decode (q_cc m_hs_seen) 26 = .ok (.iload_n 1, 1) := by decide +kernel
theorem d_hs_seen_27 : decode (q_cc m_hs_seen) 27 = .ok (.aaload, 1) := by decide +kernel
theorem d_hs_seen_28 : decode (q_cc m_hs_seen) 28 = .ok (.iload_n 2, 1) := by decide +kernel
theorem d_hs_seen_29 : decode (q_cc m_hs_seen) 29 = .ok (.iaload, 1) := by decide +kernel
theorem d_hs_seen_30 : decode (q_cc m_hs_seen) 30 = .ok (.ireturn, 1) := by decide +kernel
theorem d_hs_seen_31 : decode (q_cc m_hs_seen) 31 = .ok (.iload_n 2, 1) := by decide +kernel
theorem d_hs_seen_32 : decode (q_cc m_hs_seen) 32 = .ok (.iconst 5, 1) := by decide +kernel
theorem d_hs_seen_33 : decode (q_cc m_hs_seen) 33 = .ok (.if_icmp .ne 15, 3) := by decide +kernel
theorem d_hs_seen_36 : decode (q_cc m_hs_seen) 36 = .ok (.aload_n 0, 1) := by decide +kernel
theorem d_hs_seen_37 : decode (q_cc m_hs_seen) 37 = .ok (.getfield 28, 3) := by decide +kernel
theorem d_hs_seen_40 : decode (q_cc m_hs_seen) 40 = .ok (.getfield 143, 3) := by decide +kernel
theorem d_hs_seen_43 : decode (q_cc m_hs_seen) 43 = .ok (.iload_n 1, 1) := by decide +kernel
theorem d_hs_seen_44 : decode (q_cc m_hs_seen) 44 = .ok (.iaload, 1) := by decide +kernel
theorem d_hs_seen_45 : decode (q_cc m_hs_seen) 45 = .ok (.goto 4, 3) := by decide +kernel
theorem d_hs_seen_48 : decode (q_cc m_hs_seen) 48 = .ok (.iconst (-1), 1) := by decide +kernel
theorem d_hs_seen_49 : decode (q_cc m_hs_seen) 49 = .ok (.ireturn, 1) := by decide +kernel
theorem d_hs_far_0 : decode (q_cc m_hs_far) 0 = .ok (.aload_n 0, 1) := by decide +kernel
theorem d_hs_far_1 : decode (q_cc m_hs_far) 1 = .ok (.getfield 57, 3) := by decide +kernel
theorem d_hs_far_4 : decode (q_cc m_hs_far) 4 = .ok (.iconst 3, 1) := by decide +kernel
theorem d_hs_far_5 : decode (q_cc m_hs_far) 5 = .ok (.iload_n 1, 1) := by decide +kernel
theorem d_hs_far_6 : decode (q_cc m_hs_far) 6 = .ok (.invokevirtual 112, 3) := by decide +kernel
theorem d_hs_far_9 : decode (q_cc m_hs_far) 9 = .ok (.ifCond .eq 15, 3) := by decide +kernel
theorem d_hs_far_12 : decode (q_cc m_hs_far) 12 = .ok (.aload_n 0, 1) := by decide +kernel
theorem d_hs_far_13 : decode (q_cc m_hs_far) 13 = .ok (.getfield 57, 3) := by decide +kernel
theorem d_hs_far_16 : decode (q_cc m_hs_far) 16 = .ok (.iconst 3, 1) := by decide +kernel
theorem d_hs_far_17 : decode (q_cc m_hs_far) 17 = .ok (.iload_n 2, 1) := by decide +kernel
theorem d_hs_far_18 : decode (q_cc m_hs_far) 18 = .ok (.invokevirtual 112, 3) := by decide +kernel
theorem d_hs_far_21 : decode (q_cc m_hs_far) 21 = .ok (.ifCond .ne 5, 3) := by decide +kernel
theorem d_hs_far_24 : decode (q_cc m_hs_far) 24 = .ok (.iconst (-1), 1) := by decide +kernel
theorem d_hs_far_25 : decode (q_cc m_hs_far) 25 = .ok (.ireturn, 1) := by decide +kernel
theorem d_hs_far_26 : decode (q_cc m_hs_far) 26 = .ok (.aload_n 0, 1) := by decide +kernel
theorem d_hs_far_27 : decode (q_cc m_hs_far) 27 = .ok (.getfield 57, 3) := by decide +kernel
theorem d_hs_far_30 : decode (q_cc m_hs_far) 30 = .ok (.getfield 146, 3) := by decide +kernel
theorem d_hs_far_33 : decode (q_cc m_hs_far) 33 = .ok (.iload_n 1, 1) := by decide +kernel
theorem d_hs_far_34 : decode (q_cc m_hs_far) 34 = .ok (.aaload, 1) := by decide +kernel
theorem d_hs_far_35 : decode (q_cc m_hs_far) 35 = .ok (.iload_n 2, 1) := by decide +kernel
theorem d_hs_far_36 : decode (q_cc m_hs_far) 36 = .ok (.iaload, 1) := by decide +kernel
theorem d_hs_far_37 : decode (q_cc m_hs_far) 37 = .ok (.istore_n 3, 1) := by decide +kernel
theorem d_hs_far_38 : decode (q_cc m_hs_far) 38 = .ok (.iload_n 3, 1) := by decide +kernel
theorem d_hs_far_39 : decode (q_cc m_hs_far) 39 = .ok (.sipush 1000, 3) := by decide +kernel
theorem d_hs_far_42 : decode (q_cc m_hs_far) 42 = .ok (.if_icmp .ge 7, 3) := by decide +kernel
theorem d_hs_far_45 : decode (q_cc m_hs_far) 45 = .ok (.iload_n 3, 1) := by decide +kernel
theorem d_hs_far_46 : decode (q_cc m_hs_far) 46 = .ok (.goto 4, 3) := by decide +kernel
theorem d_hs_far_49 : decode (q_cc m_hs_far) 49 = .ok (.iconst (-1), 1) := by decide +kernel
theorem d_hs_far_50 : decode (q_cc m_hs_far) 50 = .ok (.ireturn, 1) := by decide +kernel
theorem d_hs_pass_0 : decode (q_cc m_hs_pass) 0 = .ok (.aload_n 0, 1) := by decide +kernel
theorem d_hs_pass_1 : decode (q_cc m_hs_pass) 1 = .ok (.iload_n 1, 1) := by decide +kernel
theorem d_hs_pass_2 : decode (q_cc m_hs_pass) 2 = .ok (.invokevirtual 149, 3) := by decide +kernel
theorem d_hs_pass_5 : decode (q_cc m_hs_pass) 5 = .ok (.ifCond .eq 25, 3) := by decide +kernel
theorem d_hs_pass_8 : decode (q_cc m_hs_pass) 8 = .ok (.aload_n 0, 1) := by decide +kernel
theorem d_hs_pass_9 : decode (q_cc m_hs_pass) 9 = .ok (.iload_n 2, 1) := by decide +kernel
theorem d_hs_pass_10 : decode (q_cc m_hs_pass) 10 = .ok (.invokevirtual 136, 3) := by decide +kernel
theorem d_hs_pass_13 : decode (q_cc m_hs_pass) 13 = .ok (.ifCond .eq 17, 3) := by decide +kernel
theorem d_hs_pass_16 : decode (q_cc m_hs_pass) 16 = .ok (.aload_n 0, 1) := by decide +kernel
theorem d_hs_pass_17 : decode (q_cc m_hs_pass) 17 = .ok (.getfield 57, 3) := by decide +kernel
theorem d_hs_pass_20 : decode (q_cc m_hs_pass) 20 = .ok (.getfield 152, 3) := by decide +kernel
theorem d_hs_pass_23 : decode (q_cc m_hs_pass) 23 = .ok (.iload_n 1, 1) := by decide +kernel
theorem d_hs_pass_24 : decode (q_cc m_hs_pass) 24 = .ok (.aaload, 1) := by decide +kernel
theorem d_hs_pass_25 : decode (q_cc m_hs_pass) 25 = .ok (.iload_n 2, 1) := by decide +kernel
theorem d_hs_pass_26 : decode (q_cc m_hs_pass) 26 = .ok (.iaload, 1) := by decide +kernel
theorem d_hs_pass_27 : decode (q_cc m_hs_pass) 27 = .ok (.goto 4, 3) := by decide +kernel
theorem d_hs_pass_30 : decode (q_cc m_hs_pass) 30 = .ok (.iconst (-1), 1) := by decide +kernel
theorem d_hs_pass_31 : decode (q_cc m_hs_pass) 31 = .ok (.ireturn, 1) := by decide +kernel
theorem d_hs_price_0 : decode (q_cc m_hs_price) 0 = .ok (.aload_n 0, 1) := by decide +kernel
theorem d_hs_price_1 : decode (q_cc m_hs_price) 1 = .ok (.iload_n 1, 1) := by decide +kernel
theorem d_hs_price_2 : decode (q_cc m_hs_price) 2 = .ok (.invokevirtual 149, 3) := by decide +kernel
theorem d_hs_price_5 : decode (q_cc m_hs_price) 5 = .ok (.ifCond .eq 25, 3) := by decide +kernel
theorem d_hs_price_8 : decode (q_cc m_hs_price) 8 = .ok (.aload_n 0, 1) := by decide +kernel
theorem d_hs_price_9 : decode (q_cc m_hs_price) 9 = .ok (.iload_n 2, 1) := by decide +kernel
theorem d_hs_price_10 : decode (q_cc m_hs_price) 10 = .ok (.invokevirtual 136, 3) := by decide +kernel
theorem d_hs_price_13 : decode (q_cc m_hs_price) 13 = .ok (.ifCond .eq 17, 3) := by decide +kernel
theorem d_hs_price_16 : decode (q_cc m_hs_price) 16 = .ok (.aload_n 0, 1) := by decide +kernel
theorem d_hs_price_17 : decode (q_cc m_hs_price) 17 = .ok (.getfield 57, 3) := by decide +kernel
theorem d_hs_price_20 : decode (q_cc m_hs_price) 20 = .ok (.getfield 155, 3) := by decide +kernel
theorem d_hs_price_23 : decode (q_cc m_hs_price) 23 = .ok (.iload_n 1, 1) := by decide +kernel
theorem d_hs_price_24 : decode (q_cc m_hs_price) 24 = .ok (.aaload, 1) := by decide +kernel
theorem d_hs_price_25 : decode (q_cc m_hs_price) 25 = .ok (.iload_n 2, 1) := by decide +kernel
theorem d_hs_price_26 : decode (q_cc m_hs_price) 26 = .ok (.iaload, 1) := by decide +kernel
theorem d_hs_price_27 : decode (q_cc m_hs_price) 27 = .ok (.goto 4, 3) := by decide +kernel
theorem d_hs_price_30 : decode (q_cc m_hs_price) 30 = .ok (.iconst (-1), 1) := by decide +kernel
theorem d_hs_price_31 : decode (q_cc m_hs_price) 31 = .ok (.ireturn, 1) := by decide +kernel
theorem d_hs_best_0 : decode (q_cc m_hs_best) 0 = .ok (.aload_n 0, 1) := by decide +kernel
theorem d_hs_best_1 : decode (q_cc m_hs_best) 1 = .ok (.iload_n 1, 1) := by decide +kernel
theorem d_hs_best_2 : decode (q_cc m_hs_best) 2 = .ok (.invokevirtual 136, 3) := by decide +kernel
theorem d_hs_best_5 : decode (q_cc m_hs_best) 5 = .ok (.ifCond .ne 5, 3) := by decide +kernel
theorem d_hs_best_8 : decode (q_cc m_hs_best) 8 = .ok (.iconst (-1), 1) := by decide +kernel
theorem d_hs_best_9 : decode (q_cc m_hs_best) 9 = .ok (.ireturn, 1) := by decide +kernel
theorem d_hs_best_10 : decode (q_cc m_hs_best) 10 = .ok (.iconst (-1), 1) := by decide +kernel
theorem d_hs_best_11 : decode (q_cc m_hs_best) 11 = .ok (.istore 4, 2) := by decide +kernel
theorem d_hs_best_13 : decode (q_cc m_hs_best) 13 = .ok (.iconst 0, 1) := by decide +kernel
theorem d_hs_best_14 : decode (q_cc m_hs_best) 14 = .ok (.istore 5, 2) := by decide +kernel
theorem d_hs_best_16 : decode (q_cc m_hs_best) 16 = .ok (.iload 5, 2) := by decide +kernel
theorem d_hs_best_18 : decode (q_cc m_hs_best) 18 = .ok (.aload_n 0, 1) := by decide +kernel
theorem d_hs_best_19 : decode (q_cc m_hs_best) 19 = .ok (.getfield 57, 3) := by decide +kernel
theorem d_hs_best_22 : decode (q_cc m_hs_best) 22 = .ok (.getfield 90, 3) := by decide +kernel
theorem d_hs_best_25 : decode (q_cc m_hs_best) 25 = .ok (.iconst 2, 1) := by decide +kernel
theorem d_hs_best_26 : decode (q_cc m_hs_best) 26 = .ok (.iaload, 1) := by decide +kernel
theorem d_hs_best_27 : decode (q_cc m_hs_best) 27 = .ok (.if_icmp .ge 55, 3) := by decide +kernel
theorem d_hs_best_30 : decode (q_cc m_hs_best) 30 = .ok (.iload_n 2, 1) := by decide +kernel
theorem d_hs_best_31 : decode (q_cc m_hs_best) 31 = .ok (.ifCond .ne 22, 3) := by decide +kernel
theorem d_hs_best_34 : decode (q_cc m_hs_best) 34 = .ok (.aload_n 0, 1) := by decide +kernel
theorem d_hs_best_35 : decode (q_cc m_hs_best) 35 = .ok (.getfield 57, 3) := by decide +kernel
theorem d_hs_best_38 : decode (q_cc m_hs_best) 38 = .ok (.getfield 152, 3) := by decide +kernel
theorem d_hs_best_41 : decode (q_cc m_hs_best) 41 = .ok (.iload 5, 2) := by decide +kernel
theorem d_hs_best_43 : decode (q_cc m_hs_best) 43 = .ok (.aaload, 1) := by decide +kernel
theorem d_hs_best_44 : decode (q_cc m_hs_best) 44 = .ok (.iload_n 1, 1) := by decide +kernel
theorem d_hs_best_45 : decode (q_cc m_hs_best) 45 = .ok (.iaload, 1) := by decide +kernel
theorem d_hs_best_46 : decode (q_cc m_hs_best) 46 = .ok (.iload_n 3, 1) := by decide +kernel
theorem d_hs_best_47 : decode (q_cc m_hs_best) 47 = .ok (.if_icmp .ge 6, 3) := by decide +kernel
theorem d_hs_best_50 : decode (q_cc m_hs_best) 50 = .ok (.goto 26, 3) := by decide +kernel
theorem d_hs_best_53 : decode (q_cc m_hs_best) 53 = .ok (.iload 4, 2) := by decide +kernel
theorem d_hs_best_55 : decode (q_cc m_hs_best) 55 = .ok (.iconst (-1), 1) := by decide +kernel
theorem d_hs_best_56 : decode (q_cc m_hs_best) 56 = .ok (.if_icmp .eq 16, 3) := by decide +kernel
theorem d_hs_best_59 : decode (q_cc m_hs_best) 59 = .ok (.aload_n 0, 1) := by decide +kernel
theorem d_hs_best_60 : decode (q_cc m_hs_best) 60 = .ok (.iload 5, 2) := by decide +kernel
theorem d_hs_best_62 : decode (q_cc m_hs_best) 62 = .ok (.iload 4, 2) := by decide +kernel
theorem d_hs_best_64 : decode (q_cc m_hs_best) 64 = .ok (.iload_n 1, 1) := by decide +kernel
theorem d_hs_best_65 : decode (q_cc m_hs_best) 65 = .ok (.iload_n 2, 1) := by decide +kernel
theorem d_hs_best_66 : decode (q_cc m_hs_best) 66 = .ok (.invokevirtual 158, 3) := by decide +kernel
theorem d_hs_best_69 : decode (q_cc m_hs_best) 69 = .ok (.ifCond .eq 7, 3) := by decide +kernel
theorem d_hs_best_72 : decode (q_cc m_hs_best) 72 = .ok (.iload 5, 2) := by decide +kernel
theorem d_hs_best_74 : decode (q_cc m_hs_best) 74 = .ok (.istore 4, 2) := by decide +kernel
theorem d_hs_best_76 : decode (q_cc m_hs_best) 76 = .ok (.iinc 5 1, 3) := by decide +kernel
theorem d_hs_best_79 : decode (q_cc m_hs_best) 79 = .ok (.goto (-63), 3) := by decide +kernel
theorem d_hs_best_82 : decode (q_cc m_hs_best) 82 = .ok (.iload 4, 2) := by decide +kernel
theorem d_hs_best_84 : decode (q_cc m_hs_best) 84 = .ok (.ireturn, 1) := by decide +kernel
theorem d_hs_isBetter_0 : decode (q_cc m_hs_isBetter) 0 = .ok (.iload 4, 2) := by decide +kernel
theorem d_hs_isBetter_2 : decode (q_cc m_hs_isBetter) 2 = .ok (.ifCond .eq 36, 3) := by decide +kernel
theorem d_hs_isBetter_5 : decode (q_cc m_hs_isBetter) 5 = .ok (.aload_n 0, 1) := by decide +kernel
theorem d_hs_isBetter_6 : decode (q_cc m_hs_isBetter) 6 = .ok (.getfield 57, 3) := by decide +kernel
theorem d_hs_isBetter_9 : decode (q_cc m_hs_isBetter) 9 = .ok (.getfield 152, 3) := by decide +kernel
theorem d_hs_isBetter_12 : decode (q_cc m_hs_isBetter) 12 = .ok (.iload_n 1, 1) := by decide +kernel
theorem d_hs_isBetter_13 : decode (q_cc m_hs_isBetter) 13 = .ok (.aaload, 1) := by decide +kernel
theorem d_hs_isBetter_14 : decode (q_cc m_hs_isBetter) 14 = .ok (.iload_n 3, 1) := by decide +kernel
theorem d_hs_isBetter_15 : decode (q_cc m_hs_isBetter) 15 = .ok (.iaload, 1) := by decide +kernel
theorem d_hs_isBetter_16 : decode (q_cc m_hs_isBetter) 16 = .ok (.aload_n 0, 1) := by decide +kernel
theorem d_hs_isBetter_17 : decode (q_cc m_hs_isBetter) 17 = .ok (.getfield 57, 3) := by decide +kernel
theorem d_hs_isBetter_20 : decode (q_cc m_hs_isBetter) 20 = .ok (.getfield 152, 3) := by decide +kernel
theorem d_hs_isBetter_23 : decode (q_cc m_hs_isBetter) 23 = .ok (.iload_n 2, 1) := by decide +kernel
theorem d_hs_isBetter_24 : decode (q_cc m_hs_isBetter) 24 = .ok (.aaload, 1) := by decide +kernel
theorem d_hs_isBetter_25 : decode (q_cc m_hs_isBetter) 25 = .ok (.iload_n 3, 1) := by decide +kernel
theorem d_hs_isBetter_26 : decode (q_cc m_hs_isBetter) 26 = .ok (.iaload, 1) := by decide +kernel
theorem d_hs_isBetter_27 : decode (q_cc m_hs_isBetter) 27 = .ok (.if_icmp .le 7, 3) := by decide +kernel
theorem d_hs_isBetter_30 : decode (q_cc m_hs_isBetter) 30 = .ok (.iconst 1, 1) := by decide +kernel
theorem d_hs_isBetter_31 : decode (q_cc m_hs_isBetter) 31 = .ok (.goto 37, 3) := by decide +kernel
theorem d_hs_isBetter_34 : decode (q_cc m_hs_isBetter) 34 = .ok (.iconst 0, 1) := by decide +kernel
theorem d_hs_isBetter_35 : decode (q_cc m_hs_isBetter) 35 = .ok (.goto 33, 3) := by decide +kernel
theorem d_hs_isBetter_38 : decode (q_cc m_hs_isBetter) 38 = .ok (.aload_n 0, 1) := by decide +kernel
theorem d_hs_isBetter_39 : decode (q_cc m_hs_isBetter) 39 = .ok (.getfield 57, 3) := by decide +kernel
theorem d_hs_isBetter_42 : decode (q_cc m_hs_isBetter) 42 = .ok (.getfield 155, 3) := by decide +kernel
theorem d_hs_isBetter_45 : decode (q_cc m_hs_isBetter) 45 = .ok (.iload_n 1, 1) := by decide +kernel
theorem d_hs_isBetter_46 : decode (q_cc m_hs_isBetter) 46 = .ok (.aaload, 1) := by decide +kernel
theorem d_hs_isBetter_47 : decode (q_cc m_hs_isBetter) 47 = .ok (.iload_n 3, 1) := by decide +kernel
theorem d_hs_isBetter_48 : decode (q_cc m_hs_isBetter) 48 = .ok (.iaload, 1) := by decide +kernel
theorem d_hs_isBetter_49 : decode (q_cc m_hs_isBetter) 49 = .ok (.aload_n 0, 1) := by decide +kernel
theorem d_hs_isBetter_50 : decode (q_cc m_hs_isBetter) 50 = .ok (.getfield 57, 3) := by decide +kernel
theorem d_hs_isBetter_53 : decode (q_cc m_hs_isBetter) 53 = .ok (.getfield 155, 3) := by decide +kernel
theorem d_hs_isBetter_56 : decode (q_cc m_hs_isBetter) 56 = .ok (.iload_n 2, 1) := by decide +kernel
theorem d_hs_isBetter_57 : decode (q_cc m_hs_isBetter) 57 = .ok (.aaload, 1) := by decide +kernel
theorem d_hs_isBetter_58 : decode (q_cc m_hs_isBetter) 58 = .ok (.iload_n 3, 1) := by decide +kernel
theorem d_hs_isBetter_59 : decode (q_cc m_hs_isBetter) 59 = .ok (.iaload, 1) := by decide +kernel
theorem d_hs_isBetter_60 : decode (q_cc m_hs_isBetter) 60 = .ok (.if_icmp .ge 7, 3) := by decide +kernel
theorem d_hs_isBetter_63 : decode (q_cc m_hs_isBetter) 63 = .ok (.iconst 1, 1) := by decide +kernel
theorem d_hs_isBetter_64 : decode (q_cc m_hs_isBetter) 64 = .ok (.goto 4, 3) := by decide +kernel
theorem d_hs_isBetter_67 : decode (q_cc m_hs_isBetter) 67 = .ok (.iconst 0, 1) := by decide +kernel
theorem d_hs_isBetter_68 : decode (q_cc m_hs_isBetter) 68 = .ok (.ireturn, 1) := by decide +kernel
theorem d_hs_whose_0 : decode (q_cc m_hs_whose) 0 = .ok (.aload_n 0, 1) := by decide +kernel
theorem d_hs_whose_1 : decode (q_cc m_hs_whose) 1 = .ok (.iload_n 1, 1) := by decide +kernel
theorem d_hs_whose_2 : decode (q_cc m_hs_whose) 2 = .ok (.invokevirtual 136, 3) := by decide +kernel
theorem d_hs_whose_5 : decode (q_cc m_hs_whose) 5 = .ok (.ifCond .eq 16, 3) := by decide +kernel
theorem d_hs_whose_8 : decode (q_cc m_hs_whose) 8 = .ok (.iload_n 2, 1) := by decide +kernel
theorem d_hs_whose_9 : decode (q_cc m_hs_whose) 9 = .ok (.iconst (-1), 1) := by decide +kernel
theorem d_hs_whose_10 : decode (q_cc m_hs_whose) 10 = .ok (.if_icmp .eq 13, 3) := by decide +kernel
theorem d_hs_whose_13 : decode (q_cc m_hs_whose) 13 = .ok (.aload_n 0, 1) := by decide +kernel
theorem d_hs_whose_14 : decode (q_cc m_hs_whose) 14 = .ok (.iload_n 2, 1) := by decide +kernel
theorem d_hs_whose_15 : decode (q_cc m_hs_whose) 15 = .ok (.invokevirtual 149, 3) := by decide +kernel
theorem d_hs_whose_18 : decode (q_cc m_hs_whose) 18 = .ok (.ifCond .ne 5, 3) := by decide +kernel
theorem d_hs_whose_21 : decode (q_cc m_hs_whose) 21 = .ok (.iconst (-1), 1) := by decide +kernel
theorem d_hs_whose_22 : decode (q_cc m_hs_whose) 22 = .ok (.ireturn, 1) := by decide +kernel
theorem d_hs_whose_23 : decode (q_cc m_hs_whose) 23 = .ok (.aload_n 0, 1) := by decide +kernel
theorem d_hs_whose_24 : decode (q_cc m_hs_whose) 24 = .ok (.iload_n 1, 1) := by decide +kernel
theorem d_hs_whose_25 : decode (q_cc m_hs_whose) 25 = .ok (.iconst (-1), 1) := by decide +kernel
theorem d_hs_whose_26 : decode (q_cc m_hs_whose) 26 = .ok (.invokevirtual 162, 3) := by decide +kernel
theorem d_hs_whose_29 : decode (q_cc m_hs_whose) 29 = .ok (.istore_n 3, 1) := by decide +kernel
theorem d_hs_whose_30 : decode (q_cc m_hs_whose) 30 = .ok (.iconst 0, 1) := by decide +kernel
theorem d_hs_whose_31 : decode (q_cc m_hs_whose) 31 = .ok (.istore 4, 2) := by decide +kernel
theorem d_hs_whose_33 : decode (q_cc m_hs_whose) 33 = .ok (.iload 4, 2) := by decide +kernel
theorem d_hs_whose_35 : decode (q_cc m_hs_whose) 35 = .ok (.aload_n 0, 1) := by decide +kernel
theorem d_hs_whose_36 : decode (q_cc m_hs_whose) 36 = .ok (.getfield 57, 3) := by decide +kernel
theorem d_hs_whose_39 : decode (q_cc m_hs_whose) 39 = .ok (.getfield 90, 3) := by decide +kernel
theorem d_hs_whose_42 : decode (q_cc m_hs_whose) 42 = .ok (.iconst 2, 1) := by decide +kernel
theorem d_hs_whose_43 : decode (q_cc m_hs_whose) 43 = .ok (.iaload, 1) := by decide +kernel
theorem d_hs_whose_44 : decode (q_cc m_hs_whose) 44 = .ok (.if_icmp .ge 19, 3) := by decide +kernel
theorem d_hs_whose_47 : decode (q_cc m_hs_whose) 47 = .ok (.iload_n 3, 1) := by decide +kernel
theorem d_hs_whose_48 : decode (q_cc m_hs_whose) 48 = .ok (.aload_n 0, 1) := by decide +kernel
theorem d_hs_whose_49 : decode (q_cc m_hs_whose) 49 = .ok (.iload_n 1, 1) := by decide +kernel
theorem d_hs_whose_50 : decode (q_cc m_hs_whose) 50 = .ok (.iload 4, 2) := by decide +kernel
theorem d_hs_whose_52 : decode (q_cc m_hs_whose) 52 = .ok (.invokevirtual 162, 3) := by decide +kernel
theorem d_hs_whose_55 : decode (q_cc m_hs_whose) 55 = .ok (.iadd, 1) := by decide +kernel
theorem d_hs_whose_56 : decode (q_cc m_hs_whose) 56 = .ok (.istore_n 3, 1) := by decide +kernel
theorem d_hs_whose_57 : decode (q_cc m_hs_whose) 57 = .ok (.iinc 4 1, 3) := by decide +kernel
theorem d_hs_whose_60 : decode (q_cc m_hs_whose) 60 = .ok (.goto (-27), 3) := by decide +kernel
theorem d_hs_whose_63 : decode (q_cc m_hs_whose) 63 = .ok (.iload_n 3, 1) := by decide +kernel
theorem d_hs_whose_64 : decode (q_cc m_hs_whose) 64 = .ok (.ifCond .ne 7, 3) := by decide +kernel
theorem d_hs_whose_67 : decode (q_cc m_hs_whose) 67 = .ok (.iconst 0, 1) := by decide +kernel
theorem d_hs_whose_68 : decode (q_cc m_hs_whose) 68 = .ok (.goto 15, 3) := by decide +kernel
theorem d_hs_whose_71 : decode (q_cc m_hs_whose) 71 = .ok (.sipush 1000, 3) := by decide +kernel
theorem d_hs_whose_74 : decode (q_cc m_hs_whose) 74 = .ok (.aload_n 0, 1) := by decide +kernel
theorem d_hs_whose_75 : decode (q_cc m_hs_whose) 75 = .ok (.iload_n 1, 1) := by decide +kernel
theorem d_hs_whose_76 : decode (q_cc m_hs_whose) 76 = .ok (.iload_n 2, 1) := by decide +kernel
theorem d_hs_whose_77 : decode (q_cc m_hs_whose) 77 = .ok (.invokevirtual 162, 3) := by decide +kernel
theorem d_hs_whose_80 : decode (q_cc m_hs_whose) 80 = .ok (.imul, 1) := by decide +kernel
theorem d_hs_whose_81 : decode (q_cc m_hs_whose) 81 = .ok (.iload_n 3, 1) := by decide +kernel
theorem d_hs_whose_82 : decode (q_cc m_hs_whose) 82 = .ok (.idiv, 1) := by decide +kernel
theorem d_hs_whose_83 : decode (q_cc m_hs_whose) 83 = .ok (.ireturn, 1) := by decide +kernel
theorem d_hs_weightOf_0 : decode (q_cc m_hs_weightOf) 0 = .ok (.aload_n 0, 1) := by decide +kernel
theorem d_hs_weightOf_1 : decode (q_cc m_hs_weightOf) 1 = .ok (.getfield 57, 3) := by decide +kernel
theorem d_hs_weightOf_4 : decode (q_cc m_hs_weightOf) 4 = .ok (.getfield 140, 3) := by decide +kernel
theorem d_hs_weightOf_7 : decode (q_cc m_hs_weightOf) 7 = .ok (.iload_n 1, 1) := by decide +kernel
theorem d_hs_weightOf_8 : decode (q_cc m_hs_weightOf) 8 = .ok (.aaload, 1) := by decide +kernel
theorem d_hs_weightOf_9 : decode (q_cc m_hs_weightOf) 9 = .ok (.iconst 0, 1) := by decide +kernel
theorem d_hs_weightOf_10 : decode (q_cc m_hs_weightOf) 10 = .ok (.iaload, 1) := by decide +kernel
theorem d_hs_weightOf_11 : decode (q_cc m_hs_weightOf) 11 = .ok (.istore_n 3, 1) := by decide +kernel
theorem d_hs_weightOf_12 : decode (q_cc m_hs_weightOf) 12 = .ok (.iload_n 2, 1) := by decide +kernel
theorem d_hs_weightOf_13 : decode (q_cc m_hs_weightOf) 13 = .ok (.iconst (-1), 1) := by decide +kernel
theorem d_hs_weightOf_14 : decode (q_cc m_hs_weightOf) 14 = .ok (.if_icmp .ne 11, 3) := by decide +kernel
theorem d_hs_weightOf_17 : decode (q_cc m_hs_weightOf) 17 = .ok (.aload_n 0, 1) := by decide +kernel
theorem d_hs_weightOf_18 : decode (q_cc m_hs_weightOf) 18 = .ok (.iload_n 3, 1) := by decide +kernel
theorem d_hs_weightOf_19 : decode (q_cc m_hs_weightOf) 19 = .ok (.invokevirtual 165, 3) := by decide +kernel
theorem d_hs_weightOf_22 : decode (q_cc m_hs_weightOf) 22 = .ok (.goto 8, 3) := by decide +kernel
theorem d_hs_weightOf_25 : decode (q_cc m_hs_weightOf) 25 = .ok (.aload_n 0, 1) := by decide +kernel
theorem d_hs_weightOf_26 : decode (q_cc m_hs_weightOf) 26 = .ok (.iload_n 2, 1) := by decide +kernel
theorem d_hs_weightOf_27 : decode (q_cc m_hs_weightOf) 27 = .ok (.invokevirtual 168, 3) := by decide +kernel
theorem d_hs_weightOf_30 : decode (q_cc m_hs_weightOf) 30 = .ok (.istore 4, 2) := by decide +kernel
theorem d_hs_weightOf_32 : decode (q_cc m_hs_weightOf) 32 = .ok (.iload 4, 2) := by decide +kernel
theorem d_hs_weightOf_34 : decode (q_cc m_hs_weightOf) 34 = .ok (.iconst 1, 1) := by decide +kernel
theorem d_hs_weightOf_35 : decode (q_cc m_hs_weightOf) 35 = .ok (.iload_n 1, 1) := by decide +kernel
theorem d_hs_weightOf_36 : decode (q_cc m_hs_weightOf) 36 = .ok (.ishl, 1) := by decide +kernel
theorem d_hs_weightOf_37 : decode (q_cc m_hs_weightOf) 37 = .ok (.iconst (-1), 1) := by decide +kernel
theorem d_hs_weightOf_38 : decode (q_cc m_hs_weightOf) 38 = .ok (.ixor, 1) := by decide +kernel
theorem d_hs_weightOf_39 : decode (q_cc m_hs_weightOf) 39 = .ok (.iand, 1) := by decide +kernel
theorem d_hs_weightOf_40 : decode (q_cc m_hs_weightOf) 40 = .ok (.istore 5, 2) := by decide +kernel
theorem d_hs_weightOf_42 : decode (q_cc m_hs_weightOf) 42 = .ok (.iload 5, 2) := by decide +kernel
theorem d_hs_weightOf_44 : decode (q_cc m_hs_weightOf) 44 = .ok (.aload_n 0, 1) := by decide +kernel
theorem d_hs_weightOf_45 : decode (q_cc m_hs_weightOf) 45 = .ok (.getfield 57, 3) := by decide +kernel
theorem d_hs_weightOf_48 : decode (q_cc m_hs_weightOf) 48 = .ok (.getfield 171, 3) := by decide +kernel
theorem d_hs_weightOf_51 : decode (q_cc m_hs_weightOf) 51 = .ok (.iload_n 1, 1) := by decide +kernel
theorem d_hs_weightOf_52 : decode (q_cc m_hs_weightOf) 52 = .ok (.iaload, 1) := by decide +kernel
theorem d_hs_weightOf_53 : decode (q_cc m_hs_weightOf) 53 = .ok (.iconst (-1), 1) := by decide +kernel
theorem d_hs_weightOf_54 : decode (q_cc m_hs_weightOf) 54 = .ok (.ixor, 1) := by decide +kernel
theorem d_hs_weightOf_55 : decode (q_cc m_hs_weightOf) 55 = .ok (.iand, 1) := by decide +kernel
theorem d_hs_weightOf_56 : decode (q_cc m_hs_weightOf) 56 = .ok (.ifCond .eq 5, 3) := by decide +kernel
theorem d_hs_weightOf_59 : decode (q_cc m_hs_weightOf) 59 = .ok (.iconst 0, 1) := by decide +kernel
theorem d_hs_weightOf_60 : decode (q_cc m_hs_weightOf) 60 = .ok (.ireturn, 1) := by decide +kernel
theorem d_hs_weightOf_61 : decode (q_cc m_hs_weightOf) 61 = .ok (.iload_n 2, 1) := by decide +kernel
theorem d_hs_weightOf_62 : decode (q_cc m_hs_weightOf) 62 = .ok (.iconst (-1), 1) := by decide +kernel
theorem d_hs_weightOf_63 : decode (q_cc m_hs_weightOf) 63 = .ok (.if_icmp .ne 9, 3) := by decide +kernel
theorem d_hs_weightOf_66 : decode (q_cc m_hs_weightOf) 66 = .ok (.sipush 1000, 3) := by decide +kernel
theorem d_hs_weightOf_69 : decode (q_cc m_hs_weightOf) 69 = .ok (.goto 14, 3) := by decide +kernel
theorem d_hs_weightOf_72 : decode (q_cc m_hs_weightOf) 72 = .ok (.aload_n 0, 1) := by decide +kernel
theorem d_hs_weightOf_73 : decode (q_cc m_hs_weightOf) 73 = .ok (.getfield 57, 3) := by decide +kernel
theorem d_hs_weightOf_76 : decode (q_cc m_hs_weightOf) 76 = .ok (.getfield 152, 3) := by decide +kernel
theorem d_hs_weightOf_79 : decode (q_cc m_hs_weightOf) 79 = .ok (.iload_n 2, 1) := by decide +kernel
theorem d_hs_weightOf_80 : decode (q_cc m_hs_weightOf) 80 = .ok (.aaload, 1) := by decide +kernel
theorem d_hs_weightOf_81 : decode (q_cc m_hs_weightOf) 81 = .ok (.iload_n 1, 1) := by decide +kernel
theorem d_hs_weightOf_82 : decode (q_cc m_hs_weightOf) 82 = .ok (.iaload, 1) := by decide +kernel
theorem d_hs_weightOf_83 : decode (q_cc m_hs_weightOf) 83 = .ok (.ireturn, 1) := by decide +kernel
theorem d_hs_canBe_0 : decode (q_cc m_hs_canBe) 0 = .ok (.aload_n 0, 1) := by decide +kernel
theorem d_hs_canBe_1 : decode (q_cc m_hs_canBe) 1 = .ok (.iload_n 1, 1) := by decide +kernel
theorem d_hs_canBe_2 : decode (q_cc m_hs_canBe) 2 = .ok (.invokevirtual 136, 3) := by decide +kernel
theorem d_hs_canBe_5 : decode (q_cc m_hs_canBe) 5 = .ok (.ifCond .eq 16, 3) := by decide +kernel
theorem d_hs_canBe_8 : decode (q_cc m_hs_canBe) 8 = .ok (.aload_n 0, 1) := by decide +kernel
theorem d_hs_canBe_9 : decode (q_cc m_hs_canBe) 9 = .ok (.iload_n 2, 1) := by decide +kernel
theorem d_hs_canBe_10 : decode (q_cc m_hs_canBe) 10 = .ok (.invokevirtual 136, 3) := by decide +kernel
theorem d_hs_canBe_13 : decode (q_cc m_hs_canBe) 13 = .ok (.ifCond .eq 8, 3) := by decide +kernel
theorem d_hs_canBe_16 : decode (q_cc m_hs_canBe) 16 = .ok (.iload_n 1, 1) := by decide +kernel
theorem d_hs_canBe_17 : decode (q_cc m_hs_canBe) 17 = .ok (.iload_n 2, 1) := by decide +kernel
theorem d_hs_canBe_18 : decode (q_cc m_hs_canBe) 18 = .ok (.if_icmp .ne 5, 3) := by decide +kernel
theorem d_hs_canBe_21 : decode (q_cc m_hs_canBe) 21 = .ok (.iconst (-1), 1) := by decide +kernel
theorem d_hs_canBe_22 : decode (q_cc m_hs_canBe) 22 = .ok (.ireturn, 1) := by decide +kernel
theorem d_hs_canBe_23 : decode (q_cc m_hs_canBe) 23 = .ok (.aload_n 0, 1) := by decide +kernel
theorem d_hs_canBe_24 : decode (q_cc m_hs_canBe) 24 = .ok (.getfield 57, 3) := by decide +kernel
theorem d_hs_canBe_27 : decode (q_cc m_hs_canBe) 27 = .ok (.getfield 171, 3) := by decide +kernel
theorem d_hs_canBe_30 : decode (q_cc m_hs_canBe) 30 = .ok (.iload_n 1, 1) := by decide +kernel
theorem d_hs_canBe_31 : decode (q_cc m_hs_canBe) 31 = .ok (.iaload, 1) := by decide +kernel
theorem d_hs_canBe_32 : decode (q_cc m_hs_canBe) 32 = .ok (.iload_n 2, 1) := by decide +kernel
theorem d_hs_canBe_33 : decode (q_cc m_hs_canBe) 33 = .ok (.ishr, 1) := by decide +kernel
theorem d_hs_canBe_34 : decode (q_cc m_hs_canBe) 34 = .ok (.iconst 1, 1) := by decide +kernel
theorem d_hs_canBe_35 : decode (q_cc m_hs_canBe) 35 = .ok (.iand, 1) := by decide +kernel
theorem d_hs_canBe_36 : decode (q_cc m_hs_canBe) 36 = .ok (.ireturn, 1) := by decide +kernel
theorem d_hs_chain_0 : decode (q_cc m_hs_chain) 0 = .ok (.aload_n 0, 1) := by decide +kernel
theorem d_hs_chain_1 : decode (q_cc m_hs_chain) 1 = .ok (.getfield 57, 3) := by decide +kernel
theorem d_hs_chain_4 : decode (q_cc m_hs_chain) 4 = .ok (.iconst 1, 1) := by decide +kernel
theorem d_hs_chain_5 : decode (q_cc m_hs_chain) 5 = .ok (.iload_n 1, 1) := by decide +kernel
theorem d_hs_chain_6 : decode (q_cc m_hs_chain) 6 = .ok (.invokevirtual 112, 3) := by decide +kernel
theorem d_hs_chain_9 : decode (q_cc m_hs_chain) 9 = .ok (.ifCond .ne 5, 3) := by decide +kernel
theorem d_hs_chain_12 : decode (q_cc m_hs_chain) 12 = .ok (.iconst (-1), 1) := by decide +kernel
theorem d_hs_chain_13 : decode (q_cc m_hs_chain) 13 = .ok (.ireturn, 1) := by decide +kernel
theorem d_hs_chain_14 : decode (q_cc m_hs_chain) 14 = .ok (.aload_n 0, 1) := by decide +kernel
theorem d_hs_chain_15 : decode (q_cc m_hs_chain) 15 = .ok (.iload_n 1, 1) := by decide +kernel
theorem d_hs_chain_16 : decode (q_cc m_hs_chain) 16 = .ok (.invokevirtual 165, 3) := by decide +kernel
theorem d_hs_chain_19 : decode (q_cc m_hs_chain) 19 = .ok (.istore_n 3, 1) := by decide +kernel
theorem d_hs_chain_20 : decode (q_cc m_hs_chain) 20 = .ok (.iload_n 2, 1) := by decide +kernel
theorem d_hs_chain_21 : decode (q_cc m_hs_chain) 21 = .ok (.iconst (-1), 1) := by decide +kernel
theorem d_hs_chain_22 : decode (q_cc m_hs_chain) 22 = .ok (.if_icmp .ne 16, 3) := by decide +kernel
theorem d_hs_chain_25 : decode (q_cc m_hs_chain) 25 = .ok (.aload_n 0, 1) := by decide +kernel
theorem d_hs_chain_26 : decode (q_cc m_hs_chain) 26 = .ok (.getfield 35, 3) := by decide +kernel
theorem d_hs_chain_29 : decode (q_cc m_hs_chain) 29 = .ok (.aload_n 0, 1) := by decide +kernel
theorem d_hs_chain_30 : decode (q_cc m_hs_chain) 30 = .ok (.getfield 57, 3) := by decide +kernel
theorem d_hs_chain_33 : decode (q_cc m_hs_chain) 33 = .ok (.iload_n 3, 1) := by decide +kernel
theorem d_hs_chain_34 : decode (q_cc m_hs_chain) 34 = .ok (.invokevirtual 174, 3) := by decide +kernel
theorem d_hs_chain_37 : decode (q_cc m_hs_chain) 37 = .ok (.ireturn, 1) := by decide +kernel
theorem d_hs_chain_38 : decode (q_cc m_hs_chain) 38 = .ok (.aload_n 0, 1) := by decide +kernel
theorem d_hs_chain_39 : decode (q_cc m_hs_chain) 39 = .ok (.getfield 35, 3) := by decide +kernel
theorem d_hs_chain_42 : decode (q_cc m_hs_chain) 42 = .ok (.aload_n 0, 1) := by decide +kernel
theorem d_hs_chain_43 : decode (q_cc m_hs_chain) 43 = .ok (.getfield 57, 3) := by decide +kernel
theorem d_hs_chain_46 : decode (q_cc m_hs_chain) 46 = .ok (.iload_n 3, 1) := by decide +kernel
theorem d_hs_chain_47 : decode (q_cc m_hs_chain) 47 = .ok (.invokevirtual 178, 3) := by decide +kernel
theorem d_hs_chain_50 : decode (q_cc m_hs_chain) 50 = .ok (.iload_n 2, 1) := by decide +kernel
theorem d_hs_chain_51 : decode (q_cc m_hs_chain) 51 = .ok (.invokestatic 181, 3) := by decide +kernel
theorem d_hs_chain_54 : decode (q_cc m_hs_chain) 54 = .ok (.ireturn, 1) := by decide +kernel
theorem d_hs_shades_0 : decode (q_cc m_hs_shades) 0 = .ok (.iload_n 1, 1) := by decide +kernel
theorem d_hs_shades_1 : decode (q_cc m_hs_shades) 1 = .ok (.iconst (-1), 1) := by decide +kernel
theorem d_hs_shades_2 : decode (q_cc m_hs_shades) 2 = .ok (.if_icmp .ne 36, 3) := by decide +kernel
theorem d_hs_shades_5 : decode (q_cc m_hs_shades) 5 = .ok (.iconst 0, 1) := by decide +kernel
theorem d_hs_shades_6 : decode (q_cc m_hs_shades) 6 = .ok (.istore_n 2, 1) := by decide +kernel
theorem d_hs_shades_7 : decode (q_cc m_hs_shades) 7 = .ok (.iconst 0, 1) := by decide +kernel
theorem d_hs_shades_8 : decode (q_cc m_hs_shades) 8 = .ok (.istore_n 3, 1) := by decide +kernel
theorem d_hs_shades_9 : decode (q_cc m_hs_shades) 9 = .ok (.iload_n 3, 1) := by decide +kernel
theorem d_hs_shades_10 : decode (q_cc m_hs_shades) 10 = .ok (.aload_n 0, 1) := by decide +kernel
theorem d_hs_shades_11 : decode (q_cc m_hs_shades) 11 = .ok (.getfield 57, 3) := by decide +kernel
theorem d_hs_shades_14 : decode (q_cc m_hs_shades) 14 = .ok (.getfield 90, 3) := by decide +kernel
theorem d_hs_shades_17 : decode (q_cc m_hs_shades) 17 = .ok (.iconst 1, 1) := by decide +kernel
theorem d_hs_shades_18 : decode (q_cc m_hs_shades) 18 = .ok (.iaload, 1) := by decide +kernel
theorem d_hs_shades_19 : decode (q_cc m_hs_shades) 19 = .ok (.if_icmp .ge 17, 3) := by decide +kernel
theorem d_hs_shades_22 : decode (q_cc m_hs_shades) 22 = .ok (.iload_n 2, 1) := by decide +kernel
theorem d_hs_shades_23 : decode (q_cc m_hs_shades) 23 = .ok (.aload_n 0, 1) := by decide +kernel
theorem d_hs_shades_24 : decode (q_cc m_hs_shades) 24 = .ok (.iload_n 3, 1) := by decide +kernel
theorem d_hs_shades_25 : decode (q_cc m_hs_shades) 25 = .ok (.invokevirtual 184, 3) := by decide +kernel
theorem d_hs_shades_28 : decode (q_cc m_hs_shades) 28 = .ok (.iadd, 1) := by decide +kernel
theorem d_hs_shades_29 : decode (q_cc m_hs_shades) 29 = .ok (.istore_n 2, 1) := by decide +kernel
theorem d_hs_shades_30 : decode (q_cc m_hs_shades) 30 = .ok (.iinc 3 1, 3) := by decide +kernel
theorem d_hs_shades_33 : decode (q_cc m_hs_shades) 33 = .ok (.goto (-24), 3) := by decide +kernel
theorem d_hs_shades_36 : decode (q_cc m_hs_shades) 36 = .ok (.iload_n 2, 1) := by decide +kernel
theorem d_hs_shades_37 : decode (q_cc m_hs_shades) 37 = .ok (.ireturn, 1) := by decide +kernel
theorem d_hs_shades_38 : decode (q_cc m_hs_shades) 38 = .ok (.aload_n 0, 1) := by decide +kernel
theorem d_hs_shades_39 : decode (q_cc m_hs_shades) 39 = .ok (.getfield 57, 3) := by decide +kernel
theorem d_hs_shades_42 : decode (q_cc m_hs_shades) 42 = .ok (.iconst 1, 1) := by decide +kernel
theorem d_hs_shades_43 : decode (q_cc m_hs_shades) 43 = .ok (.iload_n 1, 1) := by decide +kernel
theorem d_hs_shades_44 : decode (q_cc m_hs_shades) 44 = .ok (.invokevirtual 112, 3) := by decide +kernel
theorem d_hs_shades_47 : decode (q_cc m_hs_shades) 47 = .ok (.ifCond .eq 11, 3) := by decide +kernel
theorem d_hs_shades_50 : decode (q_cc m_hs_shades) 50 = .ok (.aload_n 0, 1) := by decide +kernel
theorem d_hs_shades_51 : decode (q_cc m_hs_shades) 51 = .ok (.iload_n 1, 1) := by decide +kernel
theorem d_hs_shades_52 : decode (q_cc m_hs_shades) 52 = .ok (.invokevirtual 184, 3) := by decide +kernel
theorem d_hs_shades_55 : decode (q_cc m_hs_shades) 55 = .ok (.goto 4, 3) := by decide +kernel
theorem d_hs_shades_58 : decode (q_cc m_hs_shades) 58 = .ok (.iconst (-1), 1) := by decide +kernel
theorem d_hs_shades_59 : decode (q_cc m_hs_shades) 59 = .ok (.ireturn, 1) := by decide +kernel
theorem d_hs_fewestShades_0 : decode (q_cc m_hs_fewestShades) 0 = .ok (.aload_n 0, 1) := by decide +kernel
theorem d_hs_fewestShades_1 : decode (q_cc m_hs_fewestShades) 1 = .ok (.iload_n 1, 1) := by decide +kernel
theorem d_hs_fewestShades_2 : decode (q_cc m_hs_fewestShades) 2 = .ok (.invokevirtual 165, 3) := by decide +kernel
theorem d_hs_fewestShades_5 : decode (q_cc m_hs_fewestShades) 5 = .ok (.istore_n 2, 1) := by decide +kernel
theorem d_hs_fewestShades_6 : decode (q_cc m_hs_fewestShades) 6 = .ok (.iload_n 2, 1) := by decide +kernel
theorem d_hs_fewestShades_7 : decode (q_cc m_hs_fewestShades) 7 = .ok (.invokestatic 103, 3) := by decide +kernel
theorem d_hs_fewestShades_10 : decode (q_cc m_hs_fewestShades) 10 = .ok (.aload_n 0, 1) := by decide +kernel
theorem d_hs_fewestShades_11 : decode (q_cc m_hs_fewestShades) 11 = .ok (.getfield 35, 3) := by decide +kernel
theorem d_hs_fewestShades_14 : decode (q_cc m_hs_fewestShades) 14 = .ok (.aload_n 0, 1) := by decide +kernel
theorem d_hs_fewestShades_15 : decode (q_cc m_hs_fewestShades) 15 = .ok (.getfield 57, 3) := by decide +kernel
theorem d_hs_fewestShades_18 : decode (q_cc m_hs_fewestShades) 18 = .ok (.iload_n 2, 1) := by decide +kernel
theorem d_hs_fewestShades_19 : decode (q_cc m_hs_fewestShades) 19 = .ok (.invokevirtual 174, 3) := by decide +kernel
theorem d_hs_fewestShades_22 : decode (q_cc m_hs_fewestShades) 22 = .ok (.isub, 1) := by decide +kernel
theorem d_hs_fewestShades_23 : decode (q_cc m_hs_fewestShades) 23 = .ok (.ireturn, 1) := by decide +kernel
theorem d_hs_must_0 : decode (q_cc m_hs_must) 0 = .ok (.aload_n 0, 1) := by decide +kernel
theorem d_hs_must_1 : decode (q_cc m_hs_must) 1 = .ok (.iload_n 1, 1) := by decide +kernel
theorem d_hs_must_2 : decode (q_cc m_hs_must) 2 = .ok (.invokevirtual 136, 3) := by decide +kernel
theorem d_hs_must_5 : decode (q_cc m_hs_must) 5 = .ok (.ifCond .eq 16, 3) := by decide +kernel
theorem d_hs_must_8 : decode (q_cc m_hs_must) 8 = .ok (.aload_n 0, 1) := by decide +kernel
theorem d_hs_must_9 : decode (q_cc m_hs_must) 9 = .ok (.getfield 28, 3) := by decide +kernel
theorem d_hs_must_12 : decode (q_cc m_hs_must) 12 = .ok (.getfield 143, 3) := by decide +kernel
theorem d_hs_must_15 : decode (q_cc m_hs_must) 15 = .ok (.iload_n 1, 1) := by decide +kernel
theorem d_hs_must_16 : decode (q_cc m_hs_must) 16 = .ok (.iaload, 1) := by decide +kernel
theorem d_hs_must_17 : decode (q_cc m_hs_must) 17 = .ok (.iconst (-1), 1) := by decide +kernel
theorem d_hs_must_18 : decode (q_cc m_hs_must) 18 = .ok (.if_icmp .eq 5, 3) := by decide +kernel
theorem d_hs_must_21 : decode (q_cc m_hs_must) 21 = .ok (.iconst (-1), 1) := by decide +kernel
theorem d_hs_must_22 : decode (q_cc m_hs_must) 22 = .ok (.ireturn, 1) := by decide +kernel
theorem d_hs_must_23 : decode (q_cc m_hs_must) 23 = .ok (.aload_n 0, 1) := by decide +kernel
theorem d_hs_must_24 : decode (q_cc m_hs_must) 24 = .ok (.aload_n 0, 1) := by decide +kernel
theorem d_hs_must_25 : decode (q_cc m_hs_must) 25 = .ok (.getfield 57, 3) := by decide +kernel
theorem d_hs_must_28 : decode (q_cc m_hs_must) 28 = .ok (.getfield 140, 3) := by decide +kernel
theorem d_hs_must_31 : decode (q_cc m_hs_must) 31 = .ok (.iload_n 1, 1) := by decide +kernel
theorem d_hs_must_32 : decode (q_cc m_hs_must) 32 = .ok (.aaload, 1) := by decide +kernel
theorem d_hs_must_33 : decode (q_cc m_hs_must) 33 = .ok (.iconst 0, 1) := by decide +kernel
theorem d_hs_must_34 : decode (q_cc m_hs_must) 34 = .ok (.iaload, 1) := by decide +kernel
theorem d_hs_must_35 : decode (q_cc m_hs_must) 35 = .ok (.invokevirtual 165, 3) := by decide +kernel
theorem d_hs_must_38 : decode (q_cc m_hs_must) 38 = .ok (.istore_n 2, 1) := by decide +kernel
theorem d_hs_must_39 : decode (q_cc m_hs_must) 39 = .ok (.aload_n 0, 1) := by decide +kernel
theorem d_hs_must_40 : decode (q_cc m_hs_must) 40 = .ok (.getfield 35, 3) := by decide +kernel
theorem d_hs_must_43 : decode (q_cc m_hs_must) 43 = .ok (.aload_n 0, 1) := by decide +kernel
theorem d_hs_must_44 : decode (q_cc m_hs_must) 44 = .ok (.getfield 57, 3) := by decide +kernel
theorem d_hs_must_47 : decode (q_cc m_hs_must) 47 = .ok (.iload_n 2, 1) := by decide +kernel
theorem d_hs_must_48 : decode (q_cc m_hs_must) 48 = .ok (.invokevirtual 174, 3) := by decide +kernel
theorem d_hs_must_51 : decode (q_cc m_hs_must) 51 = .ok (.istore_n 3, 1) := by decide +kernel
theorem d_hs_must_52 : decode (q_cc m_hs_must) 52 = .ok (.aload_n 0, 1) := by decide +kernel
theorem d_hs_must_53 : decode (q_cc m_hs_must) 53 = .ok (.getfield 35, 3) := by decide +kernel
theorem d_hs_must_56 : decode (q_cc m_hs_must) 56 = .ok (.aload_n 0, 1) := by decide +kernel
theorem d_hs_must_57 : decode (q_cc m_hs_must) 57 = .ok (.getfield 57, 3) := by decide +kernel
theorem d_hs_must_60 : decode (q_cc m_hs_must) 60 = .ok (.iload_n 2, 1) := by decide +kernel
theorem d_hs_must_61 : decode (q_cc m_hs_must) 61 = .ok (.aload_n 0, 1) := by decide +kernel
theorem d_hs_must_62 : decode (q_cc m_hs_must) 62 = .ok (.getfield 57, 3) := by decide +kernel
theorem d_hs_must_65 : decode (q_cc m_hs_must) 65 = .ok (.getfield 171, 3) := by decide +kernel
theorem d_hs_must_68 : decode (q_cc m_hs_must) 68 = .ok (.iload_n 1, 1) := by decide +kernel
theorem d_hs_must_69 : decode (q_cc m_hs_must) 69 = .ok (.iaload, 1) := by decide +kernel
theorem d_hs_must_70 : decode (q_cc m_hs_must) 70 = .ok (.iand, 1) := by decide +kernel
theorem d_hs_must_71 : decode (q_cc m_hs_must) 71 = .ok (.invokevirtual 174, 3) := by decide +kernel
theorem d_hs_must_74 : decode (q_cc m_hs_must) 74 = .ok (.iload_n 3, 1) := by decide +kernel
theorem d_hs_must_75 : decode (q_cc m_hs_must) 75 = .ok (.if_icmp .ge 5, 3) := by decide +kernel
theorem d_hs_must_78 : decode (q_cc m_hs_must) 78 = .ok (.iconst 0, 1) := by decide +kernel
theorem d_hs_must_79 : decode (q_cc m_hs_must) 79 = .ok (.ireturn, 1) := by decide +kernel
theorem d_hs_must_80 : decode (q_cc m_hs_must) 80 = .ok (.aload_n 0, 1) := by decide +kernel
theorem d_hs_must_81 : decode (q_cc m_hs_must) 81 = .ok (.getfield 35, 3) := by decide +kernel
theorem d_hs_must_84 : decode (q_cc m_hs_must) 84 = .ok (.aload_n 0, 1) := by decide +kernel
theorem d_hs_must_85 : decode (q_cc m_hs_must) 85 = .ok (.getfield 57, 3) := by decide +kernel
theorem d_hs_must_88 : decode (q_cc m_hs_must) 88 = .ok (.iload_n 2, 1) := by decide +kernel
theorem d_hs_must_89 : decode (q_cc m_hs_must) 89 = .ok (.iconst 1, 1) := by decide +kernel
theorem d_hs_must_90 : decode (q_cc m_hs_must) 90 = .ok (.iload_n 1, 1) := by decide +kernel
theorem d_hs_must_91 : decode (q_cc m_hs_must) 91 = .ok (.ishl, 1) := by decide +kernel
theorem d_hs_must_92 : decode (q_cc m_hs_must) 92 = .ok (.iconst (-1), 1) := by decide +kernel
theorem d_hs_must_93 : decode (q_cc m_hs_must) 93 = .ok (.ixor, 1) := by decide +kernel
theorem d_hs_must_94 : decode (q_cc m_hs_must) 94 = .ok (.iand, 1) := by decide +kernel
theorem d_hs_must_95 : decode (q_cc m_hs_must) 95 = .ok (.invokevirtual 174, 3) := by decide +kernel
theorem d_hs_must_98 : decode (q_cc m_hs_must) 98 = .ok (.iload_n 3, 1) := by decide +kernel
theorem d_hs_must_99 : decode (q_cc m_hs_must) 99 = .ok (.if_icmp .ge 7, 3) := by decide +kernel
theorem d_hs_must_102 : decode (q_cc m_hs_must) 102 = .ok (.iconst 2, 1) := by decide +kernel
theorem d_hs_must_103 : decode (q_cc m_hs_must) 103 = .ok (.goto 4, 3) := by decide +kernel
theorem d_hs_must_106 : decode (q_cc m_hs_must) 106 = .ok (.iconst 1, 1) := by decide +kernel
theorem d_hs_must_107 : decode (q_cc m_hs_must) 107 = .ok (.ireturn, 1) := by decide +kernel
theorem d_hs_clash_0 : decode (q_cc m_hs_clash) 0 = .ok (.iload_n 1, 1) := by decide +kernel
theorem d_hs_clash_1 : decode (q_cc m_hs_clash) 1 = .ok (.istore_n 2, 1) := by decide +kernel
theorem d_hs_clash_2 : decode (q_cc m_hs_clash) 2 = .ok (.iconst 0, 1) := by decide +kernel
theorem d_hs_clash_3 : decode (q_cc m_hs_clash) 3 = .ok (.istore_n 3, 1) := by decide +kernel
theorem d_hs_clash_4 : decode (q_cc m_hs_clash) 4 = .ok (.iload_n 3, 1) := by decide +kernel
theorem d_hs_clash_5 : decode (q_cc m_hs_clash) 5 = .ok (.aload_n 0, 1) := by decide +kernel
theorem d_hs_clash_6 : decode (q_cc m_hs_clash) 6 = .ok (.getfield 57, 3) := by decide +kernel
theorem d_hs_clash_9 : decode (q_cc m_hs_clash) 9 = .ok (.getfield 90, 3) := by decide +kernel
theorem d_hs_clash_12 : decode (q_cc m_hs_clash) 12 = .ok (.iconst 4, 1) := by decide +kernel
theorem d_hs_clash_13 : decode (q_cc m_hs_clash) 13 = .ok (.iaload, 1) := by decide +kernel
theorem d_hs_clash_14 : decode (q_cc m_hs_clash) 14 = .ok (.if_icmp .ge 101, 3) := by decide +kernel
theorem d_hs_clash_17 : decode (q_cc m_hs_clash) 17 = .ok (.iload_n 2, 1) := by decide +kernel
theorem d_hs_clash_18 : decode (q_cc m_hs_clash) 18 = .ok (.ifCond .lt 97, 3) := by decide +kernel
theorem d_hs_clash_21 : decode (q_cc m_hs_clash) 21 = .ok (.aload_n 0, 1) := by decide +kernel
theorem d_hs_clash_22 : decode (q_cc m_hs_clash) 22 = .ok (.getfield 28, 3) := by decide +kernel
theorem d_hs_clash_25 : decode (q_cc m_hs_clash) 25 = .ok (.getfield 143, 3) := by decide +kernel
theorem d_hs_clash_28 : decode (q_cc m_hs_clash) 28 = .ok (.iload_n 3, 1) := by decide +kernel
theorem d_hs_clash_29 : decode (q_cc m_hs_clash) 29 = .ok (.iaload, 1) := by decide +kernel
theorem d_hs_clash_30 : decode (q_cc m_hs_clash) 30 = .ok (.iconst (-1), 1) := by decide +kernel
theorem d_hs_clash_31 : decode (q_cc m_hs_clash) 31 = .ok (.if_icmp .eq 6, 3) := by decide +kernel
theorem d_hs_clash_34 : decode (q_cc m_hs_clash) 34 = .ok (.goto 75, 3) := by decide +kernel
theorem d_hs_clash_37 : decode (q_cc m_hs_clash) 37 = .ok (.bipush (-2), 2) := by decide +kernel
theorem d_hs_clash_39 : decode (q_cc m_hs_clash) 39 = .ok (.iload_n 3, 1) := by decide +kernel
theorem d_hs_clash_40 : decode (q_cc m_hs_clash) 40 = .ok (.ishl, 1) := by decide +kernel
theorem d_hs_clash_41 : decode (q_cc m_hs_clash) 41 = .ok (.istore 4, 2) := by decide +kernel
theorem d_hs_clash_43 : decode (q_cc m_hs_clash) 43 = .ok (.aload_n 0, 1) := by decide +kernel
theorem d_hs_clash_44 : decode (q_cc m_hs_clash) 44 = .ok (.aload_n 0, 1) := by decide +kernel
theorem d_hs_clash_45 : decode (q_cc m_hs_clash) 45 = .ok (.getfield 57, 3) := by decide +kernel
theorem d_hs_clash_48 : decode (q_cc m_hs_clash) 48 = .ok (.getfield 140, 3) := by decide +kernel
theorem d_hs_clash_51 : decode (q_cc m_hs_clash) 51 = .ok (.iload_n 3, 1) := by decide +kernel
theorem d_hs_clash_52 : decode (q_cc m_hs_clash) 52 = .ok (.aaload, 1) := by decide +kernel
theorem d_hs_clash_53 : decode (q_cc m_hs_clash) 53 = .ok (.iconst 0, 1) := by decide +kernel
theorem d_hs_clash_54 : decode (q_cc m_hs_clash) 54 = .ok (.iaload, 1) := by decide +kernel
theorem d_hs_clash_55 : decode (q_cc m_hs_clash) 55 = .ok (.invokevirtual 165, 3) := by decide +kernel
theorem d_hs_clash_58 : decode (q_cc m_hs_clash) 58 = .ok (.iload 4, 2) := by decide +kernel
theorem d_hs_clash_60 : decode (q_cc m_hs_clash) 60 = .ok (.iand, 1) := by decide +kernel
theorem d_hs_clash_61 : decode (q_cc m_hs_clash) 61 = .ok (.istore 5, 2) := by decide +kernel
theorem d_hs_clash_63 : decode (q_cc m_hs_clash) 63 = .ok (.iload 5, 2) := by decide +kernel
theorem d_hs_clash_65 : decode (q_cc m_hs_clash) 65 = .ok (.aload_n 0, 1) := by decide +kernel
theorem d_hs_clash_66 : decode (q_cc m_hs_clash) 66 = .ok (.getfield 57, 3) := by decide +kernel
theorem d_hs_clash_69 : decode (q_cc m_hs_clash) 69 = .ok (.getfield 171, 3) := by decide +kernel
theorem d_hs_clash_72 : decode (q_cc m_hs_clash) 72 = .ok (.iload_n 3, 1) := by decide +kernel
theorem d_hs_clash_73 : decode (q_cc m_hs_clash) 73 = .ok (.iaload, 1) := by decide +kernel
theorem d_hs_clash_74 : decode (q_cc m_hs_clash) 74 = .ok (.iconst (-1), 1) := by decide +kernel
theorem d_hs_clash_75 : decode (q_cc m_hs_clash) 75 = .ok (.ixor, 1) := by decide +kernel
theorem d_hs_clash_76 : decode (q_cc m_hs_clash) 76 = .ok (.iand, 1) := by decide +kernel
theorem d_hs_clash_77 : decode (q_cc m_hs_clash) 77 = .ok (.istore 6, 2) := by decide +kernel
theorem d_hs_clash_79 : decode (q_cc m_hs_clash) 79 = .ok (.iload 6, 2) := by decide +kernel
theorem d_hs_clash_81 : decode (q_cc m_hs_clash) 81 = .ok (.iload_n 2, 1) := by decide +kernel
theorem d_hs_clash_82 : decode (q_cc m_hs_clash) 82 = .ok (.invokestatic 181, 3) := by decide +kernel
theorem d_hs_clash_85 : decode (q_cc m_hs_clash) 85 = .ok (.istore 7, 2) := by decide +kernel
theorem d_hs_clash_87 : decode (q_cc m_hs_clash) 87 = .ok (.iload 7, 2) := by decide +kernel
theorem d_hs_clash_89 : decode (q_cc m_hs_clash) 89 = .ok (.iconst (-1), 1) := by decide +kernel
theorem d_hs_clash_90 : decode (q_cc m_hs_clash) 90 = .ok (.if_icmp .eq 11, 3) := by decide +kernel
theorem d_hs_clash_93 : decode (q_cc m_hs_clash) 93 = .ok (.bipush 100, 2) := by decide +kernel
theorem d_hs_clash_95 : decode (q_cc m_hs_clash) 95 = .ok (.iload_n 3, 1) := by decide +kernel
theorem d_hs_clash_96 : decode (q_cc m_hs_clash) 96 = .ok (.imul, 1) := by decide +kernel
theorem d_hs_clash_97 : decode (q_cc m_hs_clash) 97 = .ok (.iload 7, 2) := by decide +kernel
theorem d_hs_clash_99 : decode (q_cc m_hs_clash) 99 = .ok (.iadd, 1) := by decide +kernel
theorem d_hs_clash_100 : decode (q_cc m_hs_clash) 100 = .ok (.ireturn, 1) := by decide +kernel
theorem d_hs_clash_101 : decode (q_cc m_hs_clash) 101 = .ok (.iload_n 2, 1) := by decide +kernel
theorem d_hs_clash_102 : decode (q_cc m_hs_clash) 102 = .ok (.iload 6, 2) := by decide +kernel
theorem d_hs_clash_104 : decode (q_cc m_hs_clash) 104 = .ok (.invokestatic 103, 3) := by decide +kernel
theorem d_hs_clash_107 : decode (q_cc m_hs_clash) 107 = .ok (.isub, 1) := by decide +kernel
theorem d_hs_clash_108 : decode (q_cc m_hs_clash) 108 = .ok (.istore_n 2, 1) := by decide +kernel
theorem d_hs_clash_109 : decode (q_cc m_hs_clash) 109 = .ok (.iinc 3 1, 3) := by decide +kernel
theorem d_hs_clash_112 : decode (q_cc m_hs_clash) 112 = .ok (.goto (-108), 3) := by decide +kernel
theorem d_hs_clash_115 : decode (q_cc m_hs_clash) 115 = .ok (.iconst (-1), 1) := by decide +kernel
theorem d_hs_clash_116 : decode (q_cc m_hs_clash) 116 = .ok (.ireturn, 1) := by decide +kernel
theorem d_hs_could_0 : decode (q_cc m_hs_could) 0 = .ok (.aload_n 0, 1) := by decide +kernel
theorem d_hs_could_1 : decode (q_cc m_hs_could) 1 = .ok (.iload_n 1, 1) := by decide +kernel
theorem d_hs_could_2 : decode (q_cc m_hs_could) 2 = .ok (.iload_n 2, 1) := by decide +kernel
theorem d_hs_could_3 : decode (q_cc m_hs_could) 3 = .ok (.invokevirtual 187, 3) := by decide +kernel
theorem d_hs_could_6 : decode (q_cc m_hs_could) 6 = .ok (.ifCond .ne 5, 3) := by decide +kernel
theorem d_hs_could_9 : decode (q_cc m_hs_could) 9 = .ok (.iconst (-1), 1) := by decide +kernel
theorem d_hs_could_10 : decode (q_cc m_hs_could) 10 = .ok (.ireturn, 1) := by decide +kernel
theorem d_hs_could_11 : decode (q_cc m_hs_could) 11 = .ok (.aload_n 0, 1) := by decide +kernel
theorem d_hs_could_12 : decode (q_cc m_hs_could) 12 = .ok (.getfield 57, 3) := by decide +kernel
theorem d_hs_could_15 : decode (q_cc m_hs_could) 15 = .ok (.iload_n 1, 1) := by decide +kernel
theorem d_hs_could_16 : decode (q_cc m_hs_could) 16 = .ok (.iload_n 2, 1) := by decide +kernel
theorem d_hs_could_17 : decode (q_cc m_hs_could) 17 = .ok (.invokevirtual 190, 3) := by decide +kernel
theorem d_hs_could_20 : decode (q_cc m_hs_could) 20 = .ok (.iconst (-1), 1) := by decide +kernel
theorem d_hs_could_21 : decode (q_cc m_hs_could) 21 = .ok (.ixor, 1) := by decide +kernel
theorem d_hs_could_22 : decode (q_cc m_hs_could) 22 = .ok (.istore 4, 2) := by decide +kernel
theorem d_hs_could_24 : decode (q_cc m_hs_could) 24 = .ok (.iconst 0, 1) := by decide +kernel
theorem d_hs_could_25 : decode (q_cc m_hs_could) 25 = .ok (.istore 5, 2) := by decide +kernel
theorem d_hs_could_27 : decode (q_cc m_hs_could) 27 = .ok (.iconst 0, 1) := by decide +kernel
theorem d_hs_could_28 : decode (q_cc m_hs_could) 28 = .ok (.istore 6, 2) := by decide +kernel
theorem d_hs_could_30 : decode (q_cc m_hs_could) 30 = .ok (.iload 6, 2) := by decide +kernel
theorem d_hs_could_32 : decode (q_cc m_hs_could) 32 = .ok (.aload_n 0, 1) := by decide +kernel
theorem d_hs_could_33 : decode (q_cc m_hs_could) 33 = .ok (.getfield 57, 3) := by decide +kernel
theorem d_hs_could_36 : decode (q_cc m_hs_could) 36 = .ok (.getfield 90, 3) := by decide +kernel
theorem d_hs_could_39 : decode (q_cc m_hs_could) 39 = .ok (.iload_n 3, 1) := by decide +kernel
theorem d_hs_could_40 : decode (q_cc m_hs_could) 40 = .ok (.ifCond .eq 7, 3) := by decide +kernel
theorem d_hs_could_43 : decode (q_cc m_hs_could) 43 = .ok (.iconst 2, 1) := by decide +kernel
theorem d_hs_could_44 : decode (q_cc m_hs_could) 44 = .ok (.goto 4, 3) := by decide +kernel
theorem d_hs_could_47 : decode (q_cc m_hs_could) 47 = .ok (.iconst 1, 1) := by decide +kernel
theorem d_hs_could_48 : decode (q_cc m_hs_could) 48 = .ok (.iaload, 1) := by decide +kernel
theorem d_hs_could_49 : decode (q_cc m_hs_could) 49 = .ok (.if_icmp .ge 47, 3) := by decide +kernel
theorem d_hs_could_52 : decode (q_cc m_hs_could) 52 = .ok (.iload_n 3, 1) := by decide +kernel
theorem d_hs_could_53 : decode (q_cc m_hs_could) 53 = .ok (.ifCond .eq 12, 3) := by decide +kernel
theorem d_hs_could_56 : decode (q_cc m_hs_could) 56 = .ok (.aload_n 0, 1) := by decide +kernel
theorem d_hs_could_57 : decode (q_cc m_hs_could) 57 = .ok (.iload 6, 2) := by decide +kernel
theorem d_hs_could_59 : decode (q_cc m_hs_could) 59 = .ok (.invokevirtual 168, 3) := by decide +kernel
theorem d_hs_could_62 : decode (q_cc m_hs_could) 62 = .ok (.goto 9, 3) := by decide +kernel
theorem d_hs_could_65 : decode (q_cc m_hs_could) 65 = .ok (.aload_n 0, 1) := by decide +kernel
theorem d_hs_could_66 : decode (q_cc m_hs_could) 66 = .ok (.iload 6, 2) := by decide +kernel
theorem d_hs_could_68 : decode (q_cc m_hs_could) 68 = .ok (.invokevirtual 165, 3) := by decide +kernel
theorem d_hs_could_71 : decode (q_cc m_hs_could) 71 = .ok (.istore 7, 2) := by decide +kernel
theorem d_hs_could_73 : decode (q_cc m_hs_could) 73 = .ok (.iload 7, 2) := by decide +kernel
theorem d_hs_could_75 : decode (q_cc m_hs_could) 75 = .ok (.iload 4, 2) := by decide +kernel
theorem d_hs_could_77 : decode (q_cc m_hs_could) 77 = .ok (.iand, 1) := by decide +kernel
theorem d_hs_could_78 : decode (q_cc m_hs_could) 78 = .ok (.ifCond .ne 12, 3) := by decide +kernel
theorem d_hs_could_81 : decode (q_cc m_hs_could) 81 = .ok (.iload 5, 2) := by decide +kernel
theorem d_hs_could_83 : decode (q_cc m_hs_could) 83 = .ok (.iconst 1, 1) := by decide +kernel
theorem d_hs_could_84 : decode (q_cc m_hs_could) 84 = .ok (.iload 6, 2) := by decide +kernel
theorem d_hs_could_86 : decode (q_cc m_hs_could) 86 = .ok (.ishl, 1) := by decide +kernel
theorem d_hs_could_87 : decode (q_cc m_hs_could) 87 = .ok (.ior, 1) := by decide +kernel
theorem d_hs_could_88 : decode (q_cc m_hs_could) 88 = .ok (.istore 5, 2) := by decide +kernel
theorem d_hs_could_90 : decode (q_cc m_hs_could) 90 = .ok (.iinc 6 1, 3) := by decide +kernel
theorem d_hs_could_93 : decode (q_cc m_hs_could) 93 = .ok (.goto (-63), 3) := by decide +kernel
theorem d_hs_could_96 : decode (q_cc m_hs_could) 96 = .ok (.iload 5, 2) := by decide +kernel
theorem d_hs_could_98 : decode (q_cc m_hs_could) 98 = .ok (.ireturn, 1) := by decide +kernel
theorem d_hs_ways_0 : decode (q_cc m_hs_ways) 0 = .ok (.iload_n 1, 1) := by decide +kernel
theorem d_hs_ways_1 : decode (q_cc m_hs_ways) 1 = .ok (.ifCond .lt 19, 3) := by decide +kernel
theorem d_hs_ways_4 : decode (q_cc m_hs_ways) 4 = .ok (.aload_n 0, 1) := by decide +kernel
theorem d_hs_ways_5 : decode (q_cc m_hs_ways) 5 = .ok (.getfield 42, 3) := by decide +kernel
theorem d_hs_ways_8 : decode (q_cc m_hs_ways) 8 = .ok (.aload_n 0, 1) := by decide +kernel
theorem d_hs_ways_9 : decode (q_cc m_hs_ways) 9 = .ok (.invokevirtual 100, 3) := by decide +kernel
theorem d_hs_ways_12 : decode (q_cc m_hs_ways) 12 = .ok (.bipush 8, 2) := by decide +kernel
theorem d_hs_ways_14 : decode (q_cc m_hs_ways) 14 = .ok (.invokevirtual 193, 3) := by decide +kernel
theorem d_hs_ways_17 : decode (q_cc m_hs_ways) 17 = .ok (.ifCond .ne 5, 3) := by decide +kernel
theorem d_hs_ways_20 : decode (q_cc m_hs_ways) 20 = .ok (.iconst (-1), 1) := by decide +kernel
theorem d_hs_ways_21 : decode (q_cc m_hs_ways) 21 = .ok (.ireturn, 1) := by decide +kernel
theorem d_hs_ways_22 : decode (q_cc m_hs_ways) 22 = .ok (.aload_n 0, 1) := by decide +kernel
theorem d_hs_ways_23 : decode (q_cc m_hs_ways) 23 = .ok (.getfield 42, 3) := by decide +kernel
theorem d_hs_ways_26 : decode (q_cc m_hs_ways) 26 = .ok (.aload_n 0, 1) := by decide +kernel
theorem d_hs_ways_27 : decode (q_cc m_hs_ways) 27 = .ok (.getfield 57, 3) := by decide +kernel
theorem d_hs_ways_30 : decode (q_cc m_hs_ways) 30 = .ok (.aload_n 0, 1) := by decide +kernel
theorem d_hs_ways_31 : decode (q_cc m_hs_ways) 31 = .ok (.getfield 28, 3) := by decide +kernel
theorem d_hs_ways_34 : decode (q_cc m_hs_ways) 34 = .ok (.iload_n 1, 1) := by decide +kernel
theorem d_hs_ways_35 : decode (q_cc m_hs_ways) 35 = .ok (.invokevirtual 196, 3) := by decide +kernel
theorem d_hs_ways_38 : decode (q_cc m_hs_ways) 38 = .ok (.ireturn, 1) := by decide +kernel
theorem d_hs_hire_0 : decode (q_cc m_hs_hire) 0 = .ok (.aload_n 0, 1) := by decide +kernel
theorem d_hs_hire_1 : decode (q_cc m_hs_hire) 1 = .ok (.iload_n 1, 1) := by decide +kernel
theorem d_hs_hire_2 : decode (q_cc m_hs_hire) 2 = .ok (.invokevirtual 136, 3) := by decide +kernel
theorem d_hs_hire_5 : decode (q_cc m_hs_hire) 5 = .ok (.ifCond .eq 16, 3) := by decide +kernel
theorem d_hs_hire_8 : decode (q_cc m_hs_hire) 8 = .ok (.iload_n 2, 1) := by decide +kernel
theorem d_hs_hire_9 : decode (q_cc m_hs_hire) 9 = .ok (.iconst (-1), 1) := by decide +kernel
theorem d_hs_hire_10 : decode (q_cc m_hs_hire) 10 = .ok (.if_icmp .eq 13, 3) := by decide +kernel
theorem d_hs_hire_13 : decode (q_cc m_hs_hire) 13 = .ok (.aload_n 0, 1) := by decide +kernel
theorem d_hs_hire_14 : decode (q_cc m_hs_hire) 14 = .ok (.iload_n 2, 1) := by decide +kernel
theorem d_hs_hire_15 : decode (q_cc m_hs_hire) 15 = .ok (.invokevirtual 149, 3) := by decide +kernel
theorem d_hs_hire_18 : decode (q_cc m_hs_hire) 18 = .ok (.ifCond .ne 5, 3) := by decide +kernel
theorem d_hs_hire_21 : decode (q_cc m_hs_hire) 21 = .ok (.iconst 0, 1) := by decide +kernel
theorem d_hs_hire_22 : decode (q_cc m_hs_hire) 22 = .ok (.ireturn, 1) := by decide +kernel
theorem d_hs_hire_23 : decode (q_cc m_hs_hire) 23 = .ok (.aload_n 0, 1) := by decide +kernel
theorem d_hs_hire_24 : decode (q_cc m_hs_hire) 24 = .ok (.getfield 28, 3) := by decide +kernel
theorem d_hs_hire_27 : decode (q_cc m_hs_hire) 27 = .ok (.getfield 143, 3) := by decide +kernel
theorem d_hs_hire_30 : decode (q_cc m_hs_hire) 30 = .ok (.iload_n 1, 1) := by decide +kernel
theorem d_hs_hire_31 : decode (q_cc m_hs_hire) 31 = .ok (.iaload, 1) := by decide +kernel
theorem d_hs_hire_32 : decode (q_cc m_hs_hire) 32 = .ok (.iload_n 2, 1) := by decide +kernel
theorem d_hs_hire_33 : decode (q_cc m_hs_hire) 33 = .ok (.if_icmp .ne 5, 3) := by decide +kernel
theorem d_hs_hire_36 : decode (q_cc m_hs_hire) 36 = .ok (.iconst 0, 1) := by decide +kernel
theorem d_hs_hire_37 : decode (q_cc m_hs_hire) 37 = .ok (.ireturn, 1) := by decide +kernel
theorem d_hs_hire_38 : decode (q_cc m_hs_hire) 38 = .ok (.iload_n 2, 1) := by decide +kernel
theorem d_hs_hire_39 : decode (q_cc m_hs_hire) 39 = .ok (.iconst (-1), 1) := by decide +kernel
theorem d_hs_hire_40 : decode (q_cc m_hs_hire) 40 = .ok (.if_icmp .eq 25, 3) := by decide +kernel
theorem d_hs_hire_43 : decode (q_cc m_hs_hire) 43 = .ok (.aload_n 0, 1) := by decide +kernel
theorem d_hs_hire_44 : decode (q_cc m_hs_hire) 44 = .ok (.iload_n 2, 1) := by decide +kernel
theorem d_hs_hire_45 : decode (q_cc m_hs_hire) 45 = .ok (.invokevirtual 168, 3) := by decide +kernel
theorem d_hs_hire_48 : decode (q_cc m_hs_hire) 48 = .ok (.aload_n 0, 1) := by decide +kernel
theorem d_hs_hire_49 : decode (q_cc m_hs_hire) 49 = .ok (.getfield 57, 3) := by decide +kernel
theorem d_hs_hire_52 : decode (q_cc m_hs_hire) 52 = .ok (.getfield 171, 3) := by decide +kernel
theorem d_hs_hire_55 : decode (q_cc m_hs_hire) 55 = .ok (.iload_n 1, 1) := by decide +kernel
theorem d_hs_hire_56 : decode (q_cc m_hs_hire) 56 = .ok (.iaload, 1) := by decide +kernel
theorem d_hs_hire_57 : decode (q_cc m_hs_hire) 57 = .ok (.iconst (-1), 1) := by decide +kernel
theorem d_hs_hire_58 : decode (q_cc m_hs_hire) 58 = .ok (.ixor, 1) := by decide +kernel
theorem d_hs_hire_59 : decode (q_cc m_hs_hire) 59 = .ok (.iand, 1) := by decide +kernel
theorem d_hs_hire_60 : decode (q_cc m_hs_hire) 60 = .ok (.ifCond .eq 5, 3) := by decide +kernel
theorem d_hs_hire_63 : decode (q_cc m_hs_hire) 63 = .ok (.iconst 0, 1) := by decide +kernel
theorem d_hs_hire_64 : decode (q_cc m_hs_hire) 64 = .ok (.ireturn, 1) := by decide +kernel
theorem d_hs_hire_65 : decode (q_cc m_hs_hire) 65 = .ok (.aload_n 0, 1) := by decide +kernel
theorem d_hs_hire_66 : decode (q_cc m_hs_hire) 66 = .ok (.getfield 28, 3) := by decide +kernel
theorem d_hs_hire_69 : decode (q_cc m_hs_hire) 69 = .ok (.invokevirtual 200, 3) := by decide +kernel
theorem d_hs_hire_72 : decode (q_cc m_hs_hire) 72 = .ok (.aload_n 0, 1) := by decide +kernel
theorem d_hs_hire_73 : decode (q_cc m_hs_hire) 73 = .ok (.getfield 28, 3) := by decide +kernel
theorem d_hs_hire_76 : decode (q_cc m_hs_hire) 76 = .ok (.getfield 143, 3) := by decide +kernel
theorem d_hs_hire_79 : decode (q_cc m_hs_hire) 79 = .ok (.iload_n 1, 1) := by decide +kernel
theorem d_hs_hire_80 : decode (q_cc m_hs_hire) 80 = .ok (.iload_n 2, 1) := by decide +kernel
theorem d_hs_hire_81 : decode (q_cc m_hs_hire) 81 = .ok (.iastore, 1) := by decide +kernel
theorem d_hs_hire_82 : decode (q_cc m_hs_hire) 82 = .ok (.iconst 1, 1) := by decide +kernel
theorem d_hs_hire_83 : decode (q_cc m_hs_hire) 83 = .ok (.ireturn, 1) := by decide +kernel
theorem d_hs_undo_0 : decode (q_cc m_hs_undo) 0 = .ok (.aload_n 0, 1) := by decide +kernel
theorem d_hs_undo_1 : decode (q_cc m_hs_undo) 1 = .ok (.getfield 28, 3) := by decide +kernel
theorem d_hs_undo_4 : decode (q_cc m_hs_undo) 4 = .ok (.invokevirtual 203, 3) := by decide +kernel
theorem d_hs_undo_7 : decode (q_cc m_hs_undo) 7 = .ok (.ireturn, 1) := by decide +kernel
theorem d_hs_crew_0 : decode (q_cc m_hs_crew) 0 = .ok (.aload_n 0, 1) := by decide +kernel
theorem d_hs_crew_1 : decode (q_cc m_hs_crew) 1 = .ok (.iload_n 1, 1) := by decide +kernel
theorem d_hs_crew_2 : decode (q_cc m_hs_crew) 2 = .ok (.iload_n 2, 1) := by decide +kernel
theorem d_hs_crew_3 : decode (q_cc m_hs_crew) 3 = .ok (.invokevirtual 207, 3) := by decide +kernel
theorem d_hs_crew_6 : decode (q_cc m_hs_crew) 6 = .ok (.ifCond .ne 5, 3) := by decide +kernel
theorem d_hs_crew_9 : decode (q_cc m_hs_crew) 9 = .ok (.iconst (-1), 1) := by decide +kernel
theorem d_hs_crew_10 : decode (q_cc m_hs_crew) 10 = .ok (.ireturn, 1) := by decide +kernel
theorem d_hs_crew_11 : decode (q_cc m_hs_crew) 11 = .ok (.iload_n 3, 1) := by decide +kernel
theorem d_hs_crew_12 : decode (q_cc m_hs_crew) 12 = .ok (.iconst (-1), 1) := by decide +kernel
theorem d_hs_crew_13 : decode (q_cc m_hs_crew) 13 = .ok (.if_icmp .ne 11, 3) := by decide +kernel
theorem d_hs_crew_16 : decode (q_cc m_hs_crew) 16 = .ok (.aload_n 0, 1) := by decide +kernel
theorem d_hs_crew_17 : decode (q_cc m_hs_crew) 17 = .ok (.getfield 42, 3) := by decide +kernel
theorem d_hs_crew_20 : decode (q_cc m_hs_crew) 20 = .ok (.getfield 210, 3) := by decide +kernel
theorem d_hs_crew_23 : decode (q_cc m_hs_crew) 23 = .ok (.ireturn, 1) := by decide +kernel
theorem d_hs_crew_24 : decode (q_cc m_hs_crew) 24 = .ok (.iload_n 3, 1) := by decide +kernel
theorem d_hs_crew_25 : decode (q_cc m_hs_crew) 25 = .ok (.ifCond .lt 26, 3) := by decide +kernel
theorem d_hs_crew_28 : decode (q_cc m_hs_crew) 28 = .ok (.iload_n 3, 1) := by decide +kernel
theorem d_hs_crew_29 : decode (q_cc m_hs_crew) 29 = .ok (.aload_n 0, 1) := by decide +kernel
theorem d_hs_crew_30 : decode (q_cc m_hs_crew) 30 = .ok (.getfield 42, 3) := by decide +kernel
theorem d_hs_crew_33 : decode (q_cc m_hs_crew) 33 = .ok (.getfield 213, 3) := by decide +kernel
theorem d_hs_crew_36 : decode (q_cc m_hs_crew) 36 = .ok (.if_icmp .ge 15, 3) := by decide +kernel
theorem d_hs_crew_39 : decode (q_cc m_hs_crew) 39 = .ok (.aload_n 0, 1) := by decide +kernel
theorem d_hs_crew_40 : decode (q_cc m_hs_crew) 40 = .ok (.getfield 42, 3) := by decide +kernel
theorem d_hs_crew_43 : decode (q_cc m_hs_crew) 43 = .ok (.getfield 216, 3) := by decide +kernel
theorem d_hs_crew_46 : decode (q_cc m_hs_crew) 46 = .ok (.iload_n 3, 1) := by decide +kernel
theorem d_hs_crew_47 : decode (q_cc m_hs_crew) 47 = .ok (.iaload, 1) := by decide +kernel
theorem d_hs_crew_48 : decode (q_cc m_hs_crew) 48 = .ok (.goto 4, 3) := by decide +kernel
theorem d_hs_crew_51 : decode (q_cc m_hs_crew) 51 = .ok (.iconst (-1), 1) := by decide +kernel
theorem d_hs_crew_52 : decode (q_cc m_hs_crew) 52 = .ok (.ireturn, 1) := by decide +kernel
theorem d_hs_take_0 : decode (q_cc m_hs_take) 0 = .ok (.iload_n 1, 1) := by decide +kernel
theorem d_hs_take_1 : decode (q_cc m_hs_take) 1 = .ok (.ifCond .eq 12, 3) := by decide +kernel
theorem d_hs_take_4 : decode (q_cc m_hs_take) 4 = .ok (.aload_n 0, 1) := by decide +kernel
theorem d_hs_take_5 : decode (q_cc m_hs_take) 5 = .ok (.iload_n 1, 1) := by decide +kernel
theorem d_hs_take_6 : decode (q_cc m_hs_take) 6 = .ok (.iload_n 2, 1) := by decide +kernel
theorem d_hs_take_7 : decode (q_cc m_hs_take) 7 = .ok (.invokevirtual 207, 3) := by decide +kernel
theorem d_hs_take_10 : decode (q_cc m_hs_take) 10 = .ok (.ifCond .ne 5, 3) := by decide +kernel
theorem d_hs_take_13 : decode (q_cc m_hs_take) 13 = .ok (.iconst (-1), 1) := by decide +kernel
theorem d_hs_take_14 : decode (q_cc m_hs_take) 14 = .ok (.ireturn, 1) := by decide +kernel
theorem d_hs_take_15 : decode (q_cc m_hs_take) 15 = .ok (.aload_n 0, 1) := by decide +kernel
theorem d_hs_take_16 : decode (q_cc m_hs_take) 16 = .ok (.getfield 28, 3) := by decide +kernel
theorem d_hs_take_19 : decode (q_cc m_hs_take) 19 = .ok (.invokevirtual 200, 3) := by decide +kernel
theorem d_hs_take_22 : decode (q_cc m_hs_take) 22 = .ok (.iconst 0, 1) := by decide +kernel
theorem d_hs_take_23 : decode (q_cc m_hs_take) 23 = .ok (.istore_n 3, 1) := by decide +kernel
theorem d_hs_take_24 : decode (q_cc m_hs_take) 24 = .ok (.iload_n 3, 1) := by decide +kernel
theorem d_hs_take_25 : decode (q_cc m_hs_take) 25 = .ok (.aload_n 0, 1) := by decide +kernel
theorem d_hs_take_26 : decode (q_cc m_hs_take) 26 = .ok (.getfield 42, 3) := by decide +kernel
theorem d_hs_take_29 : decode (q_cc m_hs_take) 29 = .ok (.getfield 213, 3) := by decide +kernel
theorem d_hs_take_32 : decode (q_cc m_hs_take) 32 = .ok (.if_icmp .ge 35, 3) := by decide +kernel
theorem d_hs_take_35 : decode (q_cc m_hs_take) 35 = .ok (.aload_n 0, 1) := by decide +kernel
theorem d_hs_take_36 : decode (q_cc m_hs_take) 36 = .ok (.getfield 28, 3) := by decide +kernel
theorem d_hs_take_39 : decode (q_cc m_hs_take) 39 = .ok (.getfield 143, 3) := by decide +kernel
theorem d_hs_take_42 : decode (q_cc m_hs_take) 42 = .ok (.aload_n 0, 1) := by decide +kernel
theorem d_hs_take_43 : decode (q_cc m_hs_take) 43 = .ok (.getfield 42, 3) := by decide +kernel
theorem d_hs_take_46 : decode (q_cc m_hs_take) 46 = .ok (.getfield 219, 3) := by decide +kernel
theorem d_hs_take_49 : decode (q_cc m_hs_take) 49 = .ok (.iload_n 3, 1) := by decide +kernel
theorem d_hs_take_50 : decode (q_cc m_hs_take) 50 = .ok (.iaload, 1) := by decide +kernel
theorem d_hs_take_51 : decode (q_cc m_hs_take) 51 = .ok (.aload_n 0, 1) := by decide +kernel
theorem d_hs_take_52 : decode (q_cc m_hs_take) 52 = .ok (.getfield 42, 3) := by decide +kernel
theorem d_hs_take_55 : decode (q_cc m_hs_take) 55 = .ok (.getfield 216, 3) := by decide +kernel
theorem d_hs_take_58 : decode (q_cc m_hs_take) 58 = .ok (.iload_n 3, 1) := by decide +kernel
theorem d_hs_take_59 : decode (q_cc m_hs_take) 59 = .ok (.iaload, 1) := by decide +kernel
theorem d_hs_take_60 : decode (q_cc m_hs_take) 60 = .ok (.iastore, 1) := by decide +kernel
theorem d_hs_take_61 : decode (q_cc m_hs_take) 61 = .ok (.iinc 3 1, 3) := by decide +kernel
theorem d_hs_take_64 : decode (q_cc m_hs_take) 64 = .ok (.goto (-40), 3) := by decide +kernel
theorem d_hs_take_67 : decode (q_cc m_hs_take) 67 = .ok (.aload_n 0, 1) := by decide +kernel
theorem d_hs_take_68 : decode (q_cc m_hs_take) 68 = .ok (.getfield 42, 3) := by decide +kernel
theorem d_hs_take_71 : decode (q_cc m_hs_take) 71 = .ok (.getfield 210, 3) := by decide +kernel
theorem d_hs_take_74 : decode (q_cc m_hs_take) 74 = .ok (.ireturn, 1) := by decide +kernel
theorem d_hs_findCrew_0 : decode (q_cc m_hs_findCrew) 0 = .ok (.iload_n 2, 1) := by decide +kernel
theorem d_hs_findCrew_1 : decode (q_cc m_hs_findCrew) 1 = .ok (.ifCond .lt 50, 3) := by decide +kernel
theorem d_hs_findCrew_4 : decode (q_cc m_hs_findCrew) 4 = .ok (.iload_n 1, 1) := by decide +kernel
theorem d_hs_findCrew_5 : decode (q_cc m_hs_findCrew) 5 = .ok (.aload_n 0, 1) := by decide +kernel
theorem d_hs_findCrew_6 : decode (q_cc m_hs_findCrew) 6 = .ok (.invokevirtual 100, 3) := by decide +kernel
theorem d_hs_findCrew_9 : decode (q_cc m_hs_findCrew) 9 = .ok (.iconst (-1), 1) := by decide +kernel
theorem d_hs_findCrew_10 : decode (q_cc m_hs_findCrew) 10 = .ok (.ixor, 1) := by decide +kernel
theorem d_hs_findCrew_11 : decode (q_cc m_hs_findCrew) 11 = .ok (.iand, 1) := by decide +kernel
theorem d_hs_findCrew_12 : decode (q_cc m_hs_findCrew) 12 = .ok (.ifCond .ne 39, 3) := by decide +kernel
theorem d_hs_findCrew_15 : decode (q_cc m_hs_findCrew) 15 = .ok (.aload_n 0, 1) := by decide +kernel
theorem d_hs_findCrew_16 : decode (q_cc m_hs_findCrew) 16 = .ok (.getfield 42, 3) := by decide +kernel
theorem d_hs_findCrew_19 : decode (q_cc m_hs_findCrew) 19 = .ok (.iload_n 1, 1) := by decide +kernel
theorem d_hs_findCrew_20 : decode (q_cc m_hs_findCrew) 20 = .ok (.bipush 7, 2) := by decide +kernel
theorem d_hs_findCrew_22 : decode (q_cc m_hs_findCrew) 22 = .ok (.invokevirtual 193, 3) := by decide +kernel
theorem d_hs_findCrew_25 : decode (q_cc m_hs_findCrew) 25 = .ok (.ifCond .eq 26, 3) := by decide +kernel
theorem d_hs_findCrew_28 : decode (q_cc m_hs_findCrew) 28 = .ok (.aload_n 0, 1) := by decide +kernel
theorem d_hs_findCrew_29 : decode (q_cc m_hs_findCrew) 29 = .ok (.getfield 42, 3) := by decide +kernel
theorem d_hs_findCrew_32 : decode (q_cc m_hs_findCrew) 32 = .ok (.aload_n 0, 1) := by decide +kernel
theorem d_hs_findCrew_33 : decode (q_cc m_hs_findCrew) 33 = .ok (.getfield 57, 3) := by decide +kernel
theorem d_hs_findCrew_36 : decode (q_cc m_hs_findCrew) 36 = .ok (.aload_n 0, 1) := by decide +kernel
theorem d_hs_findCrew_37 : decode (q_cc m_hs_findCrew) 37 = .ok (.getfield 28, 3) := by decide +kernel
theorem d_hs_findCrew_40 : decode (q_cc m_hs_findCrew) 40 = .ok (.iload_n 2, 1) := by decide +kernel
theorem d_hs_findCrew_41 : decode (q_cc m_hs_findCrew) 41 = .ok (.invokevirtual 222, 3) := by decide +kernel
theorem d_hs_findCrew_44 : decode (q_cc m_hs_findCrew) 44 = .ok (.ifCond .eq 7, 3) := by decide +kernel
theorem d_hs_findCrew_47 : decode (q_cc m_hs_findCrew) 47 = .ok (.iconst 1, 1) := by decide +kernel
theorem d_hs_findCrew_48 : decode (q_cc m_hs_findCrew) 48 = .ok (.goto 4, 3) := by decide +kernel
theorem d_hs_findCrew_51 : decode (q_cc m_hs_findCrew) 51 = .ok (.iconst 0, 1) := by decide +kernel
theorem d_hs_findCrew_52 : decode (q_cc m_hs_findCrew) 52 = .ok (.ireturn, 1) := by decide +kernel
theorem d_hs_crowd_0 : decode (q_cc m_hs_crowd) 0 = .ok (.aload_n 0, 1) := by decide +kernel
theorem d_hs_crowd_1 : decode (q_cc m_hs_crowd) 1 = .ok (.iload_n 1, 1) := by decide +kernel
theorem d_hs_crowd_2 : decode (q_cc m_hs_crowd) 2 = .ok (.iload_n 2, 1) := by decide +kernel
theorem d_hs_crowd_3 : decode (q_cc m_hs_crowd) 3 = .ok (.invokevirtual 187, 3) := by decide +kernel
theorem d_hs_crowd_6 : decode (q_cc m_hs_crowd) 6 = .ok (.ifCond .eq 25, 3) := by decide +kernel
theorem d_hs_crowd_9 : decode (q_cc m_hs_crowd) 9 = .ok (.iload_n 3, 1) := by decide +kernel
theorem d_hs_crowd_10 : decode (q_cc m_hs_crowd) 10 = .ok (.iconst 1, 1) := by decide +kernel
theorem d_hs_crowd_11 : decode (q_cc m_hs_crowd) 11 = .ok (.if_icmp .lt 20, 3) := by decide +kernel
theorem d_hs_crowd_14 : decode (q_cc m_hs_crowd) 14 = .ok (.iload_n 3, 1) := by decide +kernel
theorem d_hs_crowd_15 : decode (q_cc m_hs_crowd) 15 = .ok (.iconst 5, 1) := by decide +kernel
theorem d_hs_crowd_16 : decode (q_cc m_hs_crowd) 16 = .ok (.if_icmp .gt 15, 3) := by decide +kernel
theorem d_hs_crowd_19 : decode (q_cc m_hs_crowd) 19 = .ok (.iload 4, 2) := by decide +kernel
theorem d_hs_crowd_21 : decode (q_cc m_hs_crowd) 21 = .ok (.iconst (-1), 1) := by decide +kernel
theorem d_hs_crowd_22 : decode (q_cc m_hs_crowd) 22 = .ok (.if_icmp .lt 9, 3) := by decide +kernel
theorem d_hs_crowd_25 : decode (q_cc m_hs_crowd) 25 = .ok (.iload 4, 2) := by decide +kernel
theorem d_hs_crowd_27 : decode (q_cc m_hs_crowd) 27 = .ok (.iload_n 3, 1) := by decide +kernel
theorem d_hs_crowd_28 : decode (q_cc m_hs_crowd) 28 = .ok (.if_icmp .lt 5, 3) := by decide +kernel
theorem d_hs_crowd_31 : decode (q_cc m_hs_crowd) 31 = .ok (.iconst (-1), 1) := by decide +kernel
theorem d_hs_crowd_32 : decode (q_cc m_hs_crowd) 32 = .ok (.ireturn, 1) := by decide +kernel
theorem d_hs_crowd_33 : decode (q_cc m_hs_crowd) 33 = .ok (.aload_n 0, 1) := by decide +kernel
theorem d_hs_crowd_34 : decode (q_cc m_hs_crowd) 34 = .ok (.iload_n 1, 1) := by decide +kernel
theorem d_hs_crowd_35 : decode (q_cc m_hs_crowd) 35 = .ok (.iload_n 2, 1) := by decide +kernel
theorem d_hs_crowd_36 : decode (q_cc m_hs_crowd) 36 = .ok (.iconst 1, 1) := by decide +kernel
theorem d_hs_crowd_37 : decode (q_cc m_hs_crowd) 37 = .ok (.invokevirtual 226, 3) := by decide +kernel
theorem d_hs_crowd_40 : decode (q_cc m_hs_crowd) 40 = .ok (.istore 5, 2) := by decide +kernel
theorem d_hs_crowd_42 : decode (q_cc m_hs_crowd) 42 = .ok (.iload 5, 2) := by decide +kernel
theorem d_hs_crowd_44 : decode (q_cc m_hs_crowd) 44 = .ok (.invokestatic 103, 3) := by decide +kernel
theorem d_hs_crowd_47 : decode (q_cc m_hs_crowd) 47 = .ok (.iload_n 3, 1) := by decide +kernel
theorem d_hs_crowd_48 : decode (q_cc m_hs_crowd) 48 = .ok (.if_icmp .ge 5, 3) := by decide +kernel
theorem d_hs_crowd_51 : decode (q_cc m_hs_crowd) 51 = .ok (.iconst (-1), 1) := by decide +kernel
theorem d_hs_crowd_52 : decode (q_cc m_hs_crowd) 52 = .ok (.ireturn, 1) := by decide +kernel
theorem d_hs_crowd_53 : decode (q_cc m_hs_crowd) 53 = .ok (.iconst 0, 1) := by decide +kernel
theorem d_hs_crowd_54 : decode (q_cc m_hs_crowd) 54 = .ok (.istore 6, 2) := by decide +kernel
theorem d_hs_crowd_56 : decode (q_cc m_hs_crowd) 56 = .ok (.iconst 0, 1) := by decide +kernel
theorem d_hs_crowd_57 : decode (q_cc m_hs_crowd) 57 = .ok (.istore 7, 2) := by decide +kernel
theorem d_hs_crowd_59 : decode (q_cc m_hs_crowd) 59 = .ok (.iload 7, 2) := by decide +kernel
theorem d_hs_crowd_61 : decode (q_cc m_hs_crowd) 61 = .ok (.iload_n 3, 1) := by decide +kernel
theorem d_hs_crowd_62 : decode (q_cc m_hs_crowd) 62 = .ok (.if_icmp .ge 59, 3) := by decide +kernel
theorem d_hs_crowd_65 : decode (q_cc m_hs_crowd) 65 = .ok (.aload_n 0, 1) := by decide +kernel
theorem d_hs_crowd_66 : decode (q_cc m_hs_crowd) 66 = .ok (.iload 5, 2) := by decide +kernel
theorem d_hs_crowd_68 : decode (q_cc m_hs_crowd) 68 = .ok (.invokevirtual 230, 3) := by decide +kernel
theorem d_hs_crowd_71 : decode (q_cc m_hs_crowd) 71 = .ok (.istore 8, 2) := by decide +kernel
theorem d_hs_crowd_73 : decode (q_cc m_hs_crowd) 73 = .ok (.iload 7, 2) := by decide +kernel
theorem d_hs_crowd_75 : decode (q_cc m_hs_crowd) 75 = .ok (.iload 4, 2) := by decide +kernel
theorem d_hs_crowd_77 : decode (q_cc m_hs_crowd) 77 = .ok (.if_icmp .eq 9, 3) := by decide +kernel
theorem d_hs_crowd_80 : decode (q_cc m_hs_crowd) 80 = .ok (.iload 8, 2) := by decide +kernel
theorem d_hs_crowd_82 : decode (q_cc m_hs_crowd) 82 = .ok (.iconst (-1), 1) := by decide +kernel
theorem d_hs_crowd_83 : decode (q_cc m_hs_crowd) 83 = .ok (.if_icmp .ne 6, 3) := by decide +kernel
theorem d_hs_crowd_86 : decode (q_cc m_hs_crowd) 86 = .ok (.iload 8, 2) := by decide +kernel
theorem d_hs_crowd_88 : decode (q_cc m_hs_crowd) 88 = .ok (.ireturn, 1) := by decide +kernel
theorem d_hs_crowd_89 : decode (q_cc m_hs_crowd) 89 = .ok (.iload 5, 2) := by decide +kernel
theorem d_hs_crowd_91 : decode (q_cc m_hs_crowd) 91 = .ok (.iconst 1, 1) := by decide +kernel
theorem d_hs_crowd_92 : decode (q_cc m_hs_crowd) 92 = .ok (.iload 8, 2) := by decide +kernel
theorem d_hs_crowd_94 : decode (q_cc m_hs_crowd) 94 = .ok (.ishl, 1) := by decide +kernel
theorem d_hs_crowd_95 : decode (q_cc m_hs_crowd) 95 = .ok (.iconst (-1), 1) := by decide +kernel
theorem d_hs_crowd_96 : decode (q_cc m_hs_crowd) 96 = .ok (.ixor, 1) := by decide +kernel
theorem d_hs_crowd_97 : decode (q_cc m_hs_crowd) 97 = .ok (.iand, 1) := by decide +kernel
theorem d_hs_crowd_98 : decode (q_cc m_hs_crowd) 98 = .ok (.istore 5, 2) := by decide +kernel
theorem d_hs_crowd_100 : decode (q_cc m_hs_crowd) 100 = .ok (.iload 6, 2) := by decide +kernel
theorem d_hs_crowd_102 : decode (q_cc m_hs_crowd) 102 = .ok (.aload_n 0, 1) := by decide +kernel
theorem d_hs_crowd_103 : decode (q_cc m_hs_crowd) 103 = .ok (.getfield 57, 3) := by decide +kernel
theorem d_hs_crowd_106 : decode (q_cc m_hs_crowd) 106 = .ok (.getfield 233, 3) := by decide +kernel
theorem d_hs_crowd_109 : decode (q_cc m_hs_crowd) 109 = .ok (.iload 8, 2) := by decide +kernel
theorem d_hs_crowd_111 : decode (q_cc m_hs_crowd) 111 = .ok (.iaload, 1) := by decide +kernel
theorem d_hs_crowd_112 : decode (q_cc m_hs_crowd) 112 = .ok (.iadd, 1) := by decide +kernel
theorem d_hs_crowd_113 : decode (q_cc m_hs_crowd) 113 = .ok (.istore 6, 2) := by decide +kernel
theorem d_hs_crowd_115 : decode (q_cc m_hs_crowd) 115 = .ok (.iinc 7 1, 3) := by decide +kernel
theorem d_hs_crowd_118 : decode (q_cc m_hs_crowd) 118 = .ok (.goto (-59), 3) := by decide +kernel
theorem d_hs_crowd_121 : decode (q_cc m_hs_crowd) 121 = .ok (.iload 6, 2) := by decide +kernel
theorem d_hs_crowd_123 : decode (q_cc m_hs_crowd) 123 = .ok (.ireturn, 1) := by decide +kernel
theorem d_hs_cheapestOf_0 : decode (q_cc m_hs_cheapestOf) 0 = .ok (.iconst (-1), 1) := by decide +kernel
theorem d_hs_cheapestOf_1 : decode (q_cc m_hs_cheapestOf) 1 = .ok (.istore_n 2, 1) := by decide +kernel
theorem d_hs_cheapestOf_2 : decode (q_cc m_hs_cheapestOf) 2 = .ok (.iconst 0, 1) := by decide +kernel
theorem d_hs_cheapestOf_3 : decode (q_cc m_hs_cheapestOf) 3 = .ok (.istore_n 3, 1) := by decide +kernel
theorem d_hs_cheapestOf_4 : decode (q_cc m_hs_cheapestOf) 4 = .ok (.iload_n 3, 1) := by decide +kernel
theorem d_hs_cheapestOf_5 : decode (q_cc m_hs_cheapestOf) 5 = .ok (.aload_n 0, 1) := by decide +kernel
theorem d_hs_cheapestOf_6 : decode (q_cc m_hs_cheapestOf) 6 = .ok (.getfield 57, 3) := by decide +kernel
theorem d_hs_cheapestOf_9 : decode (q_cc m_hs_cheapestOf) 9 = .ok (.getfield 90, 3) := by decide +kernel
theorem d_hs_cheapestOf_12 : decode (q_cc m_hs_cheapestOf) 12 = .ok (.iconst 2, 1) := by decide +kernel
theorem d_hs_cheapestOf_13 : decode (q_cc m_hs_cheapestOf) 13 = .ok (.iaload, 1) := by decide +kernel
theorem d_hs_cheapestOf_14 : decode (q_cc m_hs_cheapestOf) 14 = .ok (.if_icmp .ge 58, 3) := by decide +kernel
theorem d_hs_cheapestOf_17 : decode (q_cc m_hs_cheapestOf) 17 = .ok (.iload_n 1, 1) := by decide +kernel
theorem d_hs_cheapestOf_18 : decode (q_cc m_hs_cheapestOf) 18 = .ok (.iload_n 3, 1) := by decide +kernel
theorem d_hs_cheapestOf_19 : decode (q_cc m_hs_cheapestOf) 19 = .ok (.ishr, 1) := by decide +kernel
theorem d_hs_cheapestOf_20 : decode (q_cc m_hs_cheapestOf) 20 = .ok (.iconst 1, 1) := by decide +kernel
theorem d_hs_cheapestOf_21 : decode (q_cc m_hs_cheapestOf) 21 = .ok (.iand, 1) := by decide +kernel
theorem d_hs_cheapestOf_22 : decode (q_cc m_hs_cheapestOf) 22 = .ok (.iconst 1, 1) := by decide +kernel
theorem d_hs_cheapestOf_23 : decode (q_cc m_hs_cheapestOf) 23 = .ok (.if_icmp .ne 7, 3) := by decide +kernel
theorem d_hs_cheapestOf_26 : decode (q_cc m_hs_cheapestOf) 26 = .ok (.iconst 1, 1) := by decide +kernel
theorem d_hs_cheapestOf_27 : decode (q_cc m_hs_cheapestOf) 27 = .ok (.goto 4, 3) := by decide +kernel
theorem d_hs_cheapestOf_30 : decode (q_cc m_hs_cheapestOf) 30 = .ok (.iconst 0, 1) := by decide +kernel
theorem d_hs_cheapestOf_31 : decode (q_cc m_hs_cheapestOf) 31 = .ok (.istore 4, 2) := by decide +kernel
theorem d_hs_cheapestOf_33 : decode (q_cc m_hs_cheapestOf) 33 = .ok (.iload 4, 2) := by decide +kernel
theorem d_hs_cheapestOf_35 : decode (q_cc m_hs_cheapestOf) 35 = .ok (.ifCond .eq 31, 3) := by decide +kernel
theorem d_hs_cheapestOf_38 : decode (q_cc m_hs_cheapestOf) 38 = .ok (.iload_n 2, 1) := by decide +kernel
theorem d_hs_cheapestOf_39 : decode (q_cc m_hs_cheapestOf) 39 = .ok (.iconst (-1), 1) := by decide +kernel
theorem d_hs_cheapestOf_40 : decode (q_cc m_hs_cheapestOf) 40 = .ok (.if_icmp .eq 24, 3) := by decide +kernel
theorem d_hs_cheapestOf_43 : decode (q_cc m_hs_cheapestOf) 43 = .ok (.aload_n 0, 1) := by decide +kernel
theorem d_hs_cheapestOf_44 : decode (q_cc m_hs_cheapestOf) 44 = .ok (.getfield 57, 3) := by decide +kernel
theorem d_hs_cheapestOf_47 : decode (q_cc m_hs_cheapestOf) 47 = .ok (.getfield 233, 3) := by decide +kernel
theorem d_hs_cheapestOf_50 : decode (q_cc m_hs_cheapestOf) 50 = .ok (.iload_n 3, 1) := by decide +kernel
theorem d_hs_cheapestOf_51 : decode (q_cc m_hs_cheapestOf) 51 = .ok (.iaload, 1) := by decide +kernel
theorem d_hs_cheapestOf_52 : decode (q_cc m_hs_cheapestOf) 52 = .ok (.aload_n 0, 1) := by decide +kernel
theorem d_hs_cheapestOf_53 : decode (q_cc m_hs_cheapestOf) 53 = .ok (.getfield 57, 3) := by decide +kernel
theorem d_hs_cheapestOf_56 : decode (q_cc m_hs_cheapestOf) 56 = .ok (.getfield 233, 3) := by decide +kernel
theorem d_hs_cheapestOf_59 : decode (q_cc m_hs_cheapestOf) 59 = .ok (.iload_n 2, 1) := by decide +kernel
theorem d_hs_cheapestOf_60 : decode (q_cc m_hs_cheapestOf) 60 = .ok (.iaload, 1) := by decide +kernel
theorem d_hs_cheapestOf_61 : decode (q_cc m_hs_cheapestOf) 61 = .ok (.if_icmp .ge 5, 3) := by decide +kernel
theorem d_hs_cheapestOf_64 : decode (q_cc m_hs_cheapestOf) 64 = .ok (.iload_n 3, 1) := by decide +kernel
theorem d_hs_cheapestOf_65 : decode (q_cc m_hs_cheapestOf) 65 = .ok (.istore_n 2, 1) := by decide +kernel
theorem d_hs_cheapestOf_66 : decode (q_cc m_hs_cheapestOf) 66 = .ok (.iinc 3 1, 3) := by decide +kernel
theorem d_hs_cheapestOf_69 : decode (q_cc m_hs_cheapestOf) 69 = .ok (.goto (-65), 3) := by decide +kernel
theorem d_hs_cheapestOf_72 : decode (q_cc m_hs_cheapestOf) 72 = .ok (.iload_n 2, 1) := by decide +kernel
theorem d_hs_cheapestOf_73 : decode (q_cc m_hs_cheapestOf) 73 = .ok (.ireturn, 1) := by decide +kernel
theorem d_hs_shade_0 : decode (q_cc m_hs_shade) 0 = .ok (.aload_n 0, 1) := by decide +kernel
theorem d_hs_shade_1 : decode (q_cc m_hs_shade) 1 = .ok (.iload_n 1, 1) := by decide +kernel
theorem d_hs_shade_2 : decode (q_cc m_hs_shade) 2 = .ok (.invokevirtual 149, 3) := by decide +kernel
theorem d_hs_shade_5 : decode (q_cc m_hs_shade) 5 = .ok (.ifCond .ne 5, 3) := by decide +kernel
theorem d_hs_shade_8 : decode (q_cc m_hs_shade) 8 = .ok (.iconst (-1), 1) := by decide +kernel
theorem d_hs_shade_9 : decode (q_cc m_hs_shade) 9 = .ok (.ireturn, 1) := by decide +kernel
theorem d_hs_shade_10 : decode (q_cc m_hs_shade) 10 = .ok (.aload_n 0, 1) := by decide +kernel
theorem d_hs_shade_11 : decode (q_cc m_hs_shade) 11 = .ok (.iload_n 1, 1) := by decide +kernel
theorem d_hs_shade_12 : decode (q_cc m_hs_shade) 12 = .ok (.invokevirtual 168, 3) := by decide +kernel
theorem d_hs_shade_15 : decode (q_cc m_hs_shade) 15 = .ok (.istore_n 3, 1) := by decide +kernel
theorem d_hs_shade_16 : decode (q_cc m_hs_shade) 16 = .ok (.iload_n 2, 1) := by decide +kernel
theorem d_hs_shade_17 : decode (q_cc m_hs_shade) 17 = .ok (.tableswitch 72 0 4 #[35, 40, 47, 56, 65], 35) := by decide +kernel
theorem d_hs_shade_52 : decode (q_cc m_hs_shade) 52 = .ok (.iload_n 3, 1) := by decide +kernel
theorem d_hs_shade_53 : decode (q_cc m_hs_shade) 53 = .ok (.invokestatic 103, 3) := by decide +kernel
theorem d_hs_shade_56 : decode (q_cc m_hs_shade) 56 = .ok (.ireturn, 1) := by decide +kernel
theorem d_hs_shade_57 : decode (q_cc m_hs_shade) 57 = .ok (.aload_n 0, 1) := by decide +kernel
theorem d_hs_shade_58 : decode (q_cc m_hs_shade) 58 = .ok (.iload_n 1, 1) := by decide +kernel
theorem d_hs_shade_59 : decode (q_cc m_hs_shade) 59 = .ok (.iload_n 3, 1) := by decide +kernel
theorem d_hs_shade_60 : decode (q_cc m_hs_shade) 60 = .ok (.invokevirtual 236, 3) := by decide +kernel
theorem d_hs_shade_63 : decode (q_cc m_hs_shade) 63 = .ok (.ireturn, 1) := by decide +kernel
theorem d_hs_shade_64 : decode (q_cc m_hs_shade) 64 = .ok (.aload_n 0, 1) := by decide +kernel
theorem d_hs_shade_65 : decode (q_cc m_hs_shade) 65 = .ok (.getfield 57, 3) := by decide +kernel
theorem d_hs_shade_68 : decode (q_cc m_hs_shade) 68 = .ok (.iload_n 3, 1) := by decide +kernel
theorem d_hs_shade_69 : decode (q_cc m_hs_shade) 69 = .ok (.invokevirtual 239, 3) := by decide +kernel
theorem d_hs_shade_72 : decode (q_cc m_hs_shade) 72 = .ok (.ireturn, 1) := by decide +kernel
theorem d_hs_shade_73 : decode (q_cc m_hs_shade) 73 = .ok (.aload_n 0, 1) := by decide +kernel
theorem d_hs_shade_74 : decode (q_cc m_hs_shade) 74 = .ok (.getfield 57, 3) := by decide +kernel
theorem d_hs_shade_77 : decode (q_cc m_hs_shade) 77 = .ok (.iload_n 3, 1) := by decide +kernel
theorem d_hs_shade_78 : decode (q_cc m_hs_shade) 78 = .ok (.invokevirtual 242, 3) := by decide +kernel
theorem d_hs_shade_81 : decode (q_cc m_hs_shade) 81 = .ok (.ireturn, 1) := by decide +kernel
theorem d_hs_shade_82 : decode (q_cc m_hs_shade) 82 = .ok (.aload_n 0, 1) := by decide +kernel
theorem d_hs_shade_83 : decode (q_cc m_hs_shade) 83 = .ok (.iload_n 1, 1) := by decide +kernel
theorem d_hs_shade_84 : decode (q_cc m_hs_shade) 84 = .ok (.iload_n 3, 1) := by decide +kernel
theorem d_hs_shade_85 : decode (q_cc m_hs_shade) 85 = .ok (.invokevirtual 245, 3) := by decide +kernel
theorem d_hs_shade_88 : decode (q_cc m_hs_shade) 88 = .ok (.ireturn, 1) := by decide +kernel
theorem d_hs_shade_89 : decode (q_cc m_hs_shade) 89 = .ok (.iconst (-1), 1) := by decide +kernel
theorem d_hs_shade_90 : decode (q_cc m_hs_shade) 90 = .ok (.ireturn, 1) := by decide +kernel
theorem d_hs_pricesOf_0 : decode (q_cc m_hs_pricesOf) 0 = .ok (.iconst 0, 1) := by decide +kernel
theorem d_hs_pricesOf_1 : decode (q_cc m_hs_pricesOf) 1 = .ok (.istore_n 3, 1) := by decide +kernel
theorem d_hs_pricesOf_2 : decode (q_cc m_hs_pricesOf) 2 = .ok (.iconst 0, 1) := by decide +kernel
theorem d_hs_pricesOf_3 : decode (q_cc m_hs_pricesOf) 3 = .ok (.istore 4, 2) := by decide +kernel
theorem d_hs_pricesOf_5 : decode (q_cc m_hs_pricesOf) 5 = .ok (.iload 4, 2) := by decide +kernel
theorem d_hs_pricesOf_7 : decode (q_cc m_hs_pricesOf) 7 = .ok (.aload_n 0, 1) := by decide +kernel
theorem d_hs_pricesOf_8 : decode (q_cc m_hs_pricesOf) 8 = .ok (.getfield 57, 3) := by decide +kernel
theorem d_hs_pricesOf_11 : decode (q_cc m_hs_pricesOf) 11 = .ok (.getfield 90, 3) := by decide +kernel
theorem d_hs_pricesOf_14 : decode (q_cc m_hs_pricesOf) 14 = .ok (.iconst 4, 1) := by decide +kernel
theorem d_hs_pricesOf_15 : decode (q_cc m_hs_pricesOf) 15 = .ok (.iaload, 1) := by decide +kernel
theorem d_hs_pricesOf_16 : decode (q_cc m_hs_pricesOf) 16 = .ok (.if_icmp .ge 34, 3) := by decide +kernel
theorem d_hs_pricesOf_19 : decode (q_cc m_hs_pricesOf) 19 = .ok (.iload_n 2, 1) := by decide +kernel
theorem d_hs_pricesOf_20 : decode (q_cc m_hs_pricesOf) 20 = .ok (.iload 4, 2) := by decide +kernel
theorem d_hs_pricesOf_22 : decode (q_cc m_hs_pricesOf) 22 = .ok (.ishr, 1) := by decide +kernel
theorem d_hs_pricesOf_23 : decode (q_cc m_hs_pricesOf) 23 = .ok (.iconst 1, 1) := by decide +kernel
theorem d_hs_pricesOf_24 : decode (q_cc m_hs_pricesOf) 24 = .ok (.iand, 1) := by decide +kernel
theorem d_hs_pricesOf_25 : decode (q_cc m_hs_pricesOf) 25 = .ok (.iconst 1, 1) := by decide +kernel
theorem d_hs_pricesOf_26 : decode (q_cc m_hs_pricesOf) 26 = .ok (.if_icmp .ne 18, 3) := by decide +kernel
theorem d_hs_pricesOf_29 : decode (q_cc m_hs_pricesOf) 29 = .ok (.iload_n 3, 1) := by decide +kernel
theorem d_hs_pricesOf_30 : decode (q_cc m_hs_pricesOf) 30 = .ok (.aload_n 0, 1) := by decide +kernel
theorem d_hs_pricesOf_31 : decode (q_cc m_hs_pricesOf) 31 = .ok (.getfield 57, 3) := by decide +kernel
theorem d_hs_pricesOf_34 : decode (q_cc m_hs_pricesOf) 34 = .ok (.getfield 155, 3) := by decide +kernel
theorem d_hs_pricesOf_37 : decode (q_cc m_hs_pricesOf) 37 = .ok (.iload_n 1, 1) := by decide +kernel
theorem d_hs_pricesOf_38 : decode (q_cc m_hs_pricesOf) 38 = .ok (.aaload, 1) := by decide +kernel
theorem d_hs_pricesOf_39 : decode (q_cc m_hs_pricesOf) 39 = .ok (.iload 4, 2) := by decide +kernel
theorem d_hs_pricesOf_41 : decode (q_cc m_hs_pricesOf) 41 = .ok (.iaload, 1) := by decide +kernel
theorem d_hs_pricesOf_42 : decode (q_cc m_hs_pricesOf) 42 = .ok (.iadd, 1) := by decide +kernel
theorem d_hs_pricesOf_43 : decode (q_cc m_hs_pricesOf) 43 = .ok (.istore_n 3, 1) := by decide +kernel
theorem d_hs_pricesOf_44 : decode (q_cc m_hs_pricesOf) 44 = .ok (.iinc 4 1, 3) := by decide +kernel
theorem d_hs_pricesOf_47 : decode (q_cc m_hs_pricesOf) 47 = .ok (.goto (-42), 3) := by decide +kernel
theorem d_hs_pricesOf_50 : decode (q_cc m_hs_pricesOf) 50 = .ok (.iload_n 3, 1) := by decide +kernel
theorem d_hs_pricesOf_51 : decode (q_cc m_hs_pricesOf) 51 = .ok (.ireturn, 1) := by decide +kernel
theorem d_hs_leastPassOf_0 : decode (q_cc m_hs_leastPassOf) 0 = .ok (.iconst (-1), 1) := by decide +kernel
theorem d_hs_leastPassOf_1 : decode (q_cc m_hs_leastPassOf) 1 = .ok (.istore_n 3, 1) := by decide +kernel
theorem d_hs_leastPassOf_2 : decode (q_cc m_hs_leastPassOf) 2 = .ok (.iconst 0, 1) := by decide +kernel
theorem d_hs_leastPassOf_3 : decode (q_cc m_hs_leastPassOf) 3 = .ok (.istore 4, 2) := by decide +kernel
theorem d_hs_leastPassOf_5 : decode (q_cc m_hs_leastPassOf) 5 = .ok (.iload 4, 2) := by decide +kernel
theorem d_hs_leastPassOf_7 : decode (q_cc m_hs_leastPassOf) 7 = .ok (.aload_n 0, 1) := by decide +kernel
theorem d_hs_leastPassOf_8 : decode (q_cc m_hs_leastPassOf) 8 = .ok (.getfield 57, 3) := by decide +kernel
theorem d_hs_leastPassOf_11 : decode (q_cc m_hs_leastPassOf) 11 = .ok (.getfield 90, 3) := by decide +kernel
theorem d_hs_leastPassOf_14 : decode (q_cc m_hs_leastPassOf) 14 = .ok (.iconst 4, 1) := by decide +kernel
theorem d_hs_leastPassOf_15 : decode (q_cc m_hs_leastPassOf) 15 = .ok (.iaload, 1) := by decide +kernel
theorem d_hs_leastPassOf_16 : decode (q_cc m_hs_leastPassOf) 16 = .ok (.if_icmp .ge 47, 3) := by decide +kernel
theorem d_hs_leastPassOf_19 : decode (q_cc m_hs_leastPassOf) 19 = .ok (.aload_n 0, 1) := by decide +kernel
theorem d_hs_leastPassOf_20 : decode (q_cc m_hs_leastPassOf) 20 = .ok (.getfield 57, 3) := by decide +kernel
theorem d_hs_leastPassOf_23 : decode (q_cc m_hs_leastPassOf) 23 = .ok (.getfield 152, 3) := by decide +kernel
theorem d_hs_leastPassOf_26 : decode (q_cc m_hs_leastPassOf) 26 = .ok (.iload_n 1, 1) := by decide +kernel
theorem d_hs_leastPassOf_27 : decode (q_cc m_hs_leastPassOf) 27 = .ok (.aaload, 1) := by decide +kernel
theorem d_hs_leastPassOf_28 : decode (q_cc m_hs_leastPassOf) 28 = .ok (.iload 4, 2) := by decide +kernel
theorem d_hs_leastPassOf_30 : decode (q_cc m_hs_leastPassOf) 30 = .ok (.iaload, 1) := by decide +kernel
theorem d_hs_leastPassOf_31 : decode (q_cc m_hs_leastPassOf) 31 = .ok (.istore 5, 2) := by decide +kernel
theorem d_hs_leastPassOf_33 : decode (q_cc m_hs_leastPassOf) 33 = .ok (.iload_n 2, 1) := by decide +kernel
theorem d_hs_leastPassOf_34 : decode (q_cc m_hs_leastPassOf) 34 = .ok (.iload 4, 2) := by decide +kernel
theorem d_hs_leastPassOf_36 : decode (q_cc m_hs_leastPassOf) 36 = .ok (.ishr, 1) := by decide +kernel
theorem d_hs_leastPassOf_37 : decode (q_cc m_hs_leastPassOf) 37 = .ok (.iconst 1, 1) := by decide +kernel
theorem d_hs_leastPassOf_38 : decode (q_cc m_hs_leastPassOf) 38 = .ok (.iand, 1) := by decide +kernel
theorem d_hs_leastPassOf_39 : decode (q_cc m_hs_leastPassOf) 39 = .ok (.iconst 1, 1) := by decide +kernel
theorem d_hs_leastPassOf_40 : decode (q_cc m_hs_leastPassOf) 40 = .ok (.if_icmp .ne 17, 3) := by decide +kernel
theorem d_hs_leastPassOf_43 : decode (q_cc m_hs_leastPassOf) 43 = .ok (.iload_n 3, 1) := by decide +kernel
theorem d_hs_leastPassOf_44 : decode (q_cc m_hs_leastPassOf) 44 = .ok (.iconst (-1), 1) := by decide +kernel
theorem d_hs_leastPassOf_45 : decode (q_cc m_hs_leastPassOf) 45 = .ok (.if_icmp .eq 9, 3) := by decide +kernel
theorem d_hs_leastPassOf_48 : decode (q_cc m_hs_leastPassOf) 48 = .ok (.iload 5, 2) := by decide +kernel
theorem d_hs_leastPassOf_50 : decode (q_cc m_hs_leastPassOf) 50 = .ok (.iload_n 3, 1) := by decide +kernel
theorem d_hs_leastPassOf_51 : decode (q_cc m_hs_leastPassOf) 51 = .ok (.if_icmp .ge 6, 3) := by decide +kernel
theorem d_hs_leastPassOf_54 : decode (q_cc m_hs_leastPassOf) 54 = .ok (.iload 5, 2) := by decide +kernel
theorem d_hs_leastPassOf_56 : decode (q_cc m_hs_leastPassOf) 56 = .ok (.istore_n 3, 1) := by decide +kernel
theorem d_hs_leastPassOf_57 : decode (q_cc m_hs_leastPassOf) 57 = .ok (.iinc 4 1, 3) := by decide +kernel
theorem d_hs_leastPassOf_60 : decode (q_cc m_hs_leastPassOf) 60 = .ok (.goto (-55), 3) := by decide +kernel
theorem d_hs_leastPassOf_63 : decode (q_cc m_hs_leastPassOf) 63 = .ok (.iload_n 3, 1) := by decide +kernel
theorem d_hs_leastPassOf_64 : decode (q_cc m_hs_leastPassOf) 64 = .ok (.ireturn, 1) := by decide +kernel
theorem d_hs_seed_0 : decode (q_cc m_hs_seed) 0 = .ok (.iload_n 1, 1) := by decide +kernel
theorem d_hs_seed_1 : decode (q_cc m_hs_seed) 1 = .ok (.ifCond .ge 5, 3) := by decide +kernel
theorem d_hs_seed_4 : decode (q_cc m_hs_seed) 4 = .ok (.iconst 0, 1) := by decide +kernel
theorem d_hs_seed_5 : decode (q_cc m_hs_seed) 5 = .ok (.ireturn, 1) := by decide +kernel
theorem d_hs_seed_6 : decode (q_cc m_hs_seed) 6 = .ok (.aload_n 0, 1) := by decide +kernel
theorem d_hs_seed_7 : decode (q_cc m_hs_seed) 7 = .ok (.iload_n 1, 1) := by decide +kernel
theorem d_hs_seed_8 : decode (q_cc m_hs_seed) 8 = .ok (.putfield 50, 3) := by decide +kernel
theorem d_hs_seed_11 : decode (q_cc m_hs_seed) 11 = .ok (.iconst 1, 1) := by decide +kernel
theorem d_hs_seed_12 : decode (q_cc m_hs_seed) 12 = .ok (.ireturn, 1) := by decide +kernel
theorem d_hs_days_0 : decode (q_cc m_hs_days) 0 = .ok (.iload_n 1, 1) := by decide +kernel
theorem d_hs_days_1 : decode (q_cc m_hs_days) 1 = .ok (.iconst 1, 1) := by decide +kernel
theorem d_hs_days_2 : decode (q_cc m_hs_days) 2 = .ok (.if_icmp .lt 18, 3) := by decide +kernel
theorem d_hs_days_5 : decode (q_cc m_hs_days) 5 = .ok (.iload_n 1, 1) := by decide +kernel
theorem d_hs_days_6 : decode (q_cc m_hs_days) 6 = .ok (.bipush 100, 2) := by decide +kernel
theorem d_hs_days_8 : decode (q_cc m_hs_days) 8 = .ok (.if_icmp .gt 12, 3) := by decide +kernel
theorem d_hs_days_11 : decode (q_cc m_hs_days) 11 = .ok (.iload_n 2, 1) := by decide +kernel
theorem d_hs_days_12 : decode (q_cc m_hs_days) 12 = .ok (.ifCond .lt 8, 3) := by decide +kernel
theorem d_hs_days_15 : decode (q_cc m_hs_days) 15 = .ok (.iload_n 2, 1) := by decide +kernel
theorem d_hs_days_16 : decode (q_cc m_hs_days) 16 = .ok (.iconst 1, 1) := by decide +kernel
theorem d_hs_days_17 : decode (q_cc m_hs_days) 17 = .ok (.if_icmp .le 6, 3) := by decide +kernel
theorem d_hs_days_20 : decode (q_cc m_hs_days) 20 = .ok (.ldc 248, 2) := by decide +kernel
theorem d_hs_days_22 : decode (q_cc m_hs_days) 22 = .ok (.ireturn, 1) := by decide +kernel
theorem d_hs_days_23 : decode (q_cc m_hs_days) 23 = .ok (.iconst 0, 1) := by decide +kernel
theorem d_hs_days_24 : decode (q_cc m_hs_days) 24 = .ok (.istore_n 3, 1) := by decide +kernel
theorem d_hs_days_25 : decode (q_cc m_hs_days) 25 = .ok (.iconst 0, 1) := by decide +kernel
theorem d_hs_days_26 : decode (q_cc m_hs_days) 26 = .ok (.istore 4, 2) := by decide +kernel
theorem d_hs_days_28 : decode (q_cc m_hs_days) 28 = .ok (.iconst 0, 1) := by decide +kernel
theorem d_hs_days_29 : decode (q_cc m_hs_days) 29 = .ok (.istore 5, 2) := by decide +kernel
theorem d_hs_days_31 : decode (q_cc m_hs_days) 31 = .ok (.iload 5, 2) := by decide +kernel
theorem d_hs_days_33 : decode (q_cc m_hs_days) 33 = .ok (.iload_n 1, 1) := by decide +kernel
theorem d_hs_days_34 : decode (q_cc m_hs_days) 34 = .ok (.if_icmp .ge 109, 3) := by decide +kernel
theorem d_hs_days_37 : decode (q_cc m_hs_days) 37 = .ok (.iconst 0, 1) := by decide +kernel
theorem d_hs_days_38 : decode (q_cc m_hs_days) 38 = .ok (.istore 6, 2) := by decide +kernel
theorem d_hs_days_40 : decode (q_cc m_hs_days) 40 = .ok (.iload 6, 2) := by decide +kernel
theorem d_hs_days_42 : decode (q_cc m_hs_days) 42 = .ok (.aload_n 0, 1) := by decide +kernel
theorem d_hs_days_43 : decode (q_cc m_hs_days) 43 = .ok (.getfield 57, 3) := by decide +kernel
theorem d_hs_days_46 : decode (q_cc m_hs_days) 46 = .ok (.getfield 90, 3) := by decide +kernel
theorem d_hs_days_49 : decode (q_cc m_hs_days) 49 = .ok (.iconst 4, 1) := by decide +kernel
theorem d_hs_days_50 : decode (q_cc m_hs_days) 50 = .ok (.iaload, 1) := by decide +kernel
theorem d_hs_days_51 : decode (q_cc m_hs_days) 51 = .ok (.if_icmp .ge 86, 3) := by decide +kernel
theorem d_hs_days_54 : decode (q_cc m_hs_days) 54 = .ok (.aload_n 0, 1) := by decide +kernel
theorem d_hs_days_55 : decode (q_cc m_hs_days) 55 = .ok (.getfield 28, 3) := by decide +kernel
theorem d_hs_days_58 : decode (q_cc m_hs_days) 58 = .ok (.getfield 143, 3) := by decide +kernel
theorem d_hs_days_61 : decode (q_cc m_hs_days) 61 = .ok (.iload 6, 2) := by decide +kernel
theorem d_hs_days_63 : decode (q_cc m_hs_days) 63 = .ok (.iaload, 1) := by decide +kernel
theorem d_hs_days_64 : decode (q_cc m_hs_days) 64 = .ok (.istore 7, 2) := by decide +kernel
theorem d_hs_days_66 : decode (q_cc m_hs_days) 66 = .ok (.iload 7, 2) := by decide +kernel
theorem d_hs_days_68 : decode (q_cc m_hs_days) 68 = .ok (.iconst (-1), 1) := by decide +kernel
theorem d_hs_days_69 : decode (q_cc m_hs_days) 69 = .ok (.if_icmp .ne 6, 3) := by decide +kernel
theorem d_hs_days_72 : decode (q_cc m_hs_days) 72 = .ok (.goto 59, 3) := by decide +kernel
theorem d_hs_days_75 : decode (q_cc m_hs_days) 75 = .ok (.aload_n 0, 1) := by decide +kernel
theorem d_hs_days_76 : decode (q_cc m_hs_days) 76 = .ok (.invokevirtual 249, 3) := by decide +kernel
theorem d_hs_days_79 : decode (q_cc m_hs_days) 79 = .ok (.aload_n 0, 1) := by decide +kernel
theorem d_hs_days_80 : decode (q_cc m_hs_days) 80 = .ok (.getfield 57, 3) := by decide +kernel
theorem d_hs_days_83 : decode (q_cc m_hs_days) 83 = .ok (.getfield 152, 3) := by decide +kernel
theorem d_hs_days_86 : decode (q_cc m_hs_days) 86 = .ok (.iload 7, 2) := by decide +kernel
theorem d_hs_days_88 : decode (q_cc m_hs_days) 88 = .ok (.aaload, 1) := by decide +kernel
theorem d_hs_days_89 : decode (q_cc m_hs_days) 89 = .ok (.iload 6, 2) := by decide +kernel
theorem d_hs_days_91 : decode (q_cc m_hs_days) 91 = .ok (.iaload, 1) := by decide +kernel
theorem d_hs_days_92 : decode (q_cc m_hs_days) 92 = .ok (.if_icmp .ge 20, 3) := by decide +kernel
theorem d_hs_days_95 : decode (q_cc m_hs_days) 95 = .ok (.iload_n 3, 1) := by decide +kernel
theorem d_hs_days_96 : decode (q_cc m_hs_days) 96 = .ok (.aload_n 0, 1) := by decide +kernel
theorem d_hs_days_97 : decode (q_cc m_hs_days) 97 = .ok (.getfield 57, 3) := by decide +kernel
theorem d_hs_days_100 : decode (q_cc m_hs_days) 100 = .ok (.iload 7, 2) := by decide +kernel
theorem d_hs_days_102 : decode (q_cc m_hs_days) 102 = .ok (.iload 6, 2) := by decide +kernel
theorem d_hs_days_104 : decode (q_cc m_hs_days) 104 = .ok (.invokevirtual 252, 3) := by decide +kernel
theorem d_hs_days_107 : decode (q_cc m_hs_days) 107 = .ok (.iadd, 1) := by decide +kernel
theorem d_hs_days_108 : decode (q_cc m_hs_days) 108 = .ok (.istore_n 3, 1) := by decide +kernel
theorem d_hs_days_109 : decode (q_cc m_hs_days) 109 = .ok (.goto 22, 3) := by decide +kernel
theorem d_hs_days_112 : decode (q_cc m_hs_days) 112 = .ok (.iload_n 3, 1) := by decide +kernel
theorem d_hs_days_113 : decode (q_cc m_hs_days) 113 = .ok (.aload_n 0, 1) := by decide +kernel
theorem d_hs_days_114 : decode (q_cc m_hs_days) 114 = .ok (.getfield 57, 3) := by decide +kernel
theorem d_hs_days_117 : decode (q_cc m_hs_days) 117 = .ok (.getfield 155, 3) := by decide +kernel
theorem d_hs_days_120 : decode (q_cc m_hs_days) 120 = .ok (.iload 7, 2) := by decide +kernel
theorem d_hs_days_122 : decode (q_cc m_hs_days) 122 = .ok (.aaload, 1) := by decide +kernel
theorem d_hs_days_123 : decode (q_cc m_hs_days) 123 = .ok (.iload 6, 2) := by decide +kernel
theorem d_hs_days_125 : decode (q_cc m_hs_days) 125 = .ok (.iaload, 1) := by decide +kernel
theorem d_hs_days_126 : decode (q_cc m_hs_days) 126 = .ok (.isub, 1) := by decide +kernel
theorem d_hs_days_127 : decode (q_cc m_hs_days) 127 = .ok (.istore_n 3, 1) := by decide +kernel
theorem d_hs_days_128 : decode (q_cc m_hs_days) 128 = .ok (.iinc 4 1, 3) := by decide +kernel
theorem d_hs_days_131 : decode (q_cc m_hs_days) 131 = .ok (.iinc 6 1, 3) := by decide +kernel
theorem d_hs_days_134 : decode (q_cc m_hs_days) 134 = .ok (.goto (-94), 3) := by decide +kernel
theorem d_hs_days_137 : decode (q_cc m_hs_days) 137 = .ok (.iinc 5 1, 3) := by decide +kernel
theorem d_hs_days_140 : decode (q_cc m_hs_days) 140 = .ok (.goto (-109), 3) := by decide +kernel
theorem d_hs_days_143 : decode (q_cc m_hs_days) 143 = .ok (.iload_n 2, 1) := by decide +kernel
theorem d_hs_days_144 : decode (q_cc m_hs_days) 144 = .ok (.ifCond .ne 7, 3) := by decide +kernel
theorem d_hs_days_147 : decode (q_cc m_hs_days) 147 = .ok (.iload_n 3, 1) := by decide +kernel
theorem d_hs_days_148 : decode (q_cc m_hs_days) 148 = .ok (.goto 5, 3) := by decide +kernel
theorem d_hs_days_151 : decode (q_cc m_hs_days) 151 = .ok (.iload 4, 2) := by decide +kernel
theorem d_hs_days_153 : decode (q_cc m_hs_days) 153 = .ok (.ireturn, 1) := by decide +kernel
theorem d_hs_drawOfThousand_0 : decode (q_cc m_hs_drawOfThousand) 0 = .ok (.aload_n 0, 1) := by decide +kernel
theorem d_hs_drawOfThousand_1 : decode (q_cc m_hs_drawOfThousand) 1 = .ok (.ldc2_w 255, 3) := by decide +kernel
theorem d_hs_drawOfThousand_4 : decode (q_cc m_hs_drawOfThousand) 4 = .ok (.aload_n 0, 1) := by decide +kernel
theorem d_hs_drawOfThousand_5 : decode (q_cc m_hs_drawOfThousand) 5 = .ok (.getfield 50, 3) := by decide +kernel
theorem d_hs_drawOfThousand_8 : decode (q_cc m_hs_drawOfThousand) 8 = .ok (.i2l, 1) := by decide +kernel
theorem d_hs_drawOfThousand_9 : decode (q_cc m_hs_drawOfThousand) 9 = .ok (.lmul, 1) := by decide +kernel
theorem d_hs_drawOfThousand_10 : decode (q_cc m_hs_drawOfThousand) 10 = .ok (.ldc2_w 257, 3) := by decide +kernel
theorem d_hs_drawOfThousand_13 : decode (q_cc m_hs_drawOfThousand) 13 = .ok (.ladd, 1) := by decide +kernel
theorem d_hs_drawOfThousand_14 : decode (q_cc m_hs_drawOfThousand) 14 = .ok (.ldc2_w 259, 3) := by decide +kernel
theorem d_hs_drawOfThousand_17 : decode (q_cc m_hs_drawOfThousand) 17 = .ok (.lrem, 1) := by decide +kernel
theorem d_hs_drawOfThousand_18 : decode (q_cc m_hs_drawOfThousand) 18 = .ok (.l2i, 1) := by decide +kernel
theorem d_hs_drawOfThousand_19 : decode (q_cc m_hs_drawOfThousand) 19 = .ok (.putfield 50, 3) := by decide +kernel
theorem d_hs_drawOfThousand_22 : decode (q_cc m_hs_drawOfThousand) 22 = .ok (.aload_n 0, 1) := by decide +kernel
theorem d_hs_drawOfThousand_23 : decode (q_cc m_hs_drawOfThousand) 23 = .ok (.getfield 50, 3) := by decide +kernel
theorem d_hs_drawOfThousand_26 : decode (q_cc m_hs_drawOfThousand) 26 = .ok (.bipush 64, 2) := by decide +kernel
theorem d_hs_drawOfThousand_28 : decode (q_cc m_hs_drawOfThousand) 28 = .ok (.idiv, 1) := by decide +kernel
theorem d_hs_drawOfThousand_29 : decode (q_cc m_hs_drawOfThousand) 29 = .ok (.sipush 1000, 3) := by decide +kernel
theorem d_hs_drawOfThousand_32 : decode (q_cc m_hs_drawOfThousand) 32 = .ok (.irem, 1) := by decide +kernel
theorem d_hs_drawOfThousand_33 : decode (q_cc m_hs_drawOfThousand) 33 = .ok (.ireturn, 1) := by decide +kernel
theorem d_hs_average_0 : decode (q_cc m_hs_average) 0 = .ok (.iconst 0, 1) := by decide +kernel
theorem d_hs_average_1 : decode (q_cc m_hs_average) 1 = .ok (.istore_n 1, 1) := by decide +kernel
theorem d_hs_average_2 : decode (q_cc m_hs_average) 2 = .ok (.iconst 0, 1) := by decide +kernel
theorem d_hs_average_3 : decode (q_cc m_hs_average) 3 = .ok (.istore_n 2, 1) := by decide +kernel
theorem d_hs_average_4 : decode (q_cc m_hs_average) 4 = .ok (.iload_n 2, 1) := by decide +kernel
theorem d_hs_average_5 : decode (q_cc m_hs_average) 5 = .ok (.aload_n 0, 1) := by decide +kernel
theorem d_hs_average_6 : decode (q_cc m_hs_average) 6 = .ok (.getfield 57, 3) := by decide +kernel
theorem d_hs_average_9 : decode (q_cc m_hs_average) 9 = .ok (.getfield 90, 3) := by decide +kernel
theorem d_hs_average_12 : decode (q_cc m_hs_average) 12 = .ok (.iconst 4, 1) := by decide +kernel
theorem d_hs_average_13 : decode (q_cc m_hs_average) 13 = .ok (.iaload, 1) := by decide +kernel
theorem d_hs_average_14 : decode (q_cc m_hs_average) 14 = .ok (.if_icmp .ge 73, 3) := by decide +kernel
theorem d_hs_average_17 : decode (q_cc m_hs_average) 17 = .ok (.aload_n 0, 1) := by decide +kernel
theorem d_hs_average_18 : decode (q_cc m_hs_average) 18 = .ok (.getfield 28, 3) := by decide +kernel
theorem d_hs_average_21 : decode (q_cc m_hs_average) 21 = .ok (.getfield 143, 3) := by decide +kernel
theorem d_hs_average_24 : decode (q_cc m_hs_average) 24 = .ok (.iload_n 2, 1) := by decide +kernel
theorem d_hs_average_25 : decode (q_cc m_hs_average) 25 = .ok (.iaload, 1) := by decide +kernel
theorem d_hs_average_26 : decode (q_cc m_hs_average) 26 = .ok (.istore_n 3, 1) := by decide +kernel
theorem d_hs_average_27 : decode (q_cc m_hs_average) 27 = .ok (.iload_n 3, 1) := by decide +kernel
theorem d_hs_average_28 : decode (q_cc m_hs_average) 28 = .ok (.iconst (-1), 1) := by decide +kernel
theorem d_hs_average_29 : decode (q_cc m_hs_average) 29 = .ok (.if_icmp .eq 52, 3) := by decide +kernel
theorem d_hs_average_32 : decode (q_cc m_hs_average) 32 = .ok (.aload_n 0, 1) := by decide +kernel
theorem d_hs_average_33 : decode (q_cc m_hs_average) 33 = .ok (.getfield 57, 3) := by decide +kernel
theorem d_hs_average_36 : decode (q_cc m_hs_average) 36 = .ok (.getfield 152, 3) := by decide +kernel
theorem d_hs_average_39 : decode (q_cc m_hs_average) 39 = .ok (.iload_n 3, 1) := by decide +kernel
theorem d_hs_average_40 : decode (q_cc m_hs_average) 40 = .ok (.aaload, 1) := by decide +kernel
theorem d_hs_average_41 : decode (q_cc m_hs_average) 41 = .ok (.iload_n 2, 1) := by decide +kernel
theorem d_hs_average_42 : decode (q_cc m_hs_average) 42 = .ok (.iaload, 1) := by decide +kernel
theorem d_hs_average_43 : decode (q_cc m_hs_average) 43 = .ok (.istore 4, 2) := by decide +kernel
theorem d_hs_average_45 : decode (q_cc m_hs_average) 45 = .ok (.iload_n 1, 1) := by decide +kernel
theorem d_hs_average_46 : decode (q_cc m_hs_average) 46 = .ok (.aload_n 0, 1) := by decide +kernel
theorem d_hs_average_47 : decode (q_cc m_hs_average) 47 = .ok (.getfield 57, 3) := by decide +kernel
theorem d_hs_average_50 : decode (q_cc m_hs_average) 50 = .ok (.iload_n 3, 1) := by decide +kernel
theorem d_hs_average_51 : decode (q_cc m_hs_average) 51 = .ok (.iload_n 2, 1) := by decide +kernel
theorem d_hs_average_52 : decode (q_cc m_hs_average) 52 = .ok (.invokevirtual 252, 3) := by decide +kernel
theorem d_hs_average_55 : decode (q_cc m_hs_average) 55 = .ok (.iload 4, 2) := by decide +kernel
theorem d_hs_average_57 : decode (q_cc m_hs_average) 57 = .ok (.imul, 1) := by decide +kernel
theorem d_hs_average_58 : decode (q_cc m_hs_average) 58 = .ok (.iadd, 1) := by decide +kernel
theorem d_hs_average_59 : decode (q_cc m_hs_average) 59 = .ok (.istore_n 1, 1) := by decide +kernel
theorem d_hs_average_60 : decode (q_cc m_hs_average) 60 = .ok (.iload_n 1, 1) := by decide +kernel
theorem d_hs_average_61 : decode (q_cc m_hs_average) 61 = .ok (.aload_n 0, 1) := by decide +kernel
theorem d_hs_average_62 : decode (q_cc m_hs_average) 62 = .ok (.getfield 57, 3) := by decide +kernel
theorem d_hs_average_65 : decode (q_cc m_hs_average) 65 = .ok (.getfield 155, 3) := by decide +kernel
theorem d_hs_average_68 : decode (q_cc m_hs_average) 68 = .ok (.iload_n 3, 1) := by decide +kernel
theorem d_hs_average_69 : decode (q_cc m_hs_average) 69 = .ok (.aaload, 1) := by decide +kernel
theorem d_hs_average_70 : decode (q_cc m_hs_average) 70 = .ok (.iload_n 2, 1) := by decide +kernel
theorem d_hs_average_71 : decode (q_cc m_hs_average) 71 = .ok (.iaload, 1) := by decide +kernel
theorem d_hs_average_72 : decode (q_cc m_hs_average) 72 = .ok (.sipush 1000, 3) := by decide +kernel
theorem d_hs_average_75 : decode (q_cc m_hs_average) 75 = .ok (.iload 4, 2) := by decide +kernel
theorem d_hs_average_77 : decode (q_cc m_hs_average) 77 = .ok (.isub, 1) := by decide +kernel
theorem d_hs_average_78 : decode (q_cc m_hs_average) 78 = .ok (.imul, 1) := by decide +kernel
theorem d_hs_average_79 : decode (q_cc m_hs_average) 79 = .ok (.isub, 1) := by decide +kernel
theorem d_hs_average_80 : decode (q_cc m_hs_average) 80 = .ok (.istore_n 1, 1) := by decide +kernel
theorem d_hs_average_81 : decode (q_cc m_hs_average) 81 = .ok (.iinc 2 1, 3) := by decide +kernel
theorem d_hs_average_84 : decode (q_cc m_hs_average) 84 = .ok (.goto (-80), 3) := by decide +kernel
theorem d_hs_average_87 : decode (q_cc m_hs_average) 87 = .ok (.iload_n 1, 1) := by decide +kernel
theorem d_hs_average_88 : decode (q_cc m_hs_average) 88 = .ok (.ireturn, 1) := by decide +kernel
theorem d_hs_image_0 : decode (q_cc m_hs_image) 0 = .ok (.aload_n 0, 1) := by decide +kernel
theorem d_hs_image_1 : decode (q_cc m_hs_image) 1 = .ok (.getfield 57, 3) := by decide +kernel
theorem d_hs_image_4 : decode (q_cc m_hs_image) 4 = .ok (.getfield 90, 3) := by decide +kernel
theorem d_hs_image_7 : decode (q_cc m_hs_image) 7 = .ok (.iconst 4, 1) := by decide +kernel
theorem d_hs_image_8 : decode (q_cc m_hs_image) 8 = .ok (.iaload, 1) := by decide +kernel
theorem d_hs_image_9 : decode (q_cc m_hs_image) 9 = .ok (.istore_n 1, 1) := by decide +kernel
theorem d_hs_image_10 : decode (q_cc m_hs_image) 10 = .ok (.iconst 0, 1) := by decide +kernel
theorem d_hs_image_11 : decode (q_cc m_hs_image) 11 = .ok (.istore_n 2, 1) := by decide +kernel
theorem d_hs_image_12 : decode (q_cc m_hs_image) 12 = .ok (.iload_n 2, 1) := by decide +kernel
theorem d_hs_image_13 : decode (q_cc m_hs_image) 13 = .ok (.iload_n 1, 1) := by decide +kernel
theorem d_hs_image_14 : decode (q_cc m_hs_image) 14 = .ok (.if_icmp .ge 26, 3) := by decide +kernel
theorem d_hs_image_17 : decode (q_cc m_hs_image) 17 = .ok (.aload_n 0, 1) := by decide +kernel
theorem d_hs_image_18 : decode (q_cc m_hs_image) 18 = .ok (.getfield 46, 3) := by decide +kernel
theorem d_hs_image_21 : decode (q_cc m_hs_image) 21 = .ok (.iload_n 2, 1) := by decide +kernel
theorem d_hs_image_22 : decode (q_cc m_hs_image) 22 = .ok (.aload_n 0, 1) := by decide +kernel
theorem d_hs_image_23 : decode (q_cc m_hs_image) 23 = .ok (.getfield 28, 3) := by decide +kernel
theorem d_hs_image_26 : decode (q_cc m_hs_image) 26 = .ok (.getfield 143, 3) := by decide +kernel
theorem d_hs_image_29 : decode (q_cc m_hs_image) 29 = .ok (.iload_n 2, 1) := by decide +kernel
theorem d_hs_image_30 : decode (q_cc m_hs_image) 30 = .ok (.iaload, 1) := by decide +kernel
theorem d_hs_image_31 : decode (q_cc m_hs_image) 31 = .ok (.iconst 1, 1) := by decide +kernel
theorem d_hs_image_32 : decode (q_cc m_hs_image) 32 = .ok (.iadd, 1) := by decide +kernel
theorem d_hs_image_33 : decode (q_cc m_hs_image) 33 = .ok (.iastore, 1) := by decide +kernel
theorem d_hs_image_34 : decode (q_cc m_hs_image) 34 = .ok (.iinc 2 1, 3) := by decide +kernel
theorem d_hs_image_37 : decode (q_cc m_hs_image) 37 = .ok (.goto (-25), 3) := by decide +kernel
theorem d_hs_image_40 : decode (q_cc m_hs_image) 40 = .ok (.aload_n 0, 1) := by decide +kernel
theorem d_hs_image_41 : decode (q_cc m_hs_image) 41 = .ok (.getfield 46, 3) := by decide +kernel
theorem d_hs_image_44 : decode (q_cc m_hs_image) 44 = .ok (.iload_n 1, 1) := by decide +kernel
theorem d_hs_image_45 : decode (q_cc m_hs_image) 45 = .ok (.aload_n 0, 1) := by decide +kernel
theorem d_hs_image_46 : decode (q_cc m_hs_image) 46 = .ok (.getfield 46, 3) := by decide +kernel
theorem d_hs_image_49 : decode (q_cc m_hs_image) 49 = .ok (.iload_n 1, 1) := by decide +kernel
theorem d_hs_image_50 : decode (q_cc m_hs_image) 50 = .ok (.invokestatic 261, 3) := by decide +kernel
theorem d_hs_image_53 : decode (q_cc m_hs_image) 53 = .ok (.iastore, 1) := by decide +kernel
theorem d_hs_image_54 : decode (q_cc m_hs_image) 54 = .ok (.aload_n 0, 1) := by decide +kernel
theorem d_hs_image_55 : decode (q_cc m_hs_image) 55 = .ok (.iload_n 1, 1) := by decide +kernel
theorem d_hs_image_56 : decode (q_cc m_hs_image) 56 = .ok (.iconst 1, 1) := by decide +kernel
theorem d_hs_image_57 : decode (q_cc m_hs_image) 57 = .ok (.iadd, 1) := by decide +kernel
theorem d_hs_image_58 : decode (q_cc m_hs_image) 58 = .ok (.putfield 265, 3) := by decide +kernel
theorem d_hs_image_61 : decode (q_cc m_hs_image) 61 = .ok (.aload_n 0, 1) := by decide +kernel
theorem d_hs_image_62 : decode (q_cc m_hs_image) 62 = .ok (.getfield 265, 3) := by decide +kernel
theorem d_hs_image_65 : decode (q_cc m_hs_image) 65 = .ok (.ireturn, 1) := by decide +kernel
theorem d_hs_octet_0 : decode (q_cc m_hs_octet) 0 = .ok (.iload_n 1, 1) := by decide +kernel
theorem d_hs_octet_1 : decode (q_cc m_hs_octet) 1 = .ok (.ifCond .lt 20, 3) := by decide +kernel
theorem d_hs_octet_4 : decode (q_cc m_hs_octet) 4 = .ok (.iload_n 1, 1) := by decide +kernel
theorem d_hs_octet_5 : decode (q_cc m_hs_octet) 5 = .ok (.aload_n 0, 1) := by decide +kernel
theorem d_hs_octet_6 : decode (q_cc m_hs_octet) 6 = .ok (.getfield 265, 3) := by decide +kernel
theorem d_hs_octet_9 : decode (q_cc m_hs_octet) 9 = .ok (.if_icmp .ge 12, 3) := by decide +kernel
theorem d_hs_octet_12 : decode (q_cc m_hs_octet) 12 = .ok (.aload_n 0, 1) := by decide +kernel
theorem d_hs_octet_13 : decode (q_cc m_hs_octet) 13 = .ok (.getfield 46, 3) := by decide +kernel
theorem d_hs_octet_16 : decode (q_cc m_hs_octet) 16 = .ok (.iload_n 1, 1) := by decide +kernel
theorem d_hs_octet_17 : decode (q_cc m_hs_octet) 17 = .ok (.iaload, 1) := by decide +kernel
theorem d_hs_octet_18 : decode (q_cc m_hs_octet) 18 = .ok (.goto 4, 3) := by decide +kernel
theorem d_hs_octet_21 : decode (q_cc m_hs_octet) 21 = .ok (.iconst (-1), 1) := by decide +kernel
theorem d_hs_octet_22 : decode (q_cc m_hs_octet) 22 = .ok (.ireturn, 1) := by decide +kernel
theorem d_hs_on_0 : decode (q_cc m_hs_on) 0 = .ok (.aload_n 0, 1) := by decide +kernel
theorem d_hs_on_1 : decode (q_cc m_hs_on) 1 = .ok (.invokevirtual 268, 3) := by decide +kernel
theorem d_hs_on_4 : decode (q_cc m_hs_on) 4 = .ok (.istore_n 1, 1) := by decide +kernel
theorem d_hs_on_5 : decode (q_cc m_hs_on) 5 = .ok (.aload_n 0, 1) := by decide +kernel
theorem d_hs_on_6 : decode (q_cc m_hs_on) 6 = .ok (.getfield 10, 3) := by decide +kernel
theorem d_hs_on_9 : decode (q_cc m_hs_on) 9 = .ok (.iconst 0, 1) := by decide +kernel
theorem d_hs_on_10 : decode (q_cc m_hs_on) 10 = .ok (.putfield 64, 3) := by decide +kernel
theorem d_hs_on_13 : decode (q_cc m_hs_on) 13 = .ok (.iload_n 1, 1) := by decide +kernel
theorem d_hs_on_14 : decode (q_cc m_hs_on) 14 = .ok (.ifCond .ne 5, 3) := by decide +kernel
theorem d_hs_on_17 : decode (q_cc m_hs_on) 17 = .ok (.iconst 0, 1) := by decide +kernel
theorem d_hs_on_18 : decode (q_cc m_hs_on) 18 = .ok (.ireturn, 1) := by decide +kernel
theorem d_hs_on_19 : decode (q_cc m_hs_on) 19 = .ok (.aload_n 0, 1) := by decide +kernel
theorem d_hs_on_20 : decode (q_cc m_hs_on) 20 = .ok (.getfield 28, 3) := by decide +kernel
theorem d_hs_on_23 : decode (q_cc m_hs_on) 23 = .ok (.invokevirtual 78, 3) := by decide +kernel
theorem d_hs_on_26 : decode (q_cc m_hs_on) 26 = .ok (.iconst 0, 1) := by decide +kernel
theorem d_hs_on_27 : decode (q_cc m_hs_on) 27 = .ok (.istore_n 2, 1) := by decide +kernel
theorem d_hs_on_28 : decode (q_cc m_hs_on) 28 = .ok (.iload_n 2, 1) := by decide +kernel
theorem d_hs_on_29 : decode (q_cc m_hs_on) 29 = .ok (.aload_n 0, 1) := by decide +kernel
theorem d_hs_on_30 : decode (q_cc m_hs_on) 30 = .ok (.getfield 57, 3) := by decide +kernel
theorem d_hs_on_33 : decode (q_cc m_hs_on) 33 = .ok (.getfield 90, 3) := by decide +kernel
theorem d_hs_on_36 : decode (q_cc m_hs_on) 36 = .ok (.iconst 4, 1) := by decide +kernel
theorem d_hs_on_37 : decode (q_cc m_hs_on) 37 = .ok (.iaload, 1) := by decide +kernel
theorem d_hs_on_38 : decode (q_cc m_hs_on) 38 = .ok (.if_icmp .ge 29, 3) := by decide +kernel
theorem d_hs_on_41 : decode (q_cc m_hs_on) 41 = .ok (.aload_n 0, 1) := by decide +kernel
theorem d_hs_on_42 : decode (q_cc m_hs_on) 42 = .ok (.getfield 28, 3) := by decide +kernel
theorem d_hs_on_45 : decode (q_cc m_hs_on) 45 = .ok (.getfield 143, 3) := by decide +kernel
theorem d_hs_on_48 : decode (q_cc m_hs_on) 48 = .ok (.iload_n 2, 1) := by decide +kernel
theorem d_hs_on_49 : decode (q_cc m_hs_on) 49 = .ok (.aload_n 0, 1) := by decide +kernel
theorem d_hs_on_50 : decode (q_cc m_hs_on) 50 = .ok (.getfield 10, 3) := by decide +kernel
theorem d_hs_on_53 : decode (q_cc m_hs_on) 53 = .ok (.getfield 271, 3) := by decide +kernel
theorem d_hs_on_56 : decode (q_cc m_hs_on) 56 = .ok (.iload_n 2, 1) := by decide +kernel
theorem d_hs_on_57 : decode (q_cc m_hs_on) 57 = .ok (.iaload, 1) := by decide +kernel
theorem d_hs_on_58 : decode (q_cc m_hs_on) 58 = .ok (.iconst 1, 1) := by decide +kernel
theorem d_hs_on_59 : decode (q_cc m_hs_on) 59 = .ok (.isub, 1) := by decide +kernel
theorem d_hs_on_60 : decode (q_cc m_hs_on) 60 = .ok (.iastore, 1) := by decide +kernel
theorem d_hs_on_61 : decode (q_cc m_hs_on) 61 = .ok (.iinc 2 1, 3) := by decide +kernel
theorem d_hs_on_64 : decode (q_cc m_hs_on) 64 = .ok (.goto (-36), 3) := by decide +kernel
theorem d_hs_on_67 : decode (q_cc m_hs_on) 67 = .ok (.iconst 1, 1) := by decide +kernel
theorem d_hs_on_68 : decode (q_cc m_hs_on) 68 = .ok (.ireturn, 1) := by decide +kernel
theorem d_hs_isImage_0 : decode (q_cc m_hs_isImage) 0 = .ok (.aload_n 0, 1) := by decide +kernel
theorem d_hs_isImage_1 : decode (q_cc m_hs_isImage) 1 = .ok (.getfield 57, 3) := by decide +kernel
theorem d_hs_isImage_4 : decode (q_cc m_hs_isImage) 4 = .ok (.getfield 90, 3) := by decide +kernel
theorem d_hs_isImage_7 : decode (q_cc m_hs_isImage) 7 = .ok (.iconst 4, 1) := by decide +kernel
theorem d_hs_isImage_8 : decode (q_cc m_hs_isImage) 8 = .ok (.iaload, 1) := by decide +kernel
theorem d_hs_isImage_9 : decode (q_cc m_hs_isImage) 9 = .ok (.istore_n 1, 1) := by decide +kernel
theorem d_hs_isImage_10 : decode (q_cc m_hs_isImage) 10 = .ok (.aload_n 0, 1) := by decide +kernel
theorem d_hs_isImage_11 : decode (q_cc m_hs_isImage) 11 = .ok (.getfield 10, 3) := by decide +kernel
theorem d_hs_isImage_14 : decode (q_cc m_hs_isImage) 14 = .ok (.getfield 64, 3) := by decide +kernel
theorem d_hs_isImage_17 : decode (q_cc m_hs_isImage) 17 = .ok (.iload_n 1, 1) := by decide +kernel
theorem d_hs_isImage_18 : decode (q_cc m_hs_isImage) 18 = .ok (.iconst 1, 1) := by decide +kernel
theorem d_hs_isImage_19 : decode (q_cc m_hs_isImage) 19 = .ok (.iadd, 1) := by decide +kernel
theorem d_hs_isImage_20 : decode (q_cc m_hs_isImage) 20 = .ok (.if_icmp .ne 26, 3) := by decide +kernel
theorem d_hs_isImage_23 : decode (q_cc m_hs_isImage) 23 = .ok (.aload_n 0, 1) := by decide +kernel
theorem d_hs_isImage_24 : decode (q_cc m_hs_isImage) 24 = .ok (.getfield 10, 3) := by decide +kernel
theorem d_hs_isImage_27 : decode (q_cc m_hs_isImage) 27 = .ok (.getfield 271, 3) := by decide +kernel
theorem d_hs_isImage_30 : decode (q_cc m_hs_isImage) 30 = .ok (.iload_n 1, 1) := by decide +kernel
theorem d_hs_isImage_31 : decode (q_cc m_hs_isImage) 31 = .ok (.iaload, 1) := by decide +kernel
theorem d_hs_isImage_32 : decode (q_cc m_hs_isImage) 32 = .ok (.aload_n 0, 1) := by decide +kernel
theorem d_hs_isImage_33 : decode (q_cc m_hs_isImage) 33 = .ok (.getfield 10, 3) := by decide +kernel
theorem d_hs_isImage_36 : decode (q_cc m_hs_isImage) 36 = .ok (.getfield 271, 3) := by decide +kernel
theorem d_hs_isImage_39 : decode (q_cc m_hs_isImage) 39 = .ok (.iload_n 1, 1) := by decide +kernel
theorem d_hs_isImage_40 : decode (q_cc m_hs_isImage) 40 = .ok (.invokestatic 261, 3) := by decide +kernel
theorem d_hs_isImage_43 : decode (q_cc m_hs_isImage) 43 = .ok (.if_icmp .eq 5, 3) := by decide +kernel
theorem d_hs_isImage_46 : decode (q_cc m_hs_isImage) 46 = .ok (.iconst 0, 1) := by decide +kernel
theorem d_hs_isImage_47 : decode (q_cc m_hs_isImage) 47 = .ok (.ireturn, 1) := by decide +kernel
theorem d_hs_isImage_48 : decode (q_cc m_hs_isImage) 48 = .ok (.iconst 0, 1) := by decide +kernel
theorem d_hs_isImage_49 : decode (q_cc m_hs_isImage) 49 = .ok (.istore_n 2, 1) := by decide +kernel
theorem d_hs_isImage_50 : decode (q_cc m_hs_isImage) 50 = .ok (.iload_n 2, 1) := by decide +kernel
theorem d_hs_isImage_51 : decode (q_cc m_hs_isImage) 51 = .ok (.iload_n 1, 1) := by decide +kernel
theorem d_hs_isImage_52 : decode (q_cc m_hs_isImage) 52 = .ok (.if_icmp .ge 47, 3) := by decide +kernel
theorem d_hs_isImage_55 : decode (q_cc m_hs_isImage) 55 = .ok (.aload_n 0, 1) := by decide +kernel
theorem d_hs_isImage_56 : decode (q_cc m_hs_isImage) 56 = .ok (.getfield 10, 3) := by decide +kernel
theorem d_hs_isImage_59 : decode (q_cc m_hs_isImage) 59 = .ok (.getfield 271, 3) := by decide +kernel
theorem d_hs_isImage_62 : decode (q_cc m_hs_isImage) 62 = .ok (.iload_n 2, 1) := by decide +kernel
theorem d_hs_isImage_63 : decode (q_cc m_hs_isImage) 63 = .ok (.iaload, 1) := by decide +kernel
theorem d_hs_isImage_64 : decode (q_cc m_hs_isImage) 64 = .ok (.istore_n 3, 1) := by decide +kernel
theorem d_hs_isImage_65 : decode (q_cc m_hs_isImage) 65 = .ok (.iload_n 3, 1) := by decide +kernel
theorem d_hs_isImage_66 : decode (q_cc m_hs_isImage) 66 = .ok (.aload_n 0, 1) := by decide +kernel
theorem d_hs_isImage_67 : decode (q_cc m_hs_isImage) 67 = .ok (.getfield 57, 3) := by decide +kernel
theorem d_hs_isImage_70 : decode (q_cc m_hs_isImage) 70 = .ok (.getfield 90, 3) := by decide +kernel
theorem d_hs_isImage_73 : decode (q_cc m_hs_isImage) 73 = .ok (.iconst 2, 1) := by decide +kernel
theorem d_hs_isImage_74 : decode (q_cc m_hs_isImage) 74 = .ok (.iaload, 1) := by decide +kernel
theorem d_hs_isImage_75 : decode (q_cc m_hs_isImage) 75 = .ok (.if_icmp .gt 16, 3) := by decide +kernel
theorem d_hs_isImage_78 : decode (q_cc m_hs_isImage) 78 = .ok (.iload_n 3, 1) := by decide +kernel
theorem d_hs_isImage_79 : decode (q_cc m_hs_isImage) 79 = .ok (.ifCond .le 14, 3) := by decide +kernel
theorem d_hs_isImage_82 : decode (q_cc m_hs_isImage) 82 = .ok (.aload_n 0, 1) := by decide +kernel
theorem d_hs_isImage_83 : decode (q_cc m_hs_isImage) 83 = .ok (.iload_n 2, 1) := by decide +kernel
theorem d_hs_isImage_84 : decode (q_cc m_hs_isImage) 84 = .ok (.iload_n 1, 1) := by decide +kernel
theorem d_hs_isImage_85 : decode (q_cc m_hs_isImage) 85 = .ok (.invokevirtual 274, 3) := by decide +kernel
theorem d_hs_isImage_88 : decode (q_cc m_hs_isImage) 88 = .ok (.ifCond .ne 5, 3) := by decide +kernel
theorem d_hs_isImage_91 : decode (q_cc m_hs_isImage) 91 = .ok (.iconst 0, 1) := by decide +kernel
theorem d_hs_isImage_92 : decode (q_cc m_hs_isImage) 92 = .ok (.ireturn, 1) := by decide +kernel
theorem d_hs_isImage_93 : decode (q_cc m_hs_isImage) 93 = .ok (.iinc 2 1, 3) := by decide +kernel
theorem d_hs_isImage_96 : decode (q_cc m_hs_isImage) 96 = .ok (.goto (-46), 3) := by decide +kernel
theorem d_hs_isImage_99 : decode (q_cc m_hs_isImage) 99 = .ok (.iconst 1, 1) := by decide +kernel
theorem d_hs_isImage_100 : decode (q_cc m_hs_isImage) 100 = .ok (.ireturn, 1) := by decide +kernel
theorem d_hs_meetsAllTold_0 : decode (q_cc m_hs_meetsAllTold) 0 = .ok (.iconst 0, 1) := by decide +kernel
theorem d_hs_meetsAllTold_1 : decode (q_cc m_hs_meetsAllTold) 1 = .ok (.istore_n 3, 1) := by decide +kernel
theorem d_hs_meetsAllTold_2 : decode (q_cc m_hs_meetsAllTold) 2 = .ok (.iload_n 3, 1) := by decide +kernel
theorem d_hs_meetsAllTold_3 : decode (q_cc m_hs_meetsAllTold) 3 = .ok (.iload_n 2, 1) := by decide +kernel
theorem d_hs_meetsAllTold_4 : decode (q_cc m_hs_meetsAllTold) 4 = .ok (.if_icmp .ge 60, 3) := by decide +kernel
theorem d_hs_meetsAllTold_7 : decode (q_cc m_hs_meetsAllTold) 7 = .ok (.aload_n 0, 1) := by decide +kernel
theorem d_hs_meetsAllTold_8 : decode (q_cc m_hs_meetsAllTold) 8 = .ok (.getfield 10, 3) := by decide +kernel
theorem d_hs_meetsAllTold_11 : decode (q_cc m_hs_meetsAllTold) 11 = .ok (.getfield 271, 3) := by decide +kernel
theorem d_hs_meetsAllTold_14 : decode (q_cc m_hs_meetsAllTold) 14 = .ok (.iload_n 3, 1) := by decide +kernel
theorem d_hs_meetsAllTold_15 : decode (q_cc m_hs_meetsAllTold) 15 = .ok (.iaload, 1) := by decide +kernel
theorem d_hs_meetsAllTold_16 : decode (q_cc m_hs_meetsAllTold) 16 = .ok (.aload_n 0, 1) := by decide +kernel
theorem d_hs_meetsAllTold_17 : decode (q_cc m_hs_meetsAllTold) 17 = .ok (.getfield 10, 3) := by decide +kernel
theorem d_hs_meetsAllTold_20 : decode (q_cc m_hs_meetsAllTold) 20 = .ok (.getfield 271, 3) := by decide +kernel
theorem d_hs_meetsAllTold_23 : decode (q_cc m_hs_meetsAllTold) 23 = .ok (.iload_n 1, 1) := by decide +kernel
theorem d_hs_meetsAllTold_24 : decode (q_cc m_hs_meetsAllTold) 24 = .ok (.iaload, 1) := by decide +kernel
theorem d_hs_meetsAllTold_25 : decode (q_cc m_hs_meetsAllTold) 25 = .ok (.if_icmp .ne 7, 3) := by decide +kernel
theorem d_hs_meetsAllTold_28 : decode (q_cc m_hs_meetsAllTold) 28 = .ok (.iconst 1, 1) := by decide +kernel
theorem d_hs_meetsAllTold_29 : decode (q_cc m_hs_meetsAllTold) 29 = .ok (.goto 4, 3) := by decide +kernel
theorem d_hs_meetsAllTold_32 : decode (q_cc m_hs_meetsAllTold) 32 = .ok (.iconst 0, 1) := by decide +kernel
theorem d_hs_meetsAllTold_33 : decode (q_cc m_hs_meetsAllTold) 33 = .ok (.istore 4, 2) := by decide +kernel
theorem d_hs_meetsAllTold_35 : decode (q_cc m_hs_meetsAllTold) 35 = .ok (.iload 4, 2) := by decide +kernel
theorem d_hs_meetsAllTold_37 : decode (q_cc m_hs_meetsAllTold) 37 = .ok (.ifCond .eq 21, 3) := by decide +kernel
theorem d_hs_meetsAllTold_40 : decode (q_cc m_hs_meetsAllTold) 40 = .ok (.aload_n 0, 1) := by decide +kernel
theorem d_hs_meetsAllTold_41 : decode (q_cc m_hs_meetsAllTold) 41 = .ok (.getfield 57, 3) := by decide +kernel
theorem d_hs_meetsAllTold_44 : decode (q_cc m_hs_meetsAllTold) 44 = .ok (.getfield 171, 3) := by decide +kernel
theorem d_hs_meetsAllTold_47 : decode (q_cc m_hs_meetsAllTold) 47 = .ok (.iload_n 1, 1) := by decide +kernel
theorem d_hs_meetsAllTold_48 : decode (q_cc m_hs_meetsAllTold) 48 = .ok (.iaload, 1) := by decide +kernel
theorem d_hs_meetsAllTold_49 : decode (q_cc m_hs_meetsAllTold) 49 = .ok (.iload_n 3, 1) := by decide +kernel
theorem d_hs_meetsAllTold_50 : decode (q_cc m_hs_meetsAllTold) 50 = .ok (.ishr, 1) := by decide +kernel
theorem d_hs_meetsAllTold_51 : decode (q_cc m_hs_meetsAllTold) 51 = .ok (.iconst 1, 1) := by decide +kernel
theorem d_hs_meetsAllTold_52 : decode (q_cc m_hs_meetsAllTold) 52 = .ok (.iand, 1) := by decide +kernel
theorem d_hs_meetsAllTold_53 : decode (q_cc m_hs_meetsAllTold) 53 = .ok (.ifCond .ne 5, 3) := by decide +kernel
theorem d_hs_meetsAllTold_56 : decode (q_cc m_hs_meetsAllTold) 56 = .ok (.iconst 0, 1) := by decide +kernel
theorem d_hs_meetsAllTold_57 : decode (q_cc m_hs_meetsAllTold) 57 = .ok (.ireturn, 1) := by decide +kernel
theorem d_hs_meetsAllTold_58 : decode (q_cc m_hs_meetsAllTold) 58 = .ok (.iinc 3 1, 3) := by decide +kernel
theorem d_hs_meetsAllTold_61 : decode (q_cc m_hs_meetsAllTold) 61 = .ok (.goto (-59), 3) := by decide +kernel
theorem d_hs_meetsAllTold_64 : decode (q_cc m_hs_meetsAllTold) 64 = .ok (.iconst 1, 1) := by decide +kernel
theorem d_hs_meetsAllTold_65 : decode (q_cc m_hs_meetsAllTold) 65 = .ok (.ireturn, 1) := by decide +kernel
theorem d_hs_checkByte_0 : decode (q_cc m_hs_checkByte) 0 = .ok (.bipush 73, 2) := by decide +kernel
theorem d_hs_checkByte_2 : decode (q_cc m_hs_checkByte) 2 = .ok (.istore_n 2, 1) := by decide +kernel
theorem d_hs_checkByte_3 : decode (q_cc m_hs_checkByte) 3 = .ok (.iconst 0, 1) := by decide +kernel
theorem d_hs_checkByte_4 : decode (q_cc m_hs_checkByte) 4 = .ok (.istore_n 3, 1) := by decide +kernel
theorem d_hs_checkByte_5 : decode (q_cc m_hs_checkByte) 5 = .ok (.iload_n 3, 1) := by decide +kernel
theorem d_hs_checkByte_6 : decode (q_cc m_hs_checkByte) 6 = .ok (.iload_n 1, 1) := by decide +kernel
theorem d_hs_checkByte_7 : decode (q_cc m_hs_checkByte) 7 = .ok (.if_icmp .ge 22, 3) := by decide +kernel
theorem d_hs_checkByte_10 : decode (q_cc m_hs_checkByte) 10 = .ok (.bipush 7, 2) := by decide +kernel
theorem d_hs_checkByte_12 : decode (q_cc m_hs_checkByte) 12 = .ok (.iload_n 2, 1) := by decide +kernel
theorem d_hs_checkByte_13 : decode (q_cc m_hs_checkByte) 13 = .ok (.imul, 1) := by decide +kernel
theorem d_hs_checkByte_14 : decode (q_cc m_hs_checkByte) 14 = .ok (.aload_n 0, 1) := by decide +kernel
theorem d_hs_checkByte_15 : decode (q_cc m_hs_checkByte) 15 = .ok (.iload_n 3, 1) := by decide +kernel
theorem d_hs_checkByte_16 : decode (q_cc m_hs_checkByte) 16 = .ok (.iaload, 1) := by decide +kernel
theorem d_hs_checkByte_17 : decode (q_cc m_hs_checkByte) 17 = .ok (.iadd, 1) := by decide +kernel
theorem d_hs_checkByte_18 : decode (q_cc m_hs_checkByte) 18 = .ok (.sipush 251, 3) := by decide +kernel
theorem d_hs_checkByte_21 : decode (q_cc m_hs_checkByte) 21 = .ok (.irem, 1) := by decide +kernel
theorem d_hs_checkByte_22 : decode (q_cc m_hs_checkByte) 22 = .ok (.istore_n 2, 1) := by decide +kernel
theorem d_hs_checkByte_23 : decode (q_cc m_hs_checkByte) 23 = .ok (.iinc 3 1, 3) := by decide +kernel
theorem d_hs_checkByte_26 : decode (q_cc m_hs_checkByte) 26 = .ok (.goto (-21), 3) := by decide +kernel
theorem d_hs_checkByte_29 : decode (q_cc m_hs_checkByte) 29 = .ok (.iload_n 2, 1) := by decide +kernel
theorem d_hs_checkByte_30 : decode (q_cc m_hs_checkByte) 30 = .ok (.ireturn, 1) := by decide +kernel
theorem d_hs_isSighting_0 : decode (q_cc m_hs_isSighting) 0 = .ok (.aload_n 0, 1) := by decide +kernel
theorem d_hs_isSighting_1 : decode (q_cc m_hs_isSighting) 1 = .ok (.getfield 57, 3) := by decide +kernel
theorem d_hs_isSighting_4 : decode (q_cc m_hs_isSighting) 4 = .ok (.iconst 4, 1) := by decide +kernel
theorem d_hs_isSighting_5 : decode (q_cc m_hs_isSighting) 5 = .ok (.iload_n 1, 1) := by decide +kernel
theorem d_hs_isSighting_6 : decode (q_cc m_hs_isSighting) 6 = .ok (.invokevirtual 112, 3) := by decide +kernel
theorem d_hs_isSighting_9 : decode (q_cc m_hs_isSighting) 9 = .ok (.ireturn, 1) := by decide +kernel
theorem d_hs_isShade_0 : decode (q_cc m_hs_isShade) 0 = .ok (.aload_n 0, 1) := by decide +kernel
theorem d_hs_isShade_1 : decode (q_cc m_hs_isShade) 1 = .ok (.getfield 57, 3) := by decide +kernel
theorem d_hs_isShade_4 : decode (q_cc m_hs_isShade) 4 = .ok (.iconst 2, 1) := by decide +kernel
theorem d_hs_isShade_5 : decode (q_cc m_hs_isShade) 5 = .ok (.iload_n 1, 1) := by decide +kernel
theorem d_hs_isShade_6 : decode (q_cc m_hs_isShade) 6 = .ok (.invokevirtual 112, 3) := by decide +kernel
theorem d_hs_isShade_9 : decode (q_cc m_hs_isShade) 9 = .ok (.ireturn, 1) := by decide +kernel
theorem d_hs_isPlaceAndHour_0 : decode (q_cc m_hs_isPlaceAndHour) 0 = .ok (.aload_n 0, 1) := by decide +kernel
theorem d_hs_isPlaceAndHour_1 : decode (q_cc m_hs_isPlaceAndHour) 1 = .ok (.getfield 57, 3) := by decide +kernel
theorem d_hs_isPlaceAndHour_4 : decode (q_cc m_hs_isPlaceAndHour) 4 = .ok (.iconst 3, 1) := by decide +kernel
theorem d_hs_isPlaceAndHour_5 : decode (q_cc m_hs_isPlaceAndHour) 5 = .ok (.iload_n 1, 1) := by decide +kernel
theorem d_hs_isPlaceAndHour_6 : decode (q_cc m_hs_isPlaceAndHour) 6 = .ok (.invokevirtual 112, 3) := by decide +kernel
theorem d_hs_isPlaceAndHour_9 : decode (q_cc m_hs_isPlaceAndHour) 9 = .ok (.ifCond .eq 17, 3) := by decide +kernel
theorem d_hs_isPlaceAndHour_12 : decode (q_cc m_hs_isPlaceAndHour) 12 = .ok (.iload_n 2, 1) := by decide +kernel
theorem d_hs_isPlaceAndHour_13 : decode (q_cc m_hs_isPlaceAndHour) 13 = .ok (.ifCond .lt 13, 3) := by decide +kernel
theorem d_hs_isPlaceAndHour_16 : decode (q_cc m_hs_isPlaceAndHour) 16 = .ok (.iload_n 2, 1) := by decide +kernel
theorem d_hs_isPlaceAndHour_17 : decode (q_cc m_hs_isPlaceAndHour) 17 = .ok (.bipush 99, 2) := by decide +kernel
theorem d_hs_isPlaceAndHour_19 : decode (q_cc m_hs_isPlaceAndHour) 19 = .ok (.if_icmp .gt 7, 3) := by decide +kernel
theorem d_hs_isPlaceAndHour_22 : decode (q_cc m_hs_isPlaceAndHour) 22 = .ok (.iconst 1, 1) := by decide +kernel
theorem d_hs_isPlaceAndHour_23 : decode (q_cc m_hs_isPlaceAndHour) 23 = .ok (.goto 4, 3) := by decide +kernel
theorem d_hs_isPlaceAndHour_26 : decode (q_cc m_hs_isPlaceAndHour) 26 = .ok (.iconst 0, 1) := by decide +kernel
theorem d_hs_isPlaceAndHour_27 : decode (q_cc m_hs_isPlaceAndHour) 27 = .ok (.ireturn, 1) := by decide +kernel
theorem d_hs_heldBy_0 : decode (q_cc m_hs_heldBy) 0 = .ok (.aload_n 0, 1) := by decide +kernel
theorem d_hs_heldBy_1 : decode (q_cc m_hs_heldBy) 1 = .ok (.getfield 28, 3) := by decide +kernel
theorem d_hs_heldBy_4 : decode (q_cc m_hs_heldBy) 4 = .ok (.iload_n 1, 1) := by decide +kernel
theorem d_hs_heldBy_5 : decode (q_cc m_hs_heldBy) 5 = .ok (.aload_n 0, 1) := by decide +kernel
theorem d_hs_heldBy_6 : decode (q_cc m_hs_heldBy) 6 = .ok (.getfield 57, 3) := by decide +kernel
theorem d_hs_heldBy_9 : decode (q_cc m_hs_heldBy) 9 = .ok (.getfield 90, 3) := by decide +kernel
theorem d_hs_heldBy_12 : decode (q_cc m_hs_heldBy) 12 = .ok (.iconst 4, 1) := by decide +kernel
theorem d_hs_heldBy_13 : decode (q_cc m_hs_heldBy) 13 = .ok (.iaload, 1) := by decide +kernel
theorem d_hs_heldBy_14 : decode (q_cc m_hs_heldBy) 14 = .ok (.invokevirtual 277, 3) := by decide +kernel
theorem d_hs_heldBy_17 : decode (q_cc m_hs_heldBy) 17 = .ok (.ireturn, 1) := by decide +kernel
theorem d_hs_unhired_0 : decode (q_cc m_hs_unhired) 0 = .ok (.aload_n 0, 1) := by decide +kernel
theorem d_hs_unhired_1 : decode (q_cc m_hs_unhired) 1 = .ok (.iconst (-1), 1) := by decide +kernel
theorem d_hs_unhired_2 : decode (q_cc m_hs_unhired) 2 = .ok (.invokevirtual 168, 3) := by decide +kernel
theorem d_hs_unhired_5 : decode (q_cc m_hs_unhired) 5 = .ok (.ireturn, 1) := by decide +kernel
theorem d_hs_unhiredOf_0 : decode (q_cc m_hs_unhiredOf) 0 = .ok (.aload_n 0, 1) := by decide +kernel
theorem d_hs_unhiredOf_1 : decode (q_cc m_hs_unhiredOf) 1 = .ok (.invokevirtual 100, 3) := by decide +kernel
theorem d_hs_unhiredOf_4 : decode (q_cc m_hs_unhiredOf) 4 = .ok (.aload_n 0, 1) := by decide +kernel
theorem d_hs_unhiredOf_5 : decode (q_cc m_hs_unhiredOf) 5 = .ok (.getfield 57, 3) := by decide +kernel
theorem d_hs_unhiredOf_8 : decode (q_cc m_hs_unhiredOf) 8 = .ok (.iload_n 1, 1) := by decide +kernel
theorem d_hs_unhiredOf_9 : decode (q_cc m_hs_unhiredOf) 9 = .ok (.invokevirtual 280, 3) := by decide +kernel
theorem d_hs_unhiredOf_12 : decode (q_cc m_hs_unhiredOf) 12 = .ok (.iand, 1) := by decide +kernel
theorem d_hs_unhiredOf_13 : decode (q_cc m_hs_unhiredOf) 13 = .ok (.ireturn, 1) := by decide +kernel
theorem d_hs_nthOf_0 : decode (q_cc m_hs_nthOf) 0 = .ok (.iload_n 1, 1) := by decide +kernel
theorem d_hs_nthOf_1 : decode (q_cc m_hs_nthOf) 1 = .ok (.istore_n 2, 1) := by decide +kernel
theorem d_hs_nthOf_2 : decode (q_cc m_hs_nthOf) 2 = .ok (.iconst 0, 1) := by decide +kernel
theorem d_hs_nthOf_3 : decode (q_cc m_hs_nthOf) 3 = .ok (.istore_n 3, 1) := by decide +kernel
theorem d_hs_nthOf_4 : decode (q_cc m_hs_nthOf) 4 = .ok (.iload_n 3, 1) := by decide +kernel
theorem d_hs_nthOf_5 : decode (q_cc m_hs_nthOf) 5 = .ok (.bipush 24, 2) := by decide +kernel
theorem d_hs_nthOf_7 : decode (q_cc m_hs_nthOf) 7 = .ok (.if_icmp .ge 27, 3) := by decide +kernel
theorem d_hs_nthOf_10 : decode (q_cc m_hs_nthOf) 10 = .ok (.iload_n 0, 1) := by decide +kernel
theorem d_hs_nthOf_11 : decode (q_cc m_hs_nthOf) 11 = .ok (.iload_n 3, 1) := by decide +kernel
theorem d_hs_nthOf_12 : decode (q_cc m_hs_nthOf) 12 = .ok (.ishr, 1) := by decide +kernel
theorem d_hs_nthOf_13 : decode (q_cc m_hs_nthOf) 13 = .ok (.iconst 1, 1) := by decide +kernel
theorem d_hs_nthOf_14 : decode (q_cc m_hs_nthOf) 14 = .ok (.iand, 1) := by decide +kernel
theorem d_hs_nthOf_15 : decode (q_cc m_hs_nthOf) 15 = .ok (.iconst 1, 1) := by decide +kernel
theorem d_hs_nthOf_16 : decode (q_cc m_hs_nthOf) 16 = .ok (.if_icmp .ne 12, 3) := by decide +kernel
theorem d_hs_nthOf_19 : decode (q_cc m_hs_nthOf) 19 = .ok (.iload_n 2, 1) := by decide +kernel
theorem d_hs_nthOf_20 : decode (q_cc m_hs_nthOf) 20 = .ok (.ifCond .ne 5, 3) := by decide +kernel
theorem d_hs_nthOf_23 : decode (q_cc m_hs_nthOf) 23 = .ok (.iload_n 3, 1) := by decide +kernel
theorem d_hs_nthOf_24 : decode (q_cc m_hs_nthOf) 24 = .ok (.ireturn, 1) := by decide +kernel
theorem d_hs_nthOf_25 : decode (q_cc m_hs_nthOf) 25 = .ok (.iinc 2 (-1), 3) := by decide +kernel
theorem d_hs_nthOf_28 : decode (q_cc m_hs_nthOf) 28 = .ok (.iinc 3 1, 3) := by decide +kernel
theorem d_hs_nthOf_31 : decode (q_cc m_hs_nthOf) 31 = .ok (.goto (-27), 3) := by decide +kernel
theorem d_hs_nthOf_34 : decode (q_cc m_hs_nthOf) 34 = .ok (.iconst (-1), 1) := by decide +kernel
theorem d_hs_nthOf_35 : decode (q_cc m_hs_nthOf) 35 = .ok (.ireturn, 1) := by decide +kernel
theorem d_mo_init_0 : decode (q_cc m_mo_init) 0 = .ok (.aload_n 0, 1) := by decide +kernel
theorem d_mo_init_1 : decode (q_cc m_mo_init) 1 = .ok (.invokespecial 1, 3) := by decide +kernel
theorem d_mo_init_4 : decode (q_cc m_mo_init) 4 = .ok (.aload_n 0, 1) := by decide +kernel
theorem d_mo_init_5 : decode (q_cc m_mo_init) 5 = .ok (.sipush 1600, 3) := by decide +kernel
theorem d_mo_init_8 : decode (q_cc m_mo_init) 8 = .ok (.newarray .int, 2) := by decide +kernel
theorem d_mo_init_10 : decode (q_cc m_mo_init) 10 = .ok (.putfield 7, 3) := by decide +kernel
theorem d_mo_init_13 : decode (q_cc m_mo_init) 13 = .ok (.aload_n 0, 1) := by decide +kernel
theorem d_mo_init_14 : decode (q_cc m_mo_init) 14 = .ok (.iconst (-1), 1) := by decide +kernel
theorem d_mo_init_15 : decode (q_cc m_mo_init) 15 = .ok (.putfield 13, 3) := by decide +kernel
theorem d_mo_init_18 : decode (q_cc m_mo_init) 18 = .ok (.aload_n 0, 1) := by decide +kernel
theorem d_mo_init_19 : decode (q_cc m_mo_init) 19 = .ok (.bipush 6, 2) := by decide +kernel
theorem d_mo_init_21 : decode (q_cc m_mo_init) 21 = .ok (.newarray .char, 2) := by decide +kernel
theorem d_mo_init_23 : decode (q_cc m_mo_init) 23 = .ok (.dup, 1) := by decide +kernel
theorem d_mo_init_24 : decode (q_cc m_mo_init) 24 = .ok (.iconst 0, 1) := by decide +kernel
theorem d_mo_init_25 : decode (q_cc m_mo_init) 25 = .ok (.bipush 116, 2) := by decide +kernel
theorem d_mo_init_27 : decode (q_cc m_mo_init) 27 = .ok (.castore, 1) := by decide +kernel
theorem d_mo_init_28 : decode (q_cc m_mo_init) 28 = .ok (.dup, 1) := by decide +kernel
theorem d_mo_init_29 : decode (q_cc m_mo_init) 29 = .ok (.iconst 1, 1) := by decide +kernel
theorem d_mo_init_30 : decode (q_cc m_mo_init) 30 = .ok (.bipush 114, 2) := by decide +kernel
theorem d_mo_init_32 : decode (q_cc m_mo_init) 32 = .ok (.castore, 1) := by decide +kernel
theorem d_mo_init_33 : decode (q_cc m_mo_init) 33 = .ok (.dup, 1) := by decide +kernel
theorem d_mo_init_34 : decode (q_cc m_mo_init) 34 = .ok (.iconst 2, 1) := by decide +kernel
theorem d_mo_init_35 : decode (q_cc m_mo_init) 35 = .ok (.bipush 97, 2) := by decide +kernel
theorem d_mo_init_37 : decode (q_cc m_mo_init) 37 = .ok (.castore, 1) := by decide +kernel
theorem d_mo_init_38 : decode (q_cc m_mo_init) 38 = .ok (.dup, 1) := by decide +kernel
theorem d_mo_init_39 : decode (q_cc m_mo_init) 39 = .ok (.iconst 3, 1) := by decide +kernel
theorem d_mo_init_40 : decode (q_cc m_mo_init) 40 = .ok (.bipush 105, 2) := by decide +kernel
theorem d_mo_init_42 : decode (q_cc m_mo_init) 42 = .ok (.castore, 1) := by decide +kernel
theorem d_mo_init_43 : decode (q_cc m_mo_init) 43 = .ok (.dup, 1) := by decide +kernel
theorem d_mo_init_44 : decode (q_cc m_mo_init) 44 = .ok (.iconst 4, 1) := by decide +kernel
theorem d_mo_init_45 : decode (q_cc m_mo_init) 45 = .ok (.bipush 116, 2) := by decide +kernel
theorem d_mo_init_47 : decode (q_cc m_mo_init) 47 = .ok (.castore, 1) := by decide +kernel
theorem d_mo_init_48 : decode (q_cc m_mo_init) 48 = .ok (.dup, 1) := by decide +kernel
theorem d_mo_init_49 : decode (q_cc m_mo_init) 49 = .ok (.iconst 5, 1) := by decide +kernel
theorem d_mo_init_50 : decode (q_cc m_mo_init) 50 = .ok (.bipush 115, 2) := by decide +kernel
theorem d_mo_init_52 : decode (q_cc m_mo_init) 52 = .ok (.castore, 1) := by decide +kernel
theorem d_mo_init_53 : decode (q_cc m_mo_init) 53 = .ok (.putfield 17, 3) := by decide +kernel
theorem d_mo_init_56 : decode (q_cc m_mo_init) 56 = .ok (.aload_n 0, 1) := by decide +kernel
theorem d_mo_init_57 : decode (q_cc m_mo_init) 57 = .ok (.bipush 6, 2) := by decide +kernel
theorem d_mo_init_59 : decode (q_cc m_mo_init) 59 = .ok (.newarray .char, 2) := by decide +kernel
theorem d_mo_init_61 : decode (q_cc m_mo_init) 61 = .ok (.dup, 1) := by decide +kernel
theorem d_mo_init_62 : decode (q_cc m_mo_init) 62 = .ok (.iconst 0, 1) := by decide +kernel
theorem d_mo_init_63 : decode (q_cc m_mo_init) 63 = .ok (.bipush 112, 2) := by decide +kernel
theorem d_mo_init_65 : decode (q_cc m_mo_init) 65 = .ok (.castore, 1) := by decide +kernel
theorem d_mo_init_66 : decode (q_cc m_mo_init) 66 = .ok (.dup, 1) := by decide +kernel
theorem d_mo_init_67 : decode (q_cc m_mo_init) 67 = .ok (.iconst 1, 1) := by decide +kernel
theorem d_mo_init_68 : decode (q_cc m_mo_init) 68 = .ok (.bipush 101, 2) := by decide +kernel
theorem d_mo_init_70 : decode (q_cc m_mo_init) 70 = .ok (.castore, 1) := by decide +kernel
theorem d_mo_init_71 : decode (q_cc m_mo_init) 71 = .ok (.dup, 1) := by decide +kernel
theorem d_mo_init_72 : decode (q_cc m_mo_init) 72 = .ok (.iconst 2, 1) := by decide +kernel
theorem d_mo_init_73 : decode (q_cc m_mo_init) 73 = .ok (.bipush 114, 2) := by decide +kernel
theorem d_mo_init_75 : decode (q_cc m_mo_init) 75 = .ok (.castore, 1) := by decide +kernel
theorem d_mo_init_76 : decode (q_cc m_mo_init) 76 = .ok (.dup, 1) := by decide +kernel
theorem d_mo_init_77 : decode (q_cc m_mo_init) 77 = .ok (.iconst 3, 1) := by decide +kernel
theorem d_mo_init_78 : decode (q_cc m_mo_init) 78 = .ok (.bipush 115, 2) := by decide +kernel
theorem d_mo_init_80 : decode (q_cc m_mo_init) 80 = .ok (.castore, 1) := by decide +kernel
theorem d_mo_init_81 : decode (q_cc m_mo_init) 81 = .ok (.dup, 1) := by decide +kernel
theorem d_mo_init_82 : decode (q_cc m_mo_init) 82 = .ok (.iconst 4, 1) := by decide +kernel
theorem d_mo_init_83 : decode (q_cc m_mo_init) 83 = .ok (.bipush 111, 2) := by decide +kernel
theorem d_mo_init_85 : decode (q_cc m_mo_init) 85 = .ok (.castore, 1) := by decide +kernel
theorem d_mo_init_86 : decode (q_cc m_mo_init) 86 = .ok (.dup, 1) := by decide +kernel
theorem d_mo_init_87 : decode (q_cc m_mo_init) 87 = .ok (.iconst 5, 1) := by decide +kernel
theorem d_mo_init_88 : decode (q_cc m_mo_init) 88 = .ok (.bipush 110, 2) := by decide +kernel
theorem d_mo_init_90 : decode (q_cc m_mo_init) 90 = .ok (.castore, 1) := by decide +kernel
theorem d_mo_init_91 : decode (q_cc m_mo_init) 91 = .ok (.putfield 21, 3) := by decide +kernel
theorem d_mo_init_94 : decode (q_cc m_mo_init) 94 = .ok (.aload_n 0, 1) := by decide +kernel
theorem d_mo_init_95 : decode (q_cc m_mo_init) 95 = .ok (.iconst 5, 1) := by decide +kernel
theorem d_mo_init_96 : decode (q_cc m_mo_init) 96 = .ok (.newarray .char, 2) := by decide +kernel
theorem d_mo_init_98 : decode (q_cc m_mo_init) 98 = .ok (.dup, 1) := by decide +kernel
theorem d_mo_init_99 : decode (q_cc m_mo_init) 99 = .ok (.iconst 0, 1) := by decide +kernel
theorem d_mo_init_100 : decode (q_cc m_mo_init) 100 = .ok (.bipush 115, 2) := by decide +kernel
theorem d_mo_init_102 : decode (q_cc m_mo_init) 102 = .ok (.castore, 1) := by decide +kernel
theorem d_mo_init_103 : decode (q_cc m_mo_init) 103 = .ok (.dup, 1) := by decide +kernel
theorem d_mo_init_104 : decode (q_cc m_mo_init) 104 = .ok (.iconst 1, 1) := by decide +kernel
theorem d_mo_init_105 : decode (q_cc m_mo_init) 105 = .ok (.bipush 104, 2) := by decide +kernel
theorem d_mo_init_107 : decode (q_cc m_mo_init) 107 = .ok (.castore, 1) := by decide +kernel
theorem d_mo_init_108 : decode (q_cc m_mo_init) 108 = .ok (.dup, 1) := by decide +kernel
theorem d_mo_init_109 : decode (q_cc m_mo_init) 109 = .ok (.iconst 2, 1) := by decide +kernel
theorem d_mo_init_110 : decode (q_cc m_mo_init) 110 = .ok (.bipush 97, 2) := by decide +kernel
theorem d_mo_init_112 : decode (q_cc m_mo_init) 112 = .ok (.castore, 1) := by decide +kernel
theorem d_mo_init_113 : decode (q_cc m_mo_init) 113 = .ok (.dup, 1) := by decide +kernel
theorem d_mo_init_114 : decode (q_cc m_mo_init) 114 = .ok (.iconst 3, 1) := by decide +kernel
theorem d_mo_init_115 : decode (q_cc m_mo_init) 115 = .ok (.bipush 100, 2) := by decide +kernel
theorem d_mo_init_117 : decode (q_cc m_mo_init) 117 = .ok (.castore, 1) := by decide +kernel
theorem d_mo_init_118 : decode (q_cc m_mo_init) 118 = .ok (.dup, 1) := by decide +kernel
theorem d_mo_init_119 : decode (q_cc m_mo_init) 119 = .ok (.iconst 4, 1) := by decide +kernel
theorem d_mo_init_120 : decode (q_cc m_mo_init) 120 = .ok (.bipush 101, 2) := by decide +kernel
theorem d_mo_init_122 : decode (q_cc m_mo_init) 122 = .ok (.castore, 1) := by decide +kernel
theorem d_mo_init_123 : decode (q_cc m_mo_init) 123 = .ok (.putfield 24, 3) := by decide +kernel
theorem d_mo_init_126 : decode (q_cc m_mo_init) 126 = .ok (.aload_n 0, 1) := by decide +kernel
theorem d_mo_init_127 : decode (q_cc m_mo_init) 127 = .ok (.iconst 3, 1) := by decide +kernel
theorem d_mo_init_128 : decode (q_cc m_mo_init) 128 = .ok (.newarray .char, 2) := by decide +kernel
theorem d_mo_init_130 : decode (q_cc m_mo_init) 130 = .ok (.dup, 1) := by decide +kernel
theorem d_mo_init_131 : decode (q_cc m_mo_init) 131 = .ok (.iconst 0, 1) := by decide +kernel
theorem d_mo_init_132 : decode (q_cc m_mo_init) 132 = .ok (.bipush 102, 2) := by decide +kernel
theorem d_mo_init_134 : decode (q_cc m_mo_init) 134 = .ok (.castore, 1) := by decide +kernel
theorem d_mo_init_135 : decode (q_cc m_mo_init) 135 = .ok (.dup, 1) := by decide +kernel
theorem d_mo_init_136 : decode (q_cc m_mo_init) 136 = .ok (.iconst 1, 1) := by decide +kernel
theorem d_mo_init_137 : decode (q_cc m_mo_init) 137 = .ok (.bipush 101, 2) := by decide +kernel
theorem d_mo_init_139 : decode (q_cc m_mo_init) 139 = .ok (.castore, 1) := by decide +kernel
theorem d_mo_init_140 : decode (q_cc m_mo_init) 140 = .ok (.dup, 1) := by decide +kernel
theorem d_mo_init_141 : decode (q_cc m_mo_init) 141 = .ok (.iconst 2, 1) := by decide +kernel
theorem d_mo_init_142 : decode (q_cc m_mo_init) 142 = .ok (.bipush 101, 2) := by decide +kernel
theorem d_mo_init_144 : decode (q_cc m_mo_init) 144 = .ok (.castore, 1) := by decide +kernel
theorem d_mo_init_145 : decode (q_cc m_mo_init) 145 = .ok (.putfield 27, 3) := by decide +kernel
theorem d_mo_init_148 : decode (q_cc m_mo_init) 148 = .ok (.aload_n 0, 1) := by decide +kernel
theorem d_mo_init_149 : decode (q_cc m_mo_init) 149 = .ok (.iconst 5, 1) := by decide +kernel
theorem d_mo_init_150 : decode (q_cc m_mo_init) 150 = .ok (.newarray .char, 2) := by decide +kernel
theorem d_mo_init_152 : decode (q_cc m_mo_init) 152 = .ok (.dup, 1) := by decide +kernel
theorem d_mo_init_153 : decode (q_cc m_mo_init) 153 = .ok (.iconst 0, 1) := by decide +kernel
theorem d_mo_init_154 : decode (q_cc m_mo_init) 154 = .ok (.bipush 102, 2) := by decide +kernel
theorem d_mo_init_156 : decode (q_cc m_mo_init) 156 = .ok (.castore, 1) := by decide +kernel
theorem d_mo_init_157 : decode (q_cc m_mo_init) 157 = .ok (.dup, 1) := by decide +kernel
theorem d_mo_init_158 : decode (q_cc m_mo_init) 158 = .ok (.iconst 1, 1) := by decide +kernel
theorem d_mo_init_159 : decode (q_cc m_mo_init) 159 = .ok (.bipush 97, 2) := by decide +kernel
theorem d_mo_init_161 : decode (q_cc m_mo_init) 161 = .ok (.castore, 1) := by decide +kernel
theorem d_mo_init_162 : decode (q_cc m_mo_init) 162 = .ok (.dup, 1) := by decide +kernel
theorem d_mo_init_163 : decode (q_cc m_mo_init) 163 = .ok (.iconst 2, 1) := by decide +kernel
theorem d_mo_init_164 : decode (q_cc m_mo_init) 164 = .ok (.bipush 107, 2) := by decide +kernel
theorem d_mo_init_166 : decode (q_cc m_mo_init) 166 = .ok (.castore, 1) := by decide +kernel
theorem d_mo_init_167 : decode (q_cc m_mo_init) 167 = .ok (.dup, 1) := by decide +kernel
theorem d_mo_init_168 : decode (q_cc m_mo_init) 168 = .ok (.iconst 3, 1) := by decide +kernel
theorem d_mo_init_169 : decode (q_cc m_mo_init) 169 = .ok (.bipush 101, 2) := by decide +kernel
theorem d_mo_init_171 : decode (q_cc m_mo_init) 171 = .ok (.castore, 1) := by decide +kernel
theorem d_mo_init_172 : decode (q_cc m_mo_init) 172 = .ok (.dup, 1) := by decide +kernel
theorem d_mo_init_173 : decode (q_cc m_mo_init) 173 = .ok (.iconst 4, 1) := by decide +kernel
theorem d_mo_init_174 : decode (q_cc m_mo_init) 174 = .ok (.bipush 115, 2) := by decide +kernel
theorem d_mo_init_176 : decode (q_cc m_mo_init) 176 = .ok (.castore, 1) := by decide +kernel
theorem d_mo_init_177 : decode (q_cc m_mo_init) 177 = .ok (.putfield 30, 3) := by decide +kernel
theorem d_mo_init_180 : decode (q_cc m_mo_init) 180 = .ok (.aload_n 0, 1) := by decide +kernel
theorem d_mo_init_181 : decode (q_cc m_mo_init) 181 = .ok (.iconst 5, 1) := by decide +kernel
theorem d_mo_init_182 : decode (q_cc m_mo_init) 182 = .ok (.newarray .char, 2) := by decide +kernel
theorem d_mo_init_184 : decode (q_cc m_mo_init) 184 = .ok (.dup, 1) := by decide +kernel
theorem d_mo_init_185 : decode (q_cc m_mo_init) 185 = .ok (.iconst 0, 1) := by decide +kernel
theorem d_mo_init_186 : decode (q_cc m_mo_init) 186 = .ok (.bipush 112, 2) := by decide +kernel
theorem d_mo_init_188 : decode (q_cc m_mo_init) 188 = .ok (.castore, 1) := by decide +kernel
theorem d_mo_init_189 : decode (q_cc m_mo_init) 189 = .ok (.dup, 1) := by decide +kernel
theorem d_mo_init_190 : decode (q_cc m_mo_init) 190 = .ok (.iconst 1, 1) := by decide +kernel
theorem d_mo_init_191 : decode (q_cc m_mo_init) 191 = .ok (.bipush 108, 2) := by decide +kernel
theorem d_mo_init_193 : decode (q_cc m_mo_init) 193 = .ok (.castore, 1) := by decide +kernel
theorem d_mo_init_194 : decode (q_cc m_mo_init) 194 = .ok (.dup, 1) := by decide +kernel
theorem d_mo_init_195 : decode (q_cc m_mo_init) 195 = .ok (.iconst 2, 1) := by decide +kernel
theorem d_mo_init_196 : decode (q_cc m_mo_init) 196 = .ok (.bipush 97, 2) := by decide +kernel
theorem d_mo_init_198 : decode (q_cc m_mo_init) 198 = .ok (.castore, 1) := by decide +kernel
theorem d_mo_init_199 : decode (q_cc m_mo_init) 199 = .ok (.dup, 1) := by decide +kernel
theorem d_mo_init_200 : decode (q_cc m_mo_init) 200 = .ok (.iconst 3, 1) := by decide +kernel
theorem d_mo_init_201 : decode (q_cc m_mo_init) 201 = .ok (.bipush 99, 2) := by decide +kernel
theorem d_mo_init_203 : decode (q_cc m_mo_init) 203 = .ok (.castore, 1) := by decide +kernel
theorem d_mo_init_204 : decode (q_cc m_mo_init) 204 = .ok (.dup, 1) := by decide +kernel
theorem d_mo_init_205 : decode (q_cc m_mo_init) 205 = .ok (.iconst 4, 1) := by decide +kernel
theorem d_mo_init_206 : decode (q_cc m_mo_init) 206 = .ok (.bipush 101, 2) := by decide +kernel
theorem d_mo_init_208 : decode (q_cc m_mo_init) 208 = .ok (.castore, 1) := by decide +kernel
theorem d_mo_init_209 : decode (q_cc m_mo_init) 209 = .ok (.putfield 33, 3) := by decide +kernel
theorem d_mo_init_212 : decode (q_cc m_mo_init) 212 = .ok (.aload_n 0, 1) := by decide +kernel
theorem d_mo_init_213 : decode (q_cc m_mo_init) 213 = .ok (.iconst 4, 1) := by decide +kernel
theorem d_mo_init_214 : decode (q_cc m_mo_init) 214 = .ok (.newarray .char, 2) := by decide +kernel
theorem d_mo_init_216 : decode (q_cc m_mo_init) 216 = .ok (.dup, 1) := by decide +kernel
theorem d_mo_init_217 : decode (q_cc m_mo_init) 217 = .ok (.iconst 0, 1) := by decide +kernel
theorem d_mo_init_218 : decode (q_cc m_mo_init) 218 = .ok (.bipush 114, 2) := by decide +kernel
theorem d_mo_init_220 : decode (q_cc m_mo_init) 220 = .ok (.castore, 1) := by decide +kernel
theorem d_mo_init_221 : decode (q_cc m_mo_init) 221 = .ok (.dup, 1) := by decide +kernel
theorem d_mo_init_222 : decode (q_cc m_mo_init) 222 = .ok (.iconst 1, 1) := by decide +kernel
theorem d_mo_init_223 : decode (q_cc m_mo_init) 223 = .ok (.bipush 111, 2) := by decide +kernel
theorem d_mo_init_225 : decode (q_cc m_mo_init) 225 = .ok (.castore, 1) := by decide +kernel
theorem d_mo_init_226 : decode (q_cc m_mo_init) 226 = .ok (.dup, 1) := by decide +kernel
theorem d_mo_init_227 : decode (q_cc m_mo_init) 227 = .ok (.iconst 2, 1) := by decide +kernel
theorem d_mo_init_228 : decode (q_cc m_mo_init) 228 = .ok (.bipush 97, 2) := by decide +kernel
theorem d_mo_init_230 : decode (q_cc m_mo_init) 230 = .ok (.castore, 1) := by decide +kernel
theorem d_mo_init_231 : decode (q_cc m_mo_init) 231 = .ok (.dup, 1) := by decide +kernel
theorem d_mo_init_232 : decode (q_cc m_mo_init) 232 = .ok (.iconst 3, 1) := by decide +kernel
theorem d_mo_init_233 : decode (q_cc m_mo_init) 233 = .ok (.bipush 100, 2) := by decide +kernel
theorem d_mo_init_235 : decode (q_cc m_mo_init) 235 = .ok (.castore, 1) := by decide +kernel
theorem d_mo_init_236 : decode (q_cc m_mo_init) 236 = .ok (.putfield 36, 3) := by decide +kernel
theorem d_mo_init_239 : decode (q_cc m_mo_init) 239 = .ok (.aload_n 0, 1) := by decide +kernel
theorem d_mo_init_240 : decode (q_cc m_mo_init) 240 = .ok (.iconst 4, 1) := by decide +kernel
theorem d_mo_init_241 : decode (q_cc m_mo_init) 241 = .ok (.newarray .char, 2) := by decide +kernel
theorem d_mo_init_243 : decode (q_cc m_mo_init) 243 = .ok (.dup, 1) := by decide +kernel
theorem d_mo_init_244 : decode (q_cc m_mo_init) 244 = .ok (.iconst 0, 1) := by decide +kernel
theorem d_mo_init_245 : decode (q_cc m_mo_init) 245 = .ok (.bipush 115, 2) := by decide +kernel
theorem d_mo_init_247 : decode (q_cc m_mo_init) 247 = .ok (.castore, 1) := by decide +kernel
theorem d_mo_init_248 : decode (q_cc m_mo_init) 248 = .ok (.dup, 1) := by decide +kernel
theorem d_mo_init_249 : decode (q_cc m_mo_init) 249 = .ok (.iconst 1, 1) := by decide +kernel
theorem d_mo_init_250 : decode (q_cc m_mo_init) 250 = .ok (.bipush 101, 2) := by decide +kernel
theorem d_mo_init_252 : decode (q_cc m_mo_init) 252 = .ok (.castore, 1) := by decide +kernel
theorem d_mo_init_253 : decode (q_cc m_mo_init) 253 = .ok (.dup, 1) := by decide +kernel
theorem d_mo_init_254 : decode (q_cc m_mo_init) 254 = .ok (.iconst 2, 1) := by decide +kernel
theorem d_mo_init_255 : decode (q_cc m_mo_init) 255 = .ok (.bipush 101, 2) := by decide +kernel
theorem d_mo_init_257 : decode (q_cc m_mo_init) 257 = .ok (.castore, 1) := by decide +kernel
theorem d_mo_init_258 : decode (q_cc m_mo_init) 258 = .ok (.dup, 1) := by decide +kernel
theorem d_mo_init_259 : decode (q_cc m_mo_init) 259 = .ok (.iconst 3, 1) := by decide +kernel
theorem d_mo_init_260 : decode (q_cc m_mo_init) 260 = .ok (.bipush 110, 2) := by decide +kernel
theorem d_mo_init_262 : decode (q_cc m_mo_init) 262 = .ok (.castore, 1) := by decide +kernel
theorem d_mo_init_263 : decode (q_cc m_mo_init) 263 = .ok (.putfield 39, 3) := by decide +kernel
theorem d_mo_init_266 : decode (q_cc m_mo_init) 266 = .ok (.aload_n 0, 1) := by decide +kernel
theorem d_mo_init_267 : decode (q_cc m_mo_init) 267 = .ok (.iconst 2, 1) := by decide +kernel
theorem d_mo_init_268 : decode (q_cc m_mo_init) 268 = .ok (.newarray .char, 2) := by decide +kernel
theorem d_mo_init_270 : decode (q_cc m_mo_init) 270 = .ok (.dup, 1) := by decide +kernel
theorem d_mo_init_271 : decode (q_cc m_mo_init) 271 = .ok (.iconst 0, 1) := by decide +kernel
theorem d_mo_init_272 : decode (q_cc m_mo_init) 272 = .ok (.bipush 97, 2) := by decide +kernel
theorem d_mo_init_274 : decode (q_cc m_mo_init) 274 = .ok (.castore, 1) := by decide +kernel
theorem d_mo_init_275 : decode (q_cc m_mo_init) 275 = .ok (.dup, 1) := by decide +kernel
theorem d_mo_init_276 : decode (q_cc m_mo_init) 276 = .ok (.iconst 1, 1) := by decide +kernel
theorem d_mo_init_277 : decode (q_cc m_mo_init) 277 = .ok (.bipush 116, 2) := by decide +kernel
theorem d_mo_init_279 : decode (q_cc m_mo_init) 279 = .ok (.castore, 1) := by decide +kernel
theorem d_mo_init_280 : decode (q_cc m_mo_init) 280 = .ok (.putfield 42, 3) := by decide +kernel
theorem d_mo_init_283 : decode (q_cc m_mo_init) 283 = .ok (.aload_n 0, 1) := by decide +kernel
theorem d_mo_init_284 : decode (q_cc m_mo_init) 284 = .ok (.iconst 4, 1) := by decide +kernel
theorem d_mo_init_285 : decode (q_cc m_mo_init) 285 = .ok (.newarray .char, 2) := by decide +kernel
theorem d_mo_init_287 : decode (q_cc m_mo_init) 287 = .ok (.dup, 1) := by decide +kernel
theorem d_mo_init_288 : decode (q_cc m_mo_init) 288 = .ok (.iconst 0, 1) := by decide +kernel
theorem d_mo_init_289 : decode (q_cc m_mo_init) 289 = .ok (.bipush 104, 2) := by decide +kernel
theorem d_mo_init_291 : decode (q_cc m_mo_init) 291 = .ok (.castore, 1) := by decide +kernel
theorem d_mo_init_292 : decode (q_cc m_mo_init) 292 = .ok (.dup, 1) := by decide +kernel
theorem d_mo_init_293 : decode (q_cc m_mo_init) 293 = .ok (.iconst 1, 1) := by decide +kernel
theorem d_mo_init_294 : decode (q_cc m_mo_init) 294 = .ok (.bipush 111, 2) := by decide +kernel
theorem d_mo_init_296 : decode (q_cc m_mo_init) 296 = .ok (.castore, 1) := by decide +kernel
theorem d_mo_init_297 : decode (q_cc m_mo_init) 297 = .ok (.dup, 1) := by decide +kernel
theorem d_mo_init_298 : decode (q_cc m_mo_init) 298 = .ok (.iconst 2, 1) := by decide +kernel
theorem d_mo_init_299 : decode (q_cc m_mo_init) 299 = .ok (.bipush 117, 2) := by decide +kernel
theorem d_mo_init_301 : decode (q_cc m_mo_init) 301 = .ok (.castore, 1) := by decide +kernel
theorem d_mo_init_302 : decode (q_cc m_mo_init) 302 = .ok (.dup, 1) := by decide +kernel
theorem d_mo_init_303 : decode (q_cc m_mo_init) 303 = .ok (.iconst 3, 1) := by decide +kernel
theorem d_mo_init_304 : decode (q_cc m_mo_init) 304 = .ok (.bipush 114, 2) := by decide +kernel
theorem d_mo_init_306 : decode (q_cc m_mo_init) 306 = .ok (.castore, 1) := by decide +kernel
theorem d_mo_init_307 : decode (q_cc m_mo_init) 307 = .ok (.putfield 45, 3) := by decide +kernel
theorem d_mo_init_310 : decode (q_cc m_mo_init) 310 = .ok (.aload_n 0, 1) := by decide +kernel
theorem d_mo_init_311 : decode (q_cc m_mo_init) 311 = .ok (.iconst 5, 1) := by decide +kernel
theorem d_mo_init_312 : decode (q_cc m_mo_init) 312 = .ok (.newarray .char, 2) := by decide +kernel
theorem d_mo_init_314 : decode (q_cc m_mo_init) 314 = .ok (.dup, 1) := by decide +kernel
theorem d_mo_init_315 : decode (q_cc m_mo_init) 315 = .ok (.iconst 0, 1) := by decide +kernel
theorem d_mo_init_316 : decode (q_cc m_mo_init) 316 = .ok (.bipush 108, 2) := by decide +kernel
theorem d_mo_init_318 : decode (q_cc m_mo_init) 318 = .ok (.castore, 1) := by decide +kernel
theorem d_mo_init_319 : decode (q_cc m_mo_init) 319 = .ok (.dup, 1) := by decide +kernel
theorem d_mo_init_320 : decode (q_cc m_mo_init) 320 = .ok (.iconst 1, 1) := by decide +kernel
theorem d_mo_init_321 : decode (q_cc m_mo_init) 321 = .ok (.bipush 105, 2) := by decide +kernel
theorem d_mo_init_323 : decode (q_cc m_mo_init) 323 = .ok (.castore, 1) := by decide +kernel
theorem d_mo_init_324 : decode (q_cc m_mo_init) 324 = .ok (.dup, 1) := by decide +kernel
theorem d_mo_init_325 : decode (q_cc m_mo_init) 325 = .ok (.iconst 2, 1) := by decide +kernel
theorem d_mo_init_326 : decode (q_cc m_mo_init) 326 = .ok (.bipush 103, 2) := by decide +kernel
theorem d_mo_init_328 : decode (q_cc m_mo_init) 328 = .ok (.castore, 1) := by decide +kernel
theorem d_mo_init_329 : decode (q_cc m_mo_init) 329 = .ok (.dup, 1) := by decide +kernel
theorem d_mo_init_330 : decode (q_cc m_mo_init) 330 = .ok (.iconst 3, 1) := by decide +kernel
theorem d_mo_init_331 : decode (q_cc m_mo_init) 331 = .ok (.bipush 104, 2) := by decide +kernel
theorem d_mo_init_333 : decode (q_cc m_mo_init) 333 = .ok (.castore, 1) := by decide +kernel
theorem d_mo_init_334 : decode (q_cc m_mo_init) 334 = .ok (.dup, 1) := by decide +kernel
theorem d_mo_init_335 : decode (q_cc m_mo_init) 335 = .ok (.iconst 4, 1) := by decide +kernel
theorem d_mo_init_336 : decode (q_cc m_mo_init) 336 = .ok (.bipush 116, 2) := by decide +kernel
theorem d_mo_init_338 : decode (q_cc m_mo_init) 338 = .ok (.castore, 1) := by decide +kernel
theorem d_mo_init_339 : decode (q_cc m_mo_init) 339 = .ok (.putfield 48, 3) := by decide +kernel
theorem d_mo_init_342 : decode (q_cc m_mo_init) 342 = .ok (.aload_n 0, 1) := by decide +kernel
theorem d_mo_init_343 : decode (q_cc m_mo_init) 343 = .ok (.iconst 4, 1) := by decide +kernel
theorem d_mo_init_344 : decode (q_cc m_mo_init) 344 = .ok (.newarray .char, 2) := by decide +kernel
theorem d_mo_init_346 : decode (q_cc m_mo_init) 346 = .ok (.dup, 1) := by decide +kernel
theorem d_mo_init_347 : decode (q_cc m_mo_init) 347 = .ok (.iconst 0, 1) := by decide +kernel
theorem d_mo_init_348 : decode (q_cc m_mo_init) 348 = .ok (.bipush 114, 2) := by decide +kernel
theorem d_mo_init_350 : decode (q_cc m_mo_init) 350 = .ok (.castore, 1) := by decide +kernel
theorem d_mo_init_351 : decode (q_cc m_mo_init) 351 = .ok (.dup, 1) := by decide +kernel
theorem d_mo_init_352 : decode (q_cc m_mo_init) 352 = .ok (.iconst 1, 1) := by decide +kernel
theorem d_mo_init_353 : decode (q_cc m_mo_init) 353 = .ok (.bipush 97, 2) := by decide +kernel
theorem d_mo_init_355 : decode (q_cc m_mo_init) 355 = .ok (.castore, 1) := by decide +kernel
theorem d_mo_init_356 : decode (q_cc m_mo_init) 356 = .ok (.dup, 1) := by decide +kernel
theorem d_mo_init_357 : decode (q_cc m_mo_init) 357 = .ok (.iconst 2, 1) := by decide +kernel
theorem d_mo_init_358 : decode (q_cc m_mo_init) 358 = .ok (.bipush 105, 2) := by decide +kernel
theorem d_mo_init_360 : decode (q_cc m_mo_init) 360 = .ok (.castore, 1) := by decide +kernel
theorem d_mo_init_361 : decode (q_cc m_mo_init) 361 = .ok (.dup, 1) := by decide +kernel
theorem d_mo_init_362 : decode (q_cc m_mo_init) 362 = .ok (.iconst 3, 1) := by decide +kernel
theorem d_mo_init_363 : decode (q_cc m_mo_init) 363 = .ok (.bipush 110, 2) := by decide +kernel
theorem d_mo_init_365 : decode (q_cc m_mo_init) 365 = .ok (.castore, 1) := by decide +kernel
theorem d_mo_init_366 : decode (q_cc m_mo_init) 366 = .ok (.putfield 51, 3) := by decide +kernel
theorem d_mo_init_369 : decode (q_cc m_mo_init) 369 = .ok (.aload_n 0, 1) := by decide +kernel
theorem d_mo_init_370 : decode (q_cc m_mo_init) 370 = .ok (.iconst 3, 1) := by decide +kernel
theorem d_mo_init_371 : decode (q_cc m_mo_init) 371 = .ok (.newarray .char, 2) := by decide +kernel
theorem d_mo_init_373 : decode (q_cc m_mo_init) 373 = .ok (.dup, 1) := by decide +kernel
theorem d_mo_init_374 : decode (q_cc m_mo_init) 374 = .ok (.iconst 0, 1) := by decide +kernel
theorem d_mo_init_375 : decode (q_cc m_mo_init) 375 = .ok (.bipush 100, 2) := by decide +kernel
theorem d_mo_init_377 : decode (q_cc m_mo_init) 377 = .ok (.castore, 1) := by decide +kernel
theorem d_mo_init_378 : decode (q_cc m_mo_init) 378 = .ok (.dup, 1) := by decide +kernel
theorem d_mo_init_379 : decode (q_cc m_mo_init) 379 = .ok (.iconst 1, 1) := by decide +kernel
theorem d_mo_init_380 : decode (q_cc m_mo_init) 380 = .ok (.bipush 114, 2) := by decide +kernel
theorem d_mo_init_382 : decode (q_cc m_mo_init) 382 = .ok (.castore, 1) := by decide +kernel
theorem d_mo_init_383 : decode (q_cc m_mo_init) 383 = .ok (.dup, 1) := by decide +kernel
theorem d_mo_init_384 : decode (q_cc m_mo_init) 384 = .ok (.iconst 2, 1) := by decide +kernel
theorem d_mo_init_385 : decode (q_cc m_mo_init) 385 = .ok (.bipush 121, 2) := by decide +kernel
theorem d_mo_init_387 : decode (q_cc m_mo_init) 387 = .ok (.castore, 1) := by decide +kernel
theorem d_mo_init_388 : decode (q_cc m_mo_init) 388 = .ok (.putfield 54, 3) := by decide +kernel
theorem d_mo_init_391 : decode (q_cc m_mo_init) 391 = .ok (.aload_n 0, 1) := by decide +kernel
theorem d_mo_init_392 : decode (q_cc m_mo_init) 392 = .ok (.iconst 5, 1) := by decide +kernel
theorem d_mo_init_393 : decode (q_cc m_mo_init) 393 = .ok (.newarray .char, 2) := by decide +kernel
theorem d_mo_init_395 : decode (q_cc m_mo_init) 395 = .ok (.dup, 1) := by decide +kernel
theorem d_mo_init_396 : decode (q_cc m_mo_init) 396 = .ok (.iconst 0, 1) := by decide +kernel
theorem d_mo_init_397 : decode (q_cc m_mo_init) 397 = .ok (.bipush 112, 2) := by decide +kernel
theorem d_mo_init_399 : decode (q_cc m_mo_init) 399 = .ok (.castore, 1) := by decide +kernel
theorem d_mo_init_400 : decode (q_cc m_mo_init) 400 = .ok (.dup, 1) := by decide +kernel
theorem d_mo_init_401 : decode (q_cc m_mo_init) 401 = .ok (.iconst 1, 1) := by decide +kernel
theorem d_mo_init_402 : decode (q_cc m_mo_init) 402 = .ok (.bipush 114, 2) := by decide +kernel
theorem d_mo_init_404 : decode (q_cc m_mo_init) 404 = .ok (.castore, 1) := by decide +kernel
theorem d_mo_init_405 : decode (q_cc m_mo_init) 405 = .ok (.dup, 1) := by decide +kernel
theorem d_mo_init_406 : decode (q_cc m_mo_init) 406 = .ok (.iconst 2, 1) := by decide +kernel
theorem d_mo_init_407 : decode (q_cc m_mo_init) 407 = .ok (.bipush 105, 2) := by decide +kernel
theorem d_mo_init_409 : decode (q_cc m_mo_init) 409 = .ok (.castore, 1) := by decide +kernel
theorem d_mo_init_410 : decode (q_cc m_mo_init) 410 = .ok (.dup, 1) := by decide +kernel
theorem d_mo_init_411 : decode (q_cc m_mo_init) 411 = .ok (.iconst 3, 1) := by decide +kernel
theorem d_mo_init_412 : decode (q_cc m_mo_init) 412 = .ok (.bipush 99, 2) := by decide +kernel
theorem d_mo_init_414 : decode (q_cc m_mo_init) 414 = .ok (.castore, 1) := by decide +kernel
theorem d_mo_init_415 : decode (q_cc m_mo_init) 415 = .ok (.dup, 1) := by decide +kernel
theorem d_mo_init_416 : decode (q_cc m_mo_init) 416 = .ok (.iconst 4, 1) := by decide +kernel
theorem d_mo_init_417 : decode (q_cc m_mo_init) 417 = .ok (.bipush 101, 2) := by decide +kernel
theorem d_mo_init_419 : decode (q_cc m_mo_init) 419 = .ok (.castore, 1) := by decide +kernel
theorem d_mo_init_420 : decode (q_cc m_mo_init) 420 = .ok (.putfield 57, 3) := by decide +kernel
theorem d_mo_init_423 : decode (q_cc m_mo_init) 423 = .ok (.aload_n 0, 1) := by decide +kernel
theorem d_mo_init_424 : decode (q_cc m_mo_init) 424 = .ok (.iconst 4, 1) := by decide +kernel
theorem d_mo_init_425 : decode (q_cc m_mo_init) 425 = .ok (.newarray .char, 2) := by decide +kernel
theorem d_mo_init_427 : decode (q_cc m_mo_init) 427 = .ok (.dup, 1) := by decide +kernel
theorem d_mo_init_428 : decode (q_cc m_mo_init) 428 = .ok (.iconst 0, 1) := by decide +kernel
theorem d_mo_init_429 : decode (q_cc m_mo_init) 429 = .ok (.bipush 119, 2) := by decide +kernel
theorem d_mo_init_431 : decode (q_cc m_mo_init) 431 = .ok (.castore, 1) := by decide +kernel
theorem d_mo_init_432 : decode (q_cc m_mo_init) 432 = .ok (.dup, 1) := by decide +kernel
theorem d_mo_init_433 : decode (q_cc m_mo_init) 433 = .ok (.iconst 1, 1) := by decide +kernel
theorem d_mo_init_434 : decode (q_cc m_mo_init) 434 = .ok (.bipush 104, 2) := by decide +kernel
theorem d_mo_init_436 : decode (q_cc m_mo_init) 436 = .ok (.castore, 1) := by decide +kernel
theorem d_mo_init_437 : decode (q_cc m_mo_init) 437 = .ok (.dup, 1) := by decide +kernel
theorem d_mo_init_438 : decode (q_cc m_mo_init) 438 = .ok (.iconst 2, 1) := by decide +kernel
theorem d_mo_init_439 : decode (q_cc m_mo_init) 439 = .ok (.bipush 101, 2) := by decide +kernel
theorem d_mo_init_441 : decode (q_cc m_mo_init) 441 = .ok (.castore, 1) := by decide +kernel
theorem d_mo_init_442 : decode (q_cc m_mo_init) 442 = .ok (.dup, 1) := by decide +kernel
theorem d_mo_init_443 : decode (q_cc m_mo_init) 443 = .ok (.iconst 3, 1) := by decide +kernel
theorem d_mo_init_444 : decode (q_cc m_mo_init) 444 = .ok (.bipush 110, 2) := by decide +kernel
theorem d_mo_init_446 : decode (q_cc m_mo_init) 446 = .ok (.castore, 1) := by decide +kernel
theorem d_mo_init_447 : decode (q_cc m_mo_init) 447 = .ok (.putfield 60, 3) := by decide +kernel
theorem d_mo_init_450 : decode (q_cc m_mo_init) 450 = .ok (.aload_n 0, 1) := by decide +kernel
theorem d_mo_init_451 : decode (q_cc m_mo_init) 451 = .ok (.iconst 5, 1) := by decide +kernel
theorem d_mo_init_452 : decode (q_cc m_mo_init) 452 = .ok (.newarray .char, 2) := by decide +kernel
theorem d_mo_init_454 : decode (q_cc m_mo_init) 454 = .ok (.dup, 1) := by decide +kernel
theorem d_mo_init_455 : decode (q_cc m_mo_init) 455 = .ok (.iconst 0, 1) := by decide +kernel
theorem d_mo_init_456 : decode (q_cc m_mo_init) 456 = .ok (.bipush 116, 2) := by decide +kernel
theorem d_mo_init_458 : decode (q_cc m_mo_init) 458 = .ok (.castore, 1) := by decide +kernel
theorem d_mo_init_459 : decode (q_cc m_mo_init) 459 = .ok (.dup, 1) := by decide +kernel
theorem d_mo_init_460 : decode (q_cc m_mo_init) 460 = .ok (.iconst 1, 1) := by decide +kernel
theorem d_mo_init_461 : decode (q_cc m_mo_init) 461 = .ok (.bipush 105, 2) := by decide +kernel
theorem d_mo_init_463 : decode (q_cc m_mo_init) 463 = .ok (.castore, 1) := by decide +kernel
theorem d_mo_init_464 : decode (q_cc m_mo_init) 464 = .ok (.dup, 1) := by decide +kernel
theorem d_mo_init_465 : decode (q_cc m_mo_init) 465 = .ok (.iconst 2, 1) := by decide +kernel
theorem d_mo_init_466 : decode (q_cc m_mo_init) 466 = .ok (.bipush 116, 2) := by decide +kernel
theorem d_mo_init_468 : decode (q_cc m_mo_init) 468 = .ok (.castore, 1) := by decide +kernel
theorem d_mo_init_469 : decode (q_cc m_mo_init) 469 = .ok (.dup, 1) := by decide +kernel
theorem d_mo_init_470 : decode (q_cc m_mo_init) 470 = .ok (.iconst 3, 1) := by decide +kernel
theorem d_mo_init_471 : decode (q_cc m_mo_init) 471 = .ok (.bipush 104, 2) := by decide +kernel
theorem d_mo_init_473 : decode (q_cc m_mo_init) 473 = .ok (.castore, 1) := by decide +kernel
theorem d_mo_init_474 : decode (q_cc m_mo_init) 474 = .ok (.dup, 1) := by decide +kernel
theorem d_mo_init_475 : decode (q_cc m_mo_init) 475 = .ok (.iconst 4, 1) := by decide +kernel
theorem d_mo_init_476 : decode (q_cc m_mo_init) 476 = .ok (.bipush 101, 2) := by decide +kernel
theorem d_mo_init_478 : decode (q_cc m_mo_init) 478 = .ok (.castore, 1) := by decide +kernel
theorem d_mo_init_479 : decode (q_cc m_mo_init) 479 = .ok (.putfield 63, 3) := by decide +kernel
theorem d_mo_init_482 : decode (q_cc m_mo_init) 482 = .ok (.aload_n 0, 1) := by decide +kernel
theorem d_mo_init_483 : decode (q_cc m_mo_init) 483 = .ok (.iconst 2, 1) := by decide +kernel
theorem d_mo_init_484 : decode (q_cc m_mo_init) 484 = .ok (.newarray .char, 2) := by decide +kernel
theorem d_mo_init_486 : decode (q_cc m_mo_init) 486 = .ok (.dup, 1) := by decide +kernel
theorem d_mo_init_487 : decode (q_cc m_mo_init) 487 = .ok (.iconst 0, 1) := by decide +kernel
theorem d_mo_init_488 : decode (q_cc m_mo_init) 488 = .ok (.bipush 111, 2) := by decide +kernel
theorem d_mo_init_490 : decode (q_cc m_mo_init) 490 = .ok (.castore, 1) := by decide +kernel
theorem d_mo_init_491 : decode (q_cc m_mo_init) 491 = .ok (.dup, 1) := by decide +kernel
theorem d_mo_init_492 : decode (q_cc m_mo_init) 492 = .ok (.iconst 1, 1) := by decide +kernel
theorem d_mo_init_493 : decode (q_cc m_mo_init) 493 = .ok (.bipush 114, 2) := by decide +kernel
theorem d_mo_init_495 : decode (q_cc m_mo_init) 495 = .ok (.castore, 1) := by decide +kernel
theorem d_mo_init_496 : decode (q_cc m_mo_init) 496 = .ok (.putfield 66, 3) := by decide +kernel
theorem d_mo_init_499 : decode (q_cc m_mo_init) 499 = .ok (.aload_n 0, 1) := by decide +kernel
theorem d_mo_init_500 : decode (q_cc m_mo_init) 500 = .ok (.iconst 3, 1) := by decide +kernel
theorem d_mo_init_501 : decode (q_cc m_mo_init) 501 = .ok (.newarray .char, 2) := by decide +kernel
theorem d_mo_init_503 : decode (q_cc m_mo_init) 503 = .ok (.dup, 1) := by decide +kernel
theorem d_mo_init_504 : decode (q_cc m_mo_init) 504 = .ok (.iconst 0, 1) := by decide +kernel
theorem d_mo_init_505 : decode (q_cc m_mo_init) 505 = .ok (.bipush 97, 2) := by decide +kernel
theorem d_mo_init_507 : decode (q_cc m_mo_init) 507 = .ok (.castore, 1) := by decide +kernel
theorem d_mo_init_508 : decode (q_cc m_mo_init) 508 = .ok (.dup, 1) := by decide +kernel
theorem d_mo_init_509 : decode (q_cc m_mo_init) 509 = .ok (.iconst 1, 1) := by decide +kernel
theorem d_mo_init_510 : decode (q_cc m_mo_init) 510 = .ok (.bipush 110, 2) := by decide +kernel
theorem d_mo_init_512 : decode (q_cc m_mo_init) 512 = .ok (.castore, 1) := by decide +kernel
theorem d_mo_init_513 : decode (q_cc m_mo_init) 513 = .ok (.dup, 1) := by decide +kernel
theorem d_mo_init_514 : decode (q_cc m_mo_init) 514 = .ok (.iconst 2, 1) := by decide +kernel
theorem d_mo_init_515 : decode (q_cc m_mo_init) 515 = .ok (.bipush 100, 2) := by decide +kernel
theorem d_mo_init_517 : decode (q_cc m_mo_init) 517 = .ok (.castore, 1) := by decide +kernel
theorem d_mo_init_518 : decode (q_cc m_mo_init) 518 = .ok (.putfield 69, 3) := by decide +kernel
theorem d_mo_init_521 : decode (q_cc m_mo_init) 521 = .ok (.aload_n 0, 1) := by decide +kernel
theorem d_mo_init_522 : decode (q_cc m_mo_init) 522 = .ok (.iconst 3, 1) := by decide +kernel
theorem d_mo_init_523 : decode (q_cc m_mo_init) 523 = .ok (.newarray .char, 2) := by decide +kernel
theorem d_mo_init_525 : decode (q_cc m_mo_init) 525 = .ok (.dup, 1) := by decide +kernel
theorem d_mo_init_526 : decode (q_cc m_mo_init) 526 = .ok (.iconst 0, 1) := by decide +kernel
theorem d_mo_init_527 : decode (q_cc m_mo_init) 527 = .ok (.bipush 110, 2) := by decide +kernel
theorem d_mo_init_529 : decode (q_cc m_mo_init) 529 = .ok (.castore, 1) := by decide +kernel
theorem d_mo_init_530 : decode (q_cc m_mo_init) 530 = .ok (.dup, 1) := by decide +kernel
theorem d_mo_init_531 : decode (q_cc m_mo_init) 531 = .ok (.iconst 1, 1) := by decide +kernel
theorem d_mo_init_532 : decode (q_cc m_mo_init) 532 = .ok (.bipush 111, 2) := by decide +kernel
theorem d_mo_init_534 : decode (q_cc m_mo_init) 534 = .ok (.castore, 1) := by decide +kernel
theorem d_mo_init_535 : decode (q_cc m_mo_init) 535 = .ok (.dup, 1) := by decide +kernel
theorem d_mo_init_536 : decode (q_cc m_mo_init) 536 = .ok (.iconst 2, 1) := by decide +kernel
theorem d_mo_init_537 : decode (q_cc m_mo_init) 537 = .ok (.bipush 116, 2) := by decide +kernel
theorem d_mo_init_539 : decode (q_cc m_mo_init) 539 = .ok (.castore, 1) := by decide +kernel
theorem d_mo_init_540 : decode (q_cc m_mo_init) 540 = .ok (.putfield 72, 3) := by decide +kernel
theorem d_mo_init_543 : decode (q_cc m_mo_init) 543 = .ok (.aload_n 0, 1) := by decide +kernel
theorem d_mo_init_544 : decode (q_cc m_mo_init) 544 = .ok (.iconst 3, 1) := by decide +kernel
theorem d_mo_init_545 : decode (q_cc m_mo_init) 545 = .ok (.newarray .char, 2) := by decide +kernel
theorem d_mo_init_547 : decode (q_cc m_mo_init) 547 = .ok (.dup, 1) := by decide +kernel
theorem d_mo_init_548 : decode (q_cc m_mo_init) 548 = .ok (.iconst 0, 1) := by decide +kernel
theorem d_mo_init_549 : decode (q_cc m_mo_init) 549 = .ok (.bipush 97, 2) := by decide +kernel
theorem d_mo_init_551 : decode (q_cc m_mo_init) 551 = .ok (.castore, 1) := by decide +kernel
theorem d_mo_init_552 : decode (q_cc m_mo_init) 552 = .ok (.dup, 1) := by decide +kernel
theorem d_mo_init_553 : decode (q_cc m_mo_init) 553 = .ok (.iconst 1, 1) := by decide +kernel
theorem d_mo_init_554 : decode (q_cc m_mo_init) 554 = .ok (.bipush 108, 2) := by decide +kernel
theorem d_mo_init_556 : decode (q_cc m_mo_init) 556 = .ok (.castore, 1) := by decide +kernel
theorem d_mo_init_557 : decode (q_cc m_mo_init) 557 = .ok (.dup, 1) := by decide +kernel
theorem d_mo_init_558 : decode (q_cc m_mo_init) 558 = .ok (.iconst 2, 1) := by decide +kernel
theorem d_mo_init_559 : decode (q_cc m_mo_init) 559 = .ok (.bipush 108, 2) := by decide +kernel
theorem d_mo_init_561 : decode (q_cc m_mo_init) 561 = .ok (.castore, 1) := by decide +kernel
theorem d_mo_init_562 : decode (q_cc m_mo_init) 562 = .ok (.putfield 75, 3) := by decide +kernel
theorem d_mo_init_565 : decode (q_cc m_mo_init) 565 = .ok (.aload_n 0, 1) := by decide +kernel
theorem d_mo_init_566 : decode (q_cc m_mo_init) 566 = .ok (.iconst 3, 1) := by decide +kernel
theorem d_mo_init_567 : decode (q_cc m_mo_init) 567 = .ok (.newarray .char, 2) := by decide +kernel
theorem d_mo_init_569 : decode (q_cc m_mo_init) 569 = .ok (.dup, 1) := by decide +kernel
theorem d_mo_init_570 : decode (q_cc m_mo_init) 570 = .ok (.iconst 0, 1) := by decide +kernel
theorem d_mo_init_571 : decode (q_cc m_mo_init) 571 = .ok (.bipush 119, 2) := by decide +kernel
theorem d_mo_init_573 : decode (q_cc m_mo_init) 573 = .ok (.castore, 1) := by decide +kernel
theorem d_mo_init_574 : decode (q_cc m_mo_init) 574 = .ok (.dup, 1) := by decide +kernel
theorem d_mo_init_575 : decode (q_cc m_mo_init) 575 = .ok (.iconst 1, 1) := by decide +kernel
theorem d_mo_init_576 : decode (q_cc m_mo_init) 576 = .ok (.bipush 101, 2) := by decide +kernel
theorem d_mo_init_578 : decode (q_cc m_mo_init) 578 = .ok (.castore, 1) := by decide +kernel
theorem d_mo_init_579 : decode (q_cc m_mo_init) 579 = .ok (.dup, 1) := by decide +kernel
theorem d_mo_init_580 : decode (q_cc m_mo_init) 580 = .ok (.iconst 2, 1) := by decide +kernel
theorem d_mo_init_581 : decode (q_cc m_mo_init) 581 = .ok (.bipush 116, 2) := by decide +kernel
theorem d_mo_init_583 : decode (q_cc m_mo_init) 583 = .ok (.castore, 1) := by decide +kernel
theorem d_mo_init_584 : decode (q_cc m_mo_init) 584 = .ok (.putfield 78, 3) := by decide +kernel
theorem d_mo_init_587 : decode (q_cc m_mo_init) 587 = .ok (.aload_n 0, 1) := by decide +kernel
theorem d_mo_init_588 : decode (q_cc m_mo_init) 588 = .ok (.bipush 6, 2) := by decide +kernel
theorem d_mo_init_590 : decode (q_cc m_mo_init) 590 = .ok (.newarray .char, 2) := by decide +kernel
theorem d_mo_init_592 : decode (q_cc m_mo_init) 592 = .ok (.dup, 1) := by decide +kernel
theorem d_mo_init_593 : decode (q_cc m_mo_init) 593 = .ok (.iconst 0, 1) := by decide +kernel
theorem d_mo_init_594 : decode (q_cc m_mo_init) 594 = .ok (.bipush 117, 2) := by decide +kernel
theorem d_mo_init_596 : decode (q_cc m_mo_init) 596 = .ok (.castore, 1) := by decide +kernel
theorem d_mo_init_597 : decode (q_cc m_mo_init) 597 = .ok (.dup, 1) := by decide +kernel
theorem d_mo_init_598 : decode (q_cc m_mo_init) 598 = .ok (.iconst 1, 1) := by decide +kernel
theorem d_mo_init_599 : decode (q_cc m_mo_init) 599 = .ok (.bipush 110, 2) := by decide +kernel
theorem d_mo_init_601 : decode (q_cc m_mo_init) 601 = .ok (.castore, 1) := by decide +kernel
theorem d_mo_init_602 : decode (q_cc m_mo_init) 602 = .ok (.dup, 1) := by decide +kernel
theorem d_mo_init_603 : decode (q_cc m_mo_init) 603 = .ok (.iconst 2, 1) := by decide +kernel
theorem d_mo_init_604 : decode (q_cc m_mo_init) 604 = .ok (.bipush 108, 2) := by decide +kernel
theorem d_mo_init_606 : decode (q_cc m_mo_init) 606 = .ok (.castore, 1) := by decide +kernel
theorem d_mo_init_607 : decode (q_cc m_mo_init) 607 = .ok (.dup, 1) := by decide +kernel
theorem d_mo_init_608 : decode (q_cc m_mo_init) 608 = .ok (.iconst 3, 1) := by decide +kernel
theorem d_mo_init_609 : decode (q_cc m_mo_init) 609 = .ok (.bipush 105, 2) := by decide +kernel
theorem d_mo_init_611 : decode (q_cc m_mo_init) 611 = .ok (.castore, 1) := by decide +kernel
theorem d_mo_init_612 : decode (q_cc m_mo_init) 612 = .ok (.dup, 1) := by decide +kernel
theorem d_mo_init_613 : decode (q_cc m_mo_init) 613 = .ok (.iconst 4, 1) := by decide +kernel
theorem d_mo_init_614 : decode (q_cc m_mo_init) 614 = .ok (.bipush 107, 2) := by decide +kernel
theorem d_mo_init_616 : decode (q_cc m_mo_init) 616 = .ok (.castore, 1) := by decide +kernel
theorem d_mo_init_617 : decode (q_cc m_mo_init) 617 = .ok (.dup, 1) := by decide +kernel
theorem d_mo_init_618 : decode (q_cc m_mo_init) 618 = .ok (.iconst 5, 1) := by decide +kernel
theorem d_mo_init_619 : decode (q_cc m_mo_init) 619 = .ok (.bipush 101, 2) := by decide +kernel
theorem d_mo_init_621 : decode (q_cc m_mo_init) 621 = .ok (.castore, 1) := by decide +kernel
theorem d_mo_init_622 : decode (q_cc m_mo_init) 622 = .ok (.putfield 81, 3) := by decide +kernel
theorem d_mo_init_625 : decode (q_cc m_mo_init) 625 = .ok (.aload_n 0, 1) := by decide +kernel
theorem d_mo_init_626 : decode (q_cc m_mo_init) 626 = .ok (.iconst 4, 1) := by decide +kernel
theorem d_mo_init_627 : decode (q_cc m_mo_init) 627 = .ok (.newarray .char, 2) := by decide +kernel
theorem d_mo_init_629 : decode (q_cc m_mo_init) 629 = .ok (.dup, 1) := by decide +kernel
theorem d_mo_init_630 : decode (q_cc m_mo_init) 630 = .ok (.iconst 0, 1) := by decide +kernel
theorem d_mo_init_631 : decode (q_cc m_mo_init) 631 = .ok (.bipush 112, 2) := by decide +kernel
theorem d_mo_init_633 : decode (q_cc m_mo_init) 633 = .ok (.castore, 1) := by decide +kernel
theorem d_mo_init_634 : decode (q_cc m_mo_init) 634 = .ok (.dup, 1) := by decide +kernel
theorem d_mo_init_635 : decode (q_cc m_mo_init) 635 = .ok (.iconst 1, 1) := by decide +kernel
theorem d_mo_init_636 : decode (q_cc m_mo_init) 636 = .ok (.bipush 97, 2) := by decide +kernel
theorem d_mo_init_638 : decode (q_cc m_mo_init) 638 = .ok (.castore, 1) := by decide +kernel
theorem d_mo_init_639 : decode (q_cc m_mo_init) 639 = .ok (.dup, 1) := by decide +kernel
theorem d_mo_init_640 : decode (q_cc m_mo_init) 640 = .ok (.iconst 2, 1) := by decide +kernel
theorem d_mo_init_641 : decode (q_cc m_mo_init) 641 = .ok (.bipush 115, 2) := by decide +kernel
theorem d_mo_init_643 : decode (q_cc m_mo_init) 643 = .ok (.castore, 1) := by decide +kernel
theorem d_mo_init_644 : decode (q_cc m_mo_init) 644 = .ok (.dup, 1) := by decide +kernel
theorem d_mo_init_645 : decode (q_cc m_mo_init) 645 = .ok (.iconst 3, 1) := by decide +kernel
theorem d_mo_init_646 : decode (q_cc m_mo_init) 646 = .ok (.bipush 115, 2) := by decide +kernel
theorem d_mo_init_648 : decode (q_cc m_mo_init) 648 = .ok (.castore, 1) := by decide +kernel
theorem d_mo_init_649 : decode (q_cc m_mo_init) 649 = .ok (.putfield 84, 3) := by decide +kernel
theorem d_mo_init_652 : decode (q_cc m_mo_init) 652 = .ok (.aload_n 0, 1) := by decide +kernel
theorem d_mo_init_653 : decode (q_cc m_mo_init) 653 = .ok (.iconst 3, 1) := by decide +kernel
theorem d_mo_init_654 : decode (q_cc m_mo_init) 654 = .ok (.newarray .char, 2) := by decide +kernel
theorem d_mo_init_656 : decode (q_cc m_mo_init) 656 = .ok (.dup, 1) := by decide +kernel
theorem d_mo_init_657 : decode (q_cc m_mo_init) 657 = .ok (.iconst 0, 1) := by decide +kernel
theorem d_mo_init_658 : decode (q_cc m_mo_init) 658 = .ok (.bipush 109, 2) := by decide +kernel
theorem d_mo_init_660 : decode (q_cc m_mo_init) 660 = .ok (.castore, 1) := by decide +kernel
theorem d_mo_init_661 : decode (q_cc m_mo_init) 661 = .ok (.dup, 1) := by decide +kernel
theorem d_mo_init_662 : decode (q_cc m_mo_init) 662 = .ok (.iconst 1, 1) := by decide +kernel
theorem d_mo_init_663 : decode (q_cc m_mo_init) 663 = .ok (.bipush 105, 2) := by decide +kernel
theorem d_mo_init_665 : decode (q_cc m_mo_init) 665 = .ok (.castore, 1) := by decide +kernel
theorem d_mo_init_666 : decode (q_cc m_mo_init) 666 = .ok (.dup, 1) := by decide +kernel
theorem d_mo_init_667 : decode (q_cc m_mo_init) 667 = .ok (.iconst 2, 1) := by decide +kernel
theorem d_mo_init_668 : decode (q_cc m_mo_init) 668 = .ok (.bipush 110, 2) := by decide +kernel
theorem d_mo_init_670 : decode (q_cc m_mo_init) 670 = .ok (.castore, 1) := by decide +kernel
theorem d_mo_init_671 : decode (q_cc m_mo_init) 671 = .ok (.putfield 87, 3) := by decide +kernel
theorem d_mo_init_674 : decode (q_cc m_mo_init) 674 = .ok (.aload_n 0, 1) := by decide +kernel
theorem d_mo_init_675 : decode (q_cc m_mo_init) 675 = .ok (.iconst 3, 1) := by decide +kernel
theorem d_mo_init_676 : decode (q_cc m_mo_init) 676 = .ok (.newarray .char, 2) := by decide +kernel
theorem d_mo_init_678 : decode (q_cc m_mo_init) 678 = .ok (.dup, 1) := by decide +kernel
theorem d_mo_init_679 : decode (q_cc m_mo_init) 679 = .ok (.iconst 0, 1) := by decide +kernel
theorem d_mo_init_680 : decode (q_cc m_mo_init) 680 = .ok (.bipush 109, 2) := by decide +kernel
theorem d_mo_init_682 : decode (q_cc m_mo_init) 682 = .ok (.castore, 1) := by decide +kernel
theorem d_mo_init_683 : decode (q_cc m_mo_init) 683 = .ok (.dup, 1) := by decide +kernel
theorem d_mo_init_684 : decode (q_cc m_mo_init) 684 = .ok (.iconst 1, 1) := by decide +kernel
theorem d_mo_init_685 : decode (q_cc m_mo_init) 685 = .ok (.bipush 97, 2) := by decide +kernel
theorem d_mo_init_687 : decode (q_cc m_mo_init) 687 = .ok (.castore, 1) := by decide +kernel
theorem d_mo_init_688 : decode (q_cc m_mo_init) 688 = .ok (.dup, 1) := by decide +kernel
theorem d_mo_init_689 : decode (q_cc m_mo_init) 689 = .ok (.iconst 2, 1) := by decide +kernel
theorem d_mo_init_690 : decode (q_cc m_mo_init) 690 = .ok (.bipush 120, 2) := by decide +kernel
theorem d_mo_init_692 : decode (q_cc m_mo_init) 692 = .ok (.castore, 1) := by decide +kernel
theorem d_mo_init_693 : decode (q_cc m_mo_init) 693 = .ok (.putfield 90, 3) := by decide +kernel
theorem d_mo_init_696 : decode (q_cc m_mo_init) 696 = .ok (.aload_n 0, 1) := by decide +kernel
theorem d_mo_init_697 : decode (q_cc m_mo_init) 697 = .ok (.bipush 14, 2) := by decide +kernel
theorem d_mo_init_699 : decode (q_cc m_mo_init) 699 = .ok (.newarray .int, 2) := by decide +kernel
theorem d_mo_init_701 : decode (q_cc m_mo_init) 701 = .ok (.putfield 93, 3) := by decide +kernel
theorem d_mo_init_704 : decode (q_cc m_mo_init) 704 = .ok (.aload_n 0, 1) := by decide +kernel
theorem d_mo_init_705 : decode (q_cc m_mo_init) 705 = .ok (.bipush 64, 2) := by decide +kernel
theorem d_mo_init_707 : decode (q_cc m_mo_init) 707 = .ok (.newarray .long, 2) := by decide +kernel
theorem d_mo_init_709 : decode (q_cc m_mo_init) 709 = .ok (.putfield 96, 3) := by decide +kernel
theorem d_mo_init_712 : decode (q_cc m_mo_init) 712 = .ok (.aload_n 0, 1) := by decide +kernel
theorem d_mo_init_713 : decode (q_cc m_mo_init) 713 = .ok (.bipush 24, 2) := by decide +kernel
theorem d_mo_init_715 : decode (q_cc m_mo_init) 715 = .ok (.newarray .int, 2) := by decide +kernel
theorem d_mo_init_717 : decode (q_cc m_mo_init) 717 = .ok (.putfield 100, 3) := by decide +kernel
theorem d_mo_init_720 : decode (q_cc m_mo_init) 720 = .ok (.aload_n 0, 1) := by decide +kernel
theorem d_mo_init_721 : decode (q_cc m_mo_init) 721 = .ok (.bipush 96, 2) := by decide +kernel
theorem d_mo_init_723 : decode (q_cc m_mo_init) 723 = .ok (.newarray .int, 2) := by decide +kernel
theorem d_mo_init_725 : decode (q_cc m_mo_init) 725 = .ok (.putfield 103, 3) := by decide +kernel
theorem d_mo_init_728 : decode (q_cc m_mo_init) 728 = .ok (.aload_n 0, 1) := by decide +kernel
theorem d_mo_init_729 : decode (q_cc m_mo_init) 729 = .ok (.bipush 60, 2) := by decide +kernel
theorem d_mo_init_731 : decode (q_cc m_mo_init) 731 = .ok (.newarray .int, 2) := by decide +kernel
theorem d_mo_init_733 : decode (q_cc m_mo_init) 733 = .ok (.putfield 106, 3) := by decide +kernel
theorem d_mo_init_736 : decode (q_cc m_mo_init) 736 = .ok (.aload_n 0, 1) := by decide +kernel
theorem d_mo_init_737 : decode (q_cc m_mo_init) 737 = .ok (.bipush 60, 2) := by decide +kernel
theorem d_mo_init_739 : decode (q_cc m_mo_init) 739 = .ok (.newarray .int, 2) := by decide +kernel
theorem d_mo_init_741 : decode (q_cc m_mo_init) 741 = .ok (.putfield 109, 3) := by decide +kernel
theorem d_mo_init_744 : decode (q_cc m_mo_init) 744 = .ok (.aload_n 0, 1) := by decide +kernel
theorem d_mo_init_745 : decode (q_cc m_mo_init) 745 = .ok (.bipush 10, 2) := by decide +kernel
theorem d_mo_init_747 : decode (q_cc m_mo_init) 747 = .ok (.newarray .int, 2) := by decide +kernel
theorem d_mo_init_749 : decode (q_cc m_mo_init) 749 = .ok (.putfield 112, 3) := by decide +kernel
theorem d_mo_init_752 : decode (q_cc m_mo_init) 752 = .ok (.aload_n 0, 1) := by decide +kernel
theorem d_mo_init_753 : decode (q_cc m_mo_init) 753 = .ok (.sipush 128, 3) := by decide +kernel
theorem d_mo_init_756 : decode (q_cc m_mo_init) 756 = .ok (.newarray .int, 2) := by decide +kernel
theorem d_mo_init_758 : decode (q_cc m_mo_init) 758 = .ok (.putfield 115, 3) := by decide +kernel
theorem d_mo_init_761 : decode (q_cc m_mo_init) 761 = .ok (.aload_n 0, 1) := by decide +kernel
theorem d_mo_init_762 : decode (q_cc m_mo_init) 762 = .ok (.sipush 240, 3) := by decide +kernel
theorem d_mo_init_765 : decode (q_cc m_mo_init) 765 = .ok (.newarray .int, 2) := by decide +kernel
theorem d_mo_init_767 : decode (q_cc m_mo_init) 767 = .ok (.putfield 118, 3) := by decide +kernel
theorem d_mo_init_770 : decode (q_cc m_mo_init) 770 = .ok (.aload_n 0, 1) := by decide +kernel
theorem d_mo_init_771 : decode (q_cc m_mo_init) 771 = .ok (.sipush 3200, 3) := by decide +kernel
theorem d_mo_init_774 : decode (q_cc m_mo_init) 774 = .ok (.newarray .int, 2) := by decide +kernel
theorem d_mo_init_776 : decode (q_cc m_mo_init) 776 = .ok (.putfield 121, 3) := by decide +kernel
theorem d_mo_init_779 : decode (q_cc m_mo_init) 779 = .ok (.aload_n 0, 1) := by decide +kernel
theorem d_mo_init_780 : decode (q_cc m_mo_init) 780 = .ok (.sipush 1700, 3) := by decide +kernel
theorem d_mo_init_783 : decode (q_cc m_mo_init) 783 = .ok (.newarray .int, 2) := by decide +kernel
theorem d_mo_init_785 : decode (q_cc m_mo_init) 785 = .ok (.putfield 124, 3) := by decide +kernel
theorem d_mo_init_788 : decode (q_cc m_mo_init) 788 = .ok (.aload_n 0, 1) := by decide +kernel
theorem d_mo_init_789 : decode (q_cc m_mo_init) 789 = .ok (.bipush 12, 2) := by decide +kernel
theorem d_mo_init_791 : decode (q_cc m_mo_init) 791 = .ok (.newarray .int, 2) := by decide +kernel
theorem d_mo_init_793 : decode (q_cc m_mo_init) 793 = .ok (.putfield 127, 3) := by decide +kernel
theorem d_mo_init_796 : decode (q_cc m_mo_init) 796 = .ok (.aload_n 0, 1) := by decide +kernel
theorem d_mo_init_797 : decode (q_cc m_mo_init) 797 = .ok (.bipush 12, 2) := by decide +kernel
theorem d_mo_init_799 : decode (q_cc m_mo_init) 799 = .ok (.newarray .int, 2) := by decide +kernel
theorem d_mo_init_801 : decode (q_cc m_mo_init) 801 = .ok (.putfield 130, 3) := by decide +kernel
theorem d_mo_init_804 : decode (q_cc m_mo_init) 804 = .ok (.aload_n 0, 1) := by decide +kernel
theorem d_mo_init_805 : decode (q_cc m_mo_init) 805 = .ok (.bipush 12, 2) := by decide +kernel
theorem d_mo_init_807 : decode (q_cc m_mo_init) 807 = .ok (.newarray .int, 2) := by decide +kernel
theorem d_mo_init_809 : decode (q_cc m_mo_init) 809 = .ok (.putfield 133, 3) := by decide +kernel
theorem d_mo_init_812 : decode (q_cc m_mo_init) 812 = .ok (.aload_n 0, 1) := by decide +kernel
theorem d_mo_init_813 : decode (q_cc m_mo_init) 813 = .ok (.sipush 1700, 3) := by decide +kernel
theorem d_mo_init_816 : decode (q_cc m_mo_init) 816 = .ok (.newarray .long, 2) := by decide +kernel
theorem d_mo_init_818 : decode (q_cc m_mo_init) 818 = .ok (.putfield 136, 3) := by decide +kernel
theorem d_mo_init_821 : decode (q_cc m_mo_init) 821 = .ok (.aload_n 0, 1) := by decide +kernel
theorem d_mo_init_822 : decode (q_cc m_mo_init) 822 = .ok (.bipush 6, 2) := by decide +kernel
theorem d_mo_init_824 : decode (q_cc m_mo_init) 824 = .ok (.newarray .int, 2) := by decide +kernel
theorem d_mo_init_826 : decode (q_cc m_mo_init) 826 = .ok (.putfield 139, 3) := by decide +kernel
theorem d_mo_init_829 : decode (q_cc m_mo_init) 829 = .ok (.aload_n 0, 1) := by decide +kernel
theorem d_mo_init_830 : decode (q_cc m_mo_init) 830 = .ok (.bipush 120, 2) := by decide +kernel
theorem d_mo_init_832 : decode (q_cc m_mo_init) 832 = .ok (.newarray .int, 2) := by decide +kernel
theorem d_mo_init_834 : decode (q_cc m_mo_init) 834 = .ok (.putfield 142, 3) := by decide +kernel
theorem d_mo_init_837 : decode (q_cc m_mo_init) 837 = .ok (.aload_n 0, 1) := by decide +kernel
theorem d_mo_init_838 : decode (q_cc m_mo_init) 838 = .ok (.bipush 120, 2) := by decide +kernel
theorem d_mo_init_840 : decode (q_cc m_mo_init) 840 = .ok (.newarray .int, 2) := by decide +kernel
theorem d_mo_init_842 : decode (q_cc m_mo_init) 842 = .ok (.putfield 145, 3) := by decide +kernel
theorem d_mo_init_845 : decode (q_cc m_mo_init) 845 = .ok (.aload_n 0, 1) := by decide +kernel
theorem d_mo_init_846 : decode (q_cc m_mo_init) 846 = .ok (.bipush 24, 2) := by decide +kernel
theorem d_mo_init_848 : decode (q_cc m_mo_init) 848 = .ok (.newarray .int, 2) := by decide +kernel
theorem d_mo_init_850 : decode (q_cc m_mo_init) 850 = .ok (.putfield 148, 3) := by decide +kernel
theorem d_mo_init_853 : decode (q_cc m_mo_init) 853 = .ok (.aload_n 0, 1) := by decide +kernel
theorem d_mo_init_854 : decode (q_cc m_mo_init) 854 = .ok (.bipush 24, 2) := by decide +kernel
theorem d_mo_init_856 : decode (q_cc m_mo_init) 856 = .ok (.newarray .int, 2) := by decide +kernel
theorem d_mo_init_858 : decode (q_cc m_mo_init) 858 = .ok (.putfield 151, 3) := by decide +kernel
theorem d_mo_init_861 : decode (q_cc m_mo_init) 861 = .ok (.aload_n 0, 1) := by decide +kernel
theorem d_mo_init_862 : decode (q_cc m_mo_init) 862 = .ok (.sipush 720, 3) := by decide +kernel
theorem d_mo_init_865 : decode (q_cc m_mo_init) 865 = .ok (.newarray .int, 2) := by decide +kernel
theorem d_mo_init_867 : decode (q_cc m_mo_init) 867 = .ok (.putfield 154, 3) := by decide +kernel
theorem d_mo_init_870 : decode (q_cc m_mo_init) 870 = .ok (.aload_n 0, 1) := by decide +kernel
theorem d_mo_init_871 : decode (q_cc m_mo_init) 871 = .ok (.bipush 24, 2) := by decide +kernel
theorem d_mo_init_873 : decode (q_cc m_mo_init) 873 = .ok (.newarray .int, 2) := by decide +kernel
theorem d_mo_init_875 : decode (q_cc m_mo_init) 875 = .ok (.putfield 157, 3) := by decide +kernel
theorem d_mo_init_878 : decode (q_cc m_mo_init) 878 = .ok (.aload_n 0, 1) := by decide +kernel
theorem d_mo_init_879 : decode (q_cc m_mo_init) 879 = .ok (.bipush 24, 2) := by decide +kernel
theorem d_mo_init_881 : decode (q_cc m_mo_init) 881 = .ok (.newarray .int, 2) := by decide +kernel
theorem d_mo_init_883 : decode (q_cc m_mo_init) 883 = .ok (.putfield 160, 3) := by decide +kernel
theorem d_mo_init_886 : decode (q_cc m_mo_init) 886 = .ok (.aload_n 0, 1) := by decide +kernel
theorem d_mo_init_887 : decode (q_cc m_mo_init) 887 = .ok (.bipush 24, 2) := by decide +kernel
theorem d_mo_init_889 : decode (q_cc m_mo_init) 889 = .ok (.newarray .int, 2) := by decide +kernel
theorem d_mo_init_891 : decode (q_cc m_mo_init) 891 = .ok (.putfield 163, 3) := by decide +kernel
theorem d_mo_init_894 : decode (q_cc m_mo_init) 894 = .ok (.aload_n 0, 1) := by decide +kernel
theorem d_mo_init_895 : decode (q_cc m_mo_init) 895 = .ok (.bipush 24, 2) := by decide +kernel
theorem d_mo_init_897 : decode (q_cc m_mo_init) 897 = .ok (.newarray .int, 2) := by decide +kernel
theorem d_mo_init_899 : decode (q_cc m_mo_init) 899 = .ok (.putfield 166, 3) := by decide +kernel
theorem d_mo_init_902 : decode (q_cc m_mo_init) 902 = .ok (.aload_n 0, 1) := by decide +kernel
theorem d_mo_init_903 : decode (q_cc m_mo_init) 903 = .ok (.bipush 13, 2) := by decide +kernel
theorem d_mo_init_905 : decode (q_cc m_mo_init) 905 = .ok (.newarray .int, 2) := by decide +kernel
theorem d_mo_init_907 : decode (q_cc m_mo_init) 907 = .ok (.putfield 169, 3) := by decide +kernel
theorem d_mo_init_910 : decode (q_cc m_mo_init) 910 = .ok (.aload_n 0, 1) := by decide +kernel
theorem d_mo_init_911 : decode (q_cc m_mo_init) 911 = .ok (.bipush 24, 2) := by decide +kernel
theorem d_mo_init_913 : decode (q_cc m_mo_init) 913 = .ok (.newarray .int, 2) := by decide +kernel
theorem d_mo_init_915 : decode (q_cc m_mo_init) 915 = .ok (.putfield 172, 3) := by decide +kernel
theorem d_mo_init_918 : decode (q_cc m_mo_init) 918 = .ok (.aload_n 0, 1) := by decide +kernel
theorem d_mo_init_919 : decode (q_cc m_mo_init) 919 = .ok (.lconst 1, 1) := by decide +kernel
theorem d_mo_init_920 : decode (q_cc m_mo_init) 920 = .ok (.putfield 175, 3) := by decide +kernel
theorem d_mo_init_923 : decode (q_cc m_mo_init) 923 = .ok (.aload_n 0, 1) := by decide +kernel
theorem d_mo_init_924 : decode (q_cc m_mo_init) 924 = .ok (.bipush 25, 2) := by decide +kernel
theorem d_mo_init_926 : decode (q_cc m_mo_init) 926 = .ok (.newarray .int, 2) := by decide +kernel
theorem d_mo_init_928 : decode (q_cc m_mo_init) 928 = .ok (.putfield 179, 3) := by decide +kernel
theorem d_mo_init_931 : decode (q_cc m_mo_init) 931 = .ok (.return_, 1) := by decide +kernel
theorem d_mo_isIn_0 : decode (q_cc m_mo_isIn) 0 = .ok (.lload_n 0, 1) := by decide +kernel
theorem d_mo_isIn_1 : decode (q_cc m_mo_isIn) 1 = .ok (.lload_n 2, 1) := by decide +kernel
theorem d_mo_isIn_2 : decode (q_cc m_mo_isIn) 2 = .ok (.lcmp, 1) := by decide +kernel
theorem d_mo_isIn_3 : decode (q_cc m_mo_isIn) 3 = .ok (.ifCond .lt 14, 3) := by decide +kernel
theorem d_mo_isIn_6 : decode (q_cc m_mo_isIn) 6 = .ok (.lload_n 0, 1) := by decide +kernel
theorem d_mo_isIn_7 : decode (q_cc m_mo_isIn) 7 = .ok (.lload 4, 2) := by decide +kernel
theorem d_mo_isIn_9 : decode (q_cc m_mo_isIn) 9 = .ok (.lcmp, 1) := by decide +kernel
theorem d_mo_isIn_10 : decode (q_cc m_mo_isIn) 10 = .ok (.ifCond .gt 7, 3) := by decide +kernel
theorem d_mo_isIn_13 : decode (q_cc m_mo_isIn) 13 = .ok (.iconst 1, 1) := by decide +kernel
theorem d_mo_isIn_14 : decode (q_cc m_mo_isIn) 14 = .ok (.goto 4, 3) := by decide +kernel
theorem d_mo_isIn_17 : decode (q_cc m_mo_isIn) 17 = .ok (.iconst 0, 1) := by decide +kernel
theorem d_mo_isIn_18 : decode (q_cc m_mo_isIn) 18 = .ok (.ireturn, 1) := by decide +kernel
theorem d_mo_feed_0 : decode (q_cc m_mo_feed) 0 = .ok (.aload_n 0, 1) := by decide +kernel
theorem d_mo_feed_1 : decode (q_cc m_mo_feed) 1 = .ok (.getfield 182, 3) := by decide +kernel
theorem d_mo_feed_4 : decode (q_cc m_mo_feed) 4 = .ok (.bipush 20, 2) := by decide +kernel
theorem d_mo_feed_6 : decode (q_cc m_mo_feed) 6 = .ok (.iadd, 1) := by decide +kernel
theorem d_mo_feed_7 : decode (q_cc m_mo_feed) 7 = .ok (.sipush 1600, 3) := by decide +kernel
theorem d_mo_feed_10 : decode (q_cc m_mo_feed) 10 = .ok (.if_icmp .le 5, 3) := by decide +kernel
theorem d_mo_feed_13 : decode (q_cc m_mo_feed) 13 = .ok (.iconst (-1), 1) := by decide +kernel
theorem d_mo_feed_14 : decode (q_cc m_mo_feed) 14 = .ok (.ireturn, 1) := by decide +kernel
theorem d_mo_feed_15 : decode (q_cc m_mo_feed) 15 = .ok (.iconst 0, 1) := by decide +kernel
theorem d_mo_feed_16 : decode (q_cc m_mo_feed) 16 = .ok (.istore 6, 2) := by decide +kernel
theorem d_mo_feed_18 : decode (q_cc m_mo_feed) 18 = .ok (.iload 6, 2) := by decide +kernel
theorem d_mo_feed_20 : decode (q_cc m_mo_feed) 20 = .ok (.bipush 20, 2) := by decide +kernel
theorem d_mo_feed_22 : decode (q_cc m_mo_feed) 22 = .ok (.if_icmp .ge 92, 3) := by decide +kernel
theorem d_mo_feed_25 : decode (q_cc m_mo_feed) 25 = .ok (.iload 6, 2) := by decide +kernel
theorem d_mo_feed_27 : decode (q_cc m_mo_feed) 27 = .ok (.iconst 4, 1) := by decide +kernel
theorem d_mo_feed_28 : decode (q_cc m_mo_feed) 28 = .ok (.if_icmp .ge 7, 3) := by decide +kernel
theorem d_mo_feed_31 : decode (q_cc m_mo_feed) 31 = .ok (.iload_n 1, 1) := by decide +kernel
theorem d_mo_feed_32 : decode (q_cc m_mo_feed) 32 = .ok (.goto 39, 3) := by decide +kernel
theorem d_mo_feed_35 : decode (q_cc m_mo_feed) 35 = .ok (.iload 6, 2) := by decide +kernel
theorem d_mo_feed_37 : decode (q_cc m_mo_feed) 37 = .ok (.bipush 8, 2) := by decide +kernel
theorem d_mo_feed_39 : decode (q_cc m_mo_feed) 39 = .ok (.if_icmp .ge 7, 3) := by decide +kernel
theorem d_mo_feed_42 : decode (q_cc m_mo_feed) 42 = .ok (.iload_n 2, 1) := by decide +kernel
theorem d_mo_feed_43 : decode (q_cc m_mo_feed) 43 = .ok (.goto 28, 3) := by decide +kernel
theorem d_mo_feed_46 : decode (q_cc m_mo_feed) 46 = .ok (.iload 6, 2) := by decide +kernel
theorem d_mo_feed_48 : decode (q_cc m_mo_feed) 48 = .ok (.bipush 12, 2) := by decide +kernel
theorem d_mo_feed_50 : decode (q_cc m_mo_feed) 50 = .ok (.if_icmp .ge 7, 3) := by decide +kernel
theorem d_mo_feed_53 : decode (q_cc m_mo_feed) 53 = .ok (.iload_n 3, 1) := by decide +kernel
theorem d_mo_feed_54 : decode (q_cc m_mo_feed) 54 = .ok (.goto 17, 3) := by decide +kernel
theorem d_mo_feed_57 : decode (q_cc m_mo_feed) 57 = .ok (.iload 6, 2) := by decide +kernel
theorem d_mo_feed_59 : decode (q_cc m_mo_feed) 59 = .ok (.bipush 16, 2) := by decide +kernel
theorem d_mo_feed_61 : decode (q_cc m_mo_feed) 61 = .ok (.if_icmp .ge 8, 3) := by decide +kernel
theorem d_mo_feed_64 : decode (q_cc m_mo_feed) 64 = .ok (.iload 4, 2) := by decide +kernel
theorem d_mo_feed_66 : decode (q_cc m_mo_feed) 66 = .ok (.goto 5, 3) := by decide +kernel
theorem d_mo_feed_69 : decode (q_cc m_mo_feed) 69 = .ok (.iload 5, 2) := by decide +kernel
theorem d_mo_feed_71 : decode (q_cc m_mo_feed) 71 = .ok (.istore 7, 2) := by decide +kernel
theorem d_mo_feed_73 : decode (q_cc m_mo_feed) 73 = .ok (.aload_n 0, 1) := by decide +kernel
theorem d_mo_feed_74 : decode (q_cc m_mo_feed) 74 = .ok (.getfield 7, 3) := by decide +kernel
theorem d_mo_feed_77 : decode (q_cc m_mo_feed) 77 = .ok (.aload_n 0, 1) := by decide +kernel
theorem d_mo_feed_78 : decode (q_cc m_mo_feed) 78 = .ok (.getfield 182, 3) := by decide +kernel
theorem d_mo_feed_81 : decode (q_cc m_mo_feed) 81 = .ok (.iload 7, 2) := by decide +kernel
theorem d_mo_feed_83 : decode (q_cc m_mo_feed) 83 = .ok (.bipush 8, 2) := by decide +kernel
theorem d_mo_feed_85 : decode (q_cc m_mo_feed) 85 = .ok (.iconst 3, 1) := by decide +kernel
theorem d_mo_feed_86 : decode (q_cc m_mo_feed) 86 = .ok (.iload 6, 2) := by decide +kernel
theorem d_mo_feed_88 : decode (q_cc m_mo_feed) 88 = .ok (.iconst 4, 1) := by decide +kernel
theorem d_mo_feed_89 : decode (q_cc m_mo_feed) 89 = .ok (.irem, 1) := by decide +kernel
theorem d_mo_feed_90 : decode (q_cc m_mo_feed) 90 = .ok (.isub, 1) := by decide +kernel
theorem d_mo_feed_91 : decode (q_cc m_mo_feed) 91 = .ok (.imul, 1) := by decide +kernel
theorem d_mo_feed_92 : decode (q_cc m_mo_feed) 92 = .ok (.ishr, 1) := by decide +kernel
theorem d_mo_feed_93 : decode (q_cc m_mo_feed) 93 = .ok (.sipush 255, 3) := by decide +kernel
theorem d_mo_feed_96 : decode (q_cc m_mo_feed) 96 = .ok (.iand, 1) := by decide +kernel
theorem d_mo_feed_97 : decode (q_cc m_mo_feed) 97 = .ok (.iastore, 1) := by decide +kernel
theorem d_mo_feed_98 : decode (q_cc m_mo_feed) 98 = .ok (.aload_n 0, 1) := by decide +kernel
theorem d_mo_feed_99 : decode (q_cc m_mo_feed) 99 = .ok (.dup, 1) := by decide +kernel
theorem d_mo_feed_100 : decode (q_cc m_mo_feed) 100 = .ok (.getfield 182, 3) := by decide +kernel
theorem d_mo_feed_103 : decode (q_cc m_mo_feed) 103 = .ok (.iconst 1, 1) := by decide +kernel
theorem d_mo_feed_104 : decode (q_cc m_mo_feed) 104 = .ok (.iadd, 1) := by decide +kernel
theorem d_mo_feed_105 : decode (q_cc m_mo_feed) 105 = .ok (.putfield 182, 3) := by decide +kernel
theorem d_mo_feed_108 : decode (q_cc m_mo_feed) 108 = .ok (.iinc 6 1, 3) := by decide +kernel
theorem d_mo_feed_111 : decode (q_cc m_mo_feed) 111 = .ok (.goto (-93), 3) := by decide +kernel
theorem d_mo_feed_114 : decode (q_cc m_mo_feed) 114 = .ok (.aload_n 0, 1) := by decide +kernel
theorem d_mo_feed_115 : decode (q_cc m_mo_feed) 115 = .ok (.getfield 182, 3) := by decide +kernel
theorem d_mo_feed_118 : decode (q_cc m_mo_feed) 118 = .ok (.ireturn, 1) := by decide +kernel
theorem d_mo_end_0 : decode (q_cc m_mo_end) 0 = .ok (.iload_n 1, 1) := by decide +kernel
theorem d_mo_end_1 : decode (q_cc m_mo_end) 1 = .ok (.ifCond .lt 11, 3) := by decide +kernel
theorem d_mo_end_4 : decode (q_cc m_mo_end) 4 = .ok (.iload_n 1, 1) := by decide +kernel
theorem d_mo_end_5 : decode (q_cc m_mo_end) 5 = .ok (.aload_n 0, 1) := by decide +kernel
theorem d_mo_end_6 : decode (q_cc m_mo_end) 6 = .ok (.getfield 182, 3) := by decide +kernel
theorem d_mo_end_9 : decode (q_cc m_mo_end) 9 = .ok (.if_icmp .le 5, 3) := by decide +kernel
theorem d_mo_end_12 : decode (q_cc m_mo_end) 12 = .ok (.iconst 0, 1) := by decide +kernel
theorem d_mo_end_13 : decode (q_cc m_mo_end) 13 = .ok (.ireturn, 1) := by decide +kernel
theorem d_mo_end_14 : decode (q_cc m_mo_end) 14 = .ok (.aload_n 0, 1) := by decide +kernel
theorem d_mo_end_15 : decode (q_cc m_mo_end) 15 = .ok (.iload_n 1, 1) := by decide +kernel
theorem d_mo_end_16 : decode (q_cc m_mo_end) 16 = .ok (.putfield 182, 3) := by decide +kernel
theorem d_mo_end_19 : decode (q_cc m_mo_end) 19 = .ok (.iconst 1, 1) := by decide +kernel
theorem d_mo_end_20 : decode (q_cc m_mo_end) 20 = .ok (.ireturn, 1) := by decide +kernel
theorem d_mo_fail_0 : decode (q_cc m_mo_fail) 0 = .ok (.aload_n 0, 1) := by decide +kernel
theorem d_mo_fail_1 : decode (q_cc m_mo_fail) 1 = .ok (.getfield 185, 3) := by decide +kernel
theorem d_mo_fail_4 : decode (q_cc m_mo_fail) 4 = .ok (.ifCond .eq 4, 3) := by decide +kernel
theorem d_mo_fail_7 : decode (q_cc m_mo_fail) 7 = .ok (.return_, 1) := by decide +kernel
theorem d_mo_fail_8 : decode (q_cc m_mo_fail) 8 = .ok (.aload_n 0, 1) := by decide +kernel
theorem d_mo_fail_9 : decode (q_cc m_mo_fail) 9 = .ok (.iload_n 1, 1) := by decide +kernel
theorem d_mo_fail_10 : decode (q_cc m_mo_fail) 10 = .ok (.putfield 185, 3) := by decide +kernel
theorem d_mo_fail_13 : decode (q_cc m_mo_fail) 13 = .ok (.aload_n 0, 1) := by decide +kernel
theorem d_mo_fail_14 : decode (q_cc m_mo_fail) 14 = .ok (.iload_n 2, 1) := by decide +kernel
theorem d_mo_fail_15 : decode (q_cc m_mo_fail) 15 = .ok (.putfield 188, 3) := by decide +kernel
theorem d_mo_fail_18 : decode (q_cc m_mo_fail) 18 = .ok (.return_, 1) := by decide +kernel
theorem d_mo_isLetter_0 : decode (q_cc m_mo_isLetter) 0 = .ok (.iload_n 0, 1) := by decide +kernel
theorem d_mo_isLetter_1 : decode (q_cc m_mo_isLetter) 1 = .ok (.bipush 97, 2) := by decide +kernel
theorem d_mo_isLetter_3 : decode (q_cc m_mo_isLetter) 3 = .ok (.if_icmp .lt 13, 3) := by decide +kernel
theorem d_mo_isLetter_6 : decode (q_cc m_mo_isLetter) 6 = .ok (.iload_n 0, 1) := by decide +kernel
theorem d_mo_isLetter_7 : decode (q_cc m_mo_isLetter) 7 = .ok (.bipush 122, 2) := by decide +kernel
theorem d_mo_isLetter_9 : decode (q_cc m_mo_isLetter) 9 = .ok (.if_icmp .gt 7, 3) := by decide +kernel
theorem d_mo_isLetter_12 : decode (q_cc m_mo_isLetter) 12 = .ok (.iconst 1, 1) := by decide +kernel
theorem d_mo_isLetter_13 : decode (q_cc m_mo_isLetter) 13 = .ok (.goto 4, 3) := by decide +kernel
theorem d_mo_isLetter_16 : decode (q_cc m_mo_isLetter) 16 = .ok (.iconst 0, 1) := by decide +kernel
theorem d_mo_isLetter_17 : decode (q_cc m_mo_isLetter) 17 = .ok (.ireturn, 1) := by decide +kernel
theorem d_mo_isDigit_0 : decode (q_cc m_mo_isDigit) 0 = .ok (.iload_n 0, 1) := by decide +kernel
theorem d_mo_isDigit_1 : decode (q_cc m_mo_isDigit) 1 = .ok (.bipush 48, 2) := by decide +kernel
theorem d_mo_isDigit_3 : decode (q_cc m_mo_isDigit) 3 = .ok (.if_icmp .lt 13, 3) := by decide +kernel
theorem d_mo_isDigit_6 : decode (q_cc m_mo_isDigit) 6 = .ok (.iload_n 0, 1) := by decide +kernel
theorem d_mo_isDigit_7 : decode (q_cc m_mo_isDigit) 7 = .ok (.bipush 57, 2) := by decide +kernel
theorem d_mo_isDigit_9 : decode (q_cc m_mo_isDigit) 9 = .ok (.if_icmp .gt 7, 3) := by decide +kernel
theorem d_mo_isDigit_12 : decode (q_cc m_mo_isDigit) 12 = .ok (.iconst 1, 1) := by decide +kernel
theorem d_mo_isDigit_13 : decode (q_cc m_mo_isDigit) 13 = .ok (.goto 4, 3) := by decide +kernel
theorem d_mo_isDigit_16 : decode (q_cc m_mo_isDigit) 16 = .ok (.iconst 0, 1) := by decide +kernel
theorem d_mo_isDigit_17 : decode (q_cc m_mo_isDigit) 17 = .ok (.ireturn, 1) := by decide +kernel
theorem d_mo_look_0 : decode (q_cc m_mo_look) 0 = .ok (.aload_n 0, 1) := by decide +kernel
theorem d_mo_look_1 : decode (q_cc m_mo_look) 1 = .ok (.getfield 191, 3) := by decide +kernel
theorem d_mo_look_4 : decode (q_cc m_mo_look) 4 = .ok (.aload_n 0, 1) := by decide +kernel
theorem d_mo_look_5 : decode (q_cc m_mo_look) 5 = .ok (.getfield 194, 3) := by decide +kernel
theorem d_mo_look_8 : decode (q_cc m_mo_look) 8 = .ok (.if_icmp .ge 44, 3) := by decide +kernel
theorem d_mo_look_11 : decode (q_cc m_mo_look) 11 = .ok (.aload_n 0, 1) := by decide +kernel
theorem d_mo_look_12 : decode (q_cc m_mo_look) 12 = .ok (.getfield 7, 3) := by decide +kernel
theorem d_mo_look_15 : decode (q_cc m_mo_look) 15 = .ok (.aload_n 0, 1) := by decide +kernel
theorem d_mo_look_16 : decode (q_cc m_mo_look) 16 = .ok (.getfield 191, 3) := by decide +kernel
theorem d_mo_look_19 : decode (q_cc m_mo_look) 19 = .ok (.iaload, 1) := by decide +kernel
theorem d_mo_look_20 : decode (q_cc m_mo_look) 20 = .ok (.bipush 10, 2) := by decide +kernel
theorem d_mo_look_22 : decode (q_cc m_mo_look) 22 = .ok (.if_icmp .eq 17, 3) := by decide +kernel
theorem d_mo_look_25 : decode (q_cc m_mo_look) 25 = .ok (.aload_n 0, 1) := by decide +kernel
theorem d_mo_look_26 : decode (q_cc m_mo_look) 26 = .ok (.getfield 7, 3) := by decide +kernel
theorem d_mo_look_29 : decode (q_cc m_mo_look) 29 = .ok (.aload_n 0, 1) := by decide +kernel
theorem d_mo_look_30 : decode (q_cc m_mo_look) 30 = .ok (.getfield 191, 3) := by decide +kernel
theorem d_mo_look_33 : decode (q_cc m_mo_look) 33 = .ok (.iaload, 1) := by decide +kernel
theorem d_mo_look_34 : decode (q_cc m_mo_look) 34 = .ok (.bipush 32, 2) := by decide +kernel
theorem d_mo_look_36 : decode (q_cc m_mo_look) 36 = .ok (.if_icmp .ne 16, 3) := by decide +kernel
theorem d_mo_look_39 : decode (q_cc m_mo_look) 39 = .ok (.aload_n 0, 1) := by decide +kernel
theorem d_mo_look_40 : decode (q_cc m_mo_look) 40 = .ok (.dup, 1) := by decide +kernel
theorem d_mo_look_41 : decode (q_cc m_mo_look) 41 = .ok (.getfield 191, 3) := by decide +kernel
theorem d_mo_look_44 : decode (q_cc m_mo_look) 44 = .ok (.iconst 1, 1) := by decide +kernel
theorem d_mo_look_45 : decode (q_cc m_mo_look) 45 = .ok (.iadd, 1) := by decide +kernel
theorem d_mo_look_46 : decode (q_cc m_mo_look) 46 = .ok (.putfield 191, 3) := by decide +kernel
theorem d_mo_look_49 : decode (q_cc m_mo_look) 49 = .ok (.goto (-49), 3) := by decide +kernel
theorem d_mo_look_52 : decode (q_cc m_mo_look) 52 = .ok (.aload_n 0, 1) := by decide +kernel
theorem d_mo_look_53 : decode (q_cc m_mo_look) 53 = .ok (.getfield 191, 3) := by decide +kernel
theorem d_mo_look_56 : decode (q_cc m_mo_look) 56 = .ok (.aload_n 0, 1) := by decide +kernel
theorem d_mo_look_57 : decode (q_cc m_mo_look) 57 = .ok (.getfield 194, 3) := by decide +kernel
theorem d_mo_look_60 : decode (q_cc m_mo_look) 60 = .ok (.if_icmp .ge 15, 3) := by decide +kernel
theorem d_mo_look_63 : decode (q_cc m_mo_look) 63 = .ok (.aload_n 0, 1) := by decide +kernel
theorem d_mo_look_64 : decode (q_cc m_mo_look) 64 = .ok (.getfield 7, 3) := by decide +kernel
theorem d_mo_look_67 : decode (q_cc m_mo_look) 67 = .ok (.aload_n 0, 1) := by decide +kernel
theorem d_mo_look_68 : decode (q_cc m_mo_look) 68 = .ok (.getfield 191, 3) := by decide +kernel
theorem d_mo_look_71 : decode (q_cc m_mo_look) 71 = .ok (.iaload, 1) := by decide +kernel
theorem d_mo_look_72 : decode (q_cc m_mo_look) 72 = .ok (.goto 4, 3) := by decide +kernel
theorem d_mo_look_75 : decode (q_cc m_mo_look) 75 = .ok (.iconst (-1), 1) := by decide +kernel
theorem d_mo_look_76 : decode (q_cc m_mo_look) 76 = .ok (.ireturn, 1) := by decide +kernel
theorem d_mo_isHere_0 : decode (q_cc m_mo_isHere) 0 = .ok (.aload_n 0, 1) := by decide +kernel
theorem d_mo_isHere_1 : decode (q_cc m_mo_isHere) 1 = .ok (.getfield 185, 3) := by decide +kernel
theorem d_mo_isHere_4 : decode (q_cc m_mo_isHere) 4 = .ok (.ifCond .ne 24, 3) := by decide +kernel
theorem d_mo_isHere_7 : decode (q_cc m_mo_isHere) 7 = .ok (.aload_n 0, 1) := by decide +kernel
theorem d_mo_isHere_8 : decode (q_cc m_mo_isHere) 8 = .ok (.invokevirtual 197, 3) := by decide +kernel
theorem d_mo_isHere_11 : decode (q_cc m_mo_isHere) 11 = .ok (.invokestatic 201, 3) := by decide +kernel
theorem d_mo_isHere_14 : decode (q_cc m_mo_isHere) 14 = .ok (.ifCond .eq 14, 3) := by decide +kernel
theorem d_mo_isHere_17 : decode (q_cc m_mo_isHere) 17 = .ok (.aload_n 0, 1) := by decide +kernel
theorem d_mo_isHere_18 : decode (q_cc m_mo_isHere) 18 = .ok (.getfield 191, 3) := by decide +kernel
theorem d_mo_isHere_21 : decode (q_cc m_mo_isHere) 21 = .ok (.aload_n 0, 1) := by decide +kernel
theorem d_mo_isHere_22 : decode (q_cc m_mo_isHere) 22 = .ok (.getfield 205, 3) := by decide +kernel
theorem d_mo_isHere_25 : decode (q_cc m_mo_isHere) 25 = .ok (.if_icmp .ne 5, 3) := by decide +kernel
theorem d_mo_isHere_28 : decode (q_cc m_mo_isHere) 28 = .ok (.iconst 0, 1) := by decide +kernel
theorem d_mo_isHere_29 : decode (q_cc m_mo_isHere) 29 = .ok (.ireturn, 1) := by decide +kernel
theorem d_mo_isHere_30 : decode (q_cc m_mo_isHere) 30 = .ok (.aload_n 0, 1) := by decide +kernel
theorem d_mo_isHere_31 : decode (q_cc m_mo_isHere) 31 = .ok (.getfield 191, 3) := by decide +kernel
theorem d_mo_isHere_34 : decode (q_cc m_mo_isHere) 34 = .ok (.istore_n 2, 1) := by decide +kernel
theorem d_mo_isHere_35 : decode (q_cc m_mo_isHere) 35 = .ok (.iload_n 2, 1) := by decide +kernel
theorem d_mo_isHere_36 : decode (q_cc m_mo_isHere) 36 = .ok (.aload_n 0, 1) := by decide +kernel
theorem d_mo_isHere_37 : decode (q_cc m_mo_isHere) 37 = .ok (.getfield 194, 3) := by decide +kernel
theorem d_mo_isHere_40 : decode (q_cc m_mo_isHere) 40 = .ok (.if_icmp .ge 21, 3) := by decide +kernel
theorem d_mo_isHere_43 : decode (q_cc m_mo_isHere) 43 = .ok (.aload_n 0, 1) := by decide +kernel
theorem d_mo_isHere_44 : decode (q_cc m_mo_isHere) 44 = .ok (.getfield 7, 3) := by decide +kernel
theorem d_mo_isHere_47 : decode (q_cc m_mo_isHere) 47 = .ok (.iload_n 2, 1) := by decide +kernel
theorem d_mo_isHere_48 : decode (q_cc m_mo_isHere) 48 = .ok (.iaload, 1) := by decide +kernel
theorem d_mo_isHere_49 : decode (q_cc m_mo_isHere) 49 = .ok (.invokestatic 201, 3) := by decide +kernel
theorem d_mo_isHere_52 : decode (q_cc m_mo_isHere) 52 = .ok (.ifCond .eq 9, 3) := by decide +kernel
theorem d_mo_isHere_55 : decode (q_cc m_mo_isHere) 55 = .ok (.iinc 2 1, 3) := by decide +kernel
theorem d_mo_isHere_58 : decode (q_cc m_mo_isHere) 58 = .ok (.goto (-23), 3) := by decide +kernel
theorem d_mo_isHere_61 : decode (q_cc m_mo_isHere) 61 = .ok (.iload_n 2, 1) := by decide +kernel
theorem d_mo_isHere_62 : decode (q_cc m_mo_isHere) 62 = .ok (.aload_n 0, 1) := by decide +kernel
theorem d_mo_isHere_63 : decode (q_cc m_mo_isHere) 63 = .ok (.getfield 191, 3) := by decide +kernel
theorem d_mo_isHere_66 : decode (q_cc m_mo_isHere) 66 = .ok (.isub, 1) := by decide +kernel
theorem d_mo_isHere_67 : decode (q_cc m_mo_isHere) 67 = .ok (.aload_n 1, 1) := by decide +kernel
theorem d_mo_isHere_68 : decode (q_cc m_mo_isHere) 68 = .ok (.arraylength, 1) := by decide +kernel
theorem d_mo_isHere_69 : decode (q_cc m_mo_isHere) 69 = .ok (.if_icmp .eq 5, 3) := by decide +kernel
theorem d_mo_isHere_72 : decode (q_cc m_mo_isHere) 72 = .ok (.iconst 0, 1) := by decide +kernel
theorem d_mo_isHere_73 : decode (q_cc m_mo_isHere) 73 = .ok (.ireturn, 1) := by decide +kernel
theorem d_mo_isHere_74 : decode (q_cc m_mo_isHere) 74 = .ok (.iconst 0, 1) := by decide +kernel
theorem d_mo_isHere_75 : decode (q_cc m_mo_isHere) 75 = .ok (.istore_n 3, 1) := by decide +kernel
theorem d_mo_isHere_76 : decode (q_cc m_mo_isHere) 76 = .ok (.iload_n 3, 1) := by decide +kernel
theorem d_mo_isHere_77 : decode (q_cc m_mo_isHere) 77 = .ok (.aload_n 1, 1) := by decide +kernel
theorem d_mo_isHere_78 : decode (q_cc m_mo_isHere) 78 = .ok (.arraylength, 1) := by decide +kernel
theorem d_mo_isHere_79 : decode (q_cc m_mo_isHere) 79 = .ok (.if_icmp .ge 28, 3) := by decide +kernel
theorem d_mo_isHere_82 : decode (q_cc m_mo_isHere) 82 = .ok (.aload_n 0, 1) := by decide +kernel
theorem d_mo_isHere_83 : decode (q_cc m_mo_isHere) 83 = .ok (.getfield 7, 3) := by decide +kernel
theorem d_mo_isHere_86 : decode (q_cc m_mo_isHere) 86 = .ok (.aload_n 0, 1) := by decide +kernel
theorem d_mo_isHere_87 : decode (q_cc m_mo_isHere) 87 = .ok (.getfield 191, 3) := by decide +kernel
theorem d_mo_isHere_90 : decode (q_cc m_mo_isHere) 90 = .ok (.iload_n 3, 1) := by decide +kernel
theorem d_mo_isHere_91 : decode (q_cc m_mo_isHere) 91 = .ok (.iadd, 1) := by decide +kernel
theorem d_mo_isHere_92 : decode (q_cc m_mo_isHere) 92 = .ok (.iaload, 1) := by decide +kernel
theorem d_mo_isHere_93 : decode (q_cc m_mo_isHere) 93 = .ok (.aload_n 1, 1) := by decide +kernel
theorem d_mo_isHere_94 : decode (q_cc m_mo_isHere) 94 = .ok (.iload_n 3, 1) := by decide +kernel
theorem d_mo_isHere_95 : decode (q_cc m_mo_isHere) 95 = .ok (.caload, 1) := by decide +kernel
theorem d_mo_isHere_96 : decode (q_cc m_mo_isHere) 96 = .ok (.if_icmp .eq 5, 3) := by decide +kernel
theorem d_mo_isHere_99 : decode (q_cc m_mo_isHere) 99 = .ok (.iconst 0, 1) := by decide +kernel
theorem d_mo_isHere_100 : decode (q_cc m_mo_isHere) 100 = .ok (.ireturn, 1) := by decide +kernel
theorem d_mo_isHere_101 : decode (q_cc m_mo_isHere) 101 = .ok (.iinc 3 1, 3) := by decide +kernel
theorem d_mo_isHere_104 : decode (q_cc m_mo_isHere) 104 = .ok (.goto (-28), 3) := by decide +kernel
theorem d_mo_isHere_107 : decode (q_cc m_mo_isHere) 107 = .ok (.iconst 1, 1) := by decide +kernel
theorem d_mo_isHere_108 : decode (q_cc m_mo_isHere) 108 = .ok (.ireturn, 1) := by decide +kernel
theorem d_mo_takes_0 : decode (q_cc m_mo_takes) 0 = .ok (.aload_n 0, 1) := by decide +kernel
theorem d_mo_takes_1 : decode (q_cc m_mo_takes) 1 = .ok (.aload_n 1, 1) := by decide +kernel
theorem d_mo_takes_2 : decode (q_cc m_mo_takes) 2 = .ok (.invokevirtual 208, 3) := by decide +kernel
theorem d_mo_takes_5 : decode (q_cc m_mo_takes) 5 = .ok (.ifCond .ne 5, 3) := by decide +kernel
theorem d_mo_takes_8 : decode (q_cc m_mo_takes) 8 = .ok (.iconst 0, 1) := by decide +kernel
theorem d_mo_takes_9 : decode (q_cc m_mo_takes) 9 = .ok (.ireturn, 1) := by decide +kernel
theorem d_mo_takes_10 : decode (q_cc m_mo_takes) 10 = .ok (.aload_n 0, 1) := by decide +kernel
theorem d_mo_takes_11 : decode (q_cc m_mo_takes) 11 = .ok (.dup, 1) := by decide +kernel
theorem d_mo_takes_12 : decode (q_cc m_mo_takes) 12 = .ok (.getfield 191, 3) := by decide +kernel
theorem d_mo_takes_15 : decode (q_cc m_mo_takes) 15 = .ok (.aload_n 1, 1) := by decide +kernel
theorem d_mo_takes_16 : decode (q_cc m_mo_takes) 16 = .ok (.arraylength, 1) := by decide +kernel
theorem d_mo_takes_17 : decode (q_cc m_mo_takes) 17 = .ok (.iadd, 1) := by decide +kernel
theorem d_mo_takes_18 : decode (q_cc m_mo_takes) 18 = .ok (.putfield 191, 3) := by decide +kernel
theorem d_mo_takes_21 : decode (q_cc m_mo_takes) 21 = .ok (.aload_n 0, 1) := by decide +kernel
theorem d_mo_takes_22 : decode (q_cc m_mo_takes) 22 = .ok (.aload_n 0, 1) := by decide +kernel
theorem d_mo_takes_23 : decode (q_cc m_mo_takes) 23 = .ok (.getfield 191, 3) := by decide +kernel
theorem d_mo_takes_26 : decode (q_cc m_mo_takes) 26 = .ok (.putfield 205, 3) := by decide +kernel
theorem d_mo_takes_29 : decode (q_cc m_mo_takes) 29 = .ok (.iconst 1, 1) := by decide +kernel
theorem d_mo_takes_30 : decode (q_cc m_mo_takes) 30 = .ok (.ireturn, 1) := by decide +kernel
theorem d_mo_asks_0 : decode (q_cc m_mo_asks) 0 = .ok (.aload_n 0, 1) := by decide +kernel
theorem d_mo_asks_1 : decode (q_cc m_mo_asks) 1 = .ok (.getfield 185, 3) := by decide +kernel
theorem d_mo_asks_4 : decode (q_cc m_mo_asks) 4 = .ok (.ifCond .ne 20, 3) := by decide +kernel
theorem d_mo_asks_7 : decode (q_cc m_mo_asks) 7 = .ok (.aload_n 0, 1) := by decide +kernel
theorem d_mo_asks_8 : decode (q_cc m_mo_asks) 8 = .ok (.aload_n 1, 1) := by decide +kernel
theorem d_mo_asks_9 : decode (q_cc m_mo_asks) 9 = .ok (.invokevirtual 212, 3) := by decide +kernel
theorem d_mo_asks_12 : decode (q_cc m_mo_asks) 12 = .ok (.ifCond .ne 12, 3) := by decide +kernel
theorem d_mo_asks_15 : decode (q_cc m_mo_asks) 15 = .ok (.aload_n 0, 1) := by decide +kernel
theorem d_mo_asks_16 : decode (q_cc m_mo_asks) 16 = .ok (.iconst 1, 1) := by decide +kernel
theorem d_mo_asks_17 : decode (q_cc m_mo_asks) 17 = .ok (.aload_n 0, 1) := by decide +kernel
theorem d_mo_asks_18 : decode (q_cc m_mo_asks) 18 = .ok (.getfield 191, 3) := by decide +kernel
theorem d_mo_asks_21 : decode (q_cc m_mo_asks) 21 = .ok (.invokevirtual 215, 3) := by decide +kernel
theorem d_mo_asks_24 : decode (q_cc m_mo_asks) 24 = .ok (.return_, 1) := by decide +kernel
theorem d_mo_takesSign_0 : decode (q_cc m_mo_takesSign) 0 = .ok (.aload_n 0, 1) := by decide +kernel
theorem d_mo_takesSign_1 : decode (q_cc m_mo_takesSign) 1 = .ok (.getfield 185, 3) := by decide +kernel
theorem d_mo_takesSign_4 : decode (q_cc m_mo_takesSign) 4 = .ok (.ifCond .ne 11, 3) := by decide +kernel
theorem d_mo_takesSign_7 : decode (q_cc m_mo_takesSign) 7 = .ok (.aload_n 0, 1) := by decide +kernel
theorem d_mo_takesSign_8 : decode (q_cc m_mo_takesSign) 8 = .ok (.invokevirtual 197, 3) := by decide +kernel
theorem d_mo_takesSign_11 : decode (q_cc m_mo_takesSign) 11 = .ok (.iload_n 1, 1) := by decide +kernel
theorem d_mo_takesSign_12 : decode (q_cc m_mo_takesSign) 12 = .ok (.if_icmp .eq 5, 3) := by decide +kernel
theorem d_mo_takesSign_15 : decode (q_cc m_mo_takesSign) 15 = .ok (.iconst 0, 1) := by decide +kernel
theorem d_mo_takesSign_16 : decode (q_cc m_mo_takesSign) 16 = .ok (.ireturn, 1) := by decide +kernel
theorem d_mo_takesSign_17 : decode (q_cc m_mo_takesSign) 17 = .ok (.aload_n 0, 1) := by decide +kernel
theorem d_mo_takesSign_18 : decode (q_cc m_mo_takesSign) 18 = .ok (.dup, 1) := by decide +kernel
theorem d_mo_takesSign_19 : decode (q_cc m_mo_takesSign) 19 = .ok (.getfield 191, 3) := by decide +kernel
theorem d_mo_takesSign_22 : decode (q_cc m_mo_takesSign) 22 = .ok (.iconst 1, 1) := by decide +kernel
theorem d_mo_takesSign_23 : decode (q_cc m_mo_takesSign) 23 = .ok (.iadd, 1) := by decide +kernel
theorem d_mo_takesSign_24 : decode (q_cc m_mo_takesSign) 24 = .ok (.putfield 191, 3) := by decide +kernel
theorem d_mo_takesSign_27 : decode (q_cc m_mo_takesSign) 27 = .ok (.iconst 1, 1) := by decide +kernel
theorem d_mo_takesSign_28 : decode (q_cc m_mo_takesSign) 28 = .ok (.ireturn, 1) := by decide +kernel
theorem d_mo_asksSign_0 : decode (q_cc m_mo_asksSign) 0 = .ok (.aload_n 0, 1) := by decide +kernel
theorem d_mo_asksSign_1 : decode (q_cc m_mo_asksSign) 1 = .ok (.getfield 185, 3) := by decide +kernel
theorem d_mo_asksSign_4 : decode (q_cc m_mo_asksSign) 4 = .ok (.ifCond .ne 20, 3) := by decide +kernel
theorem d_mo_asksSign_7 : decode (q_cc m_mo_asksSign) 7 = .ok (.aload_n 0, 1) := by decide +kernel
theorem d_mo_asksSign_8 : decode (q_cc m_mo_asksSign) 8 = .ok (.iload_n 1, 1) := by decide +kernel
theorem d_mo_asksSign_9 : decode (q_cc m_mo_asksSign) 9 = .ok (.invokevirtual 219, 3) := by decide +kernel
theorem d_mo_asksSign_12 : decode (q_cc m_mo_asksSign) 12 = .ok (.ifCond .ne 12, 3) := by decide +kernel
theorem d_mo_asksSign_15 : decode (q_cc m_mo_asksSign) 15 = .ok (.aload_n 0, 1) := by decide +kernel
theorem d_mo_asksSign_16 : decode (q_cc m_mo_asksSign) 16 = .ok (.iconst 1, 1) := by decide +kernel
theorem d_mo_asksSign_17 : decode (q_cc m_mo_asksSign) 17 = .ok (.aload_n 0, 1) := by decide +kernel
theorem d_mo_asksSign_18 : decode (q_cc m_mo_asksSign) 18 = .ok (.getfield 191, 3) := by decide +kernel
theorem d_mo_asksSign_21 : decode (q_cc m_mo_asksSign) 21 = .ok (.invokevirtual 215, 3) := by decide +kernel
theorem d_mo_asksSign_24 : decode (q_cc m_mo_asksSign) 24 = .ok (.return_, 1) := by decide +kernel
theorem d_mo_number_0 : decode (q_cc m_mo_number) 0 = .ok (.aload_n 0, 1) := by decide +kernel
theorem d_mo_number_1 : decode (q_cc m_mo_number) 1 = .ok (.getfield 185, 3) := by decide +kernel
theorem d_mo_number_4 : decode (q_cc m_mo_number) 4 = .ok (.ifCond .eq 5, 3) := by decide +kernel
theorem d_mo_number_7 : decode (q_cc m_mo_number) 7 = .ok (.iconst 0, 1) := by decide +kernel
theorem d_mo_number_8 : decode (q_cc m_mo_number) 8 = .ok (.ireturn, 1) := by decide +kernel
theorem d_mo_number_9 : decode (q_cc m_mo_number) 9 = .ok (.aload_n 0, 1) := by decide +kernel
theorem d_mo_number_10 : decode (q_cc m_mo_number) 10 = .ok (.invokevirtual 197, 3) := by decide +kernel
theorem d_mo_number_13 : decode (q_cc m_mo_number) 13 = .ok (.invokestatic 222, 3) := by decide +kernel
theorem d_mo_number_16 : decode (q_cc m_mo_number) 16 = .ok (.ifCond .eq 14, 3) := by decide +kernel
theorem d_mo_number_19 : decode (q_cc m_mo_number) 19 = .ok (.aload_n 0, 1) := by decide +kernel
theorem d_mo_number_20 : decode (q_cc m_mo_number) 20 = .ok (.getfield 191, 3) := by decide +kernel
theorem d_mo_number_23 : decode (q_cc m_mo_number) 23 = .ok (.aload_n 0, 1) := by decide +kernel
theorem d_mo_number_24 : decode (q_cc m_mo_number) 24 = .ok (.getfield 205, 3) := by decide +kernel
theorem d_mo_number_27 : decode (q_cc m_mo_number) 27 = .ok (.if_icmp .ne 14, 3) := by decide +kernel
theorem d_mo_number_30 : decode (q_cc m_mo_number) 30 = .ok (.aload_n 0, 1) := by decide +kernel
theorem d_mo_number_31 : decode (q_cc m_mo_number) 31 = .ok (.iconst 1, 1) := by decide +kernel
theorem d_mo_number_32 : decode (q_cc m_mo_number) 32 = .ok (.aload_n 0, 1) := by decide +kernel
theorem d_mo_number_33 : decode (q_cc m_mo_number) 33 = .ok (.getfield 191, 3) := by decide +kernel
theorem d_mo_number_36 : decode (q_cc m_mo_number) 36 = .ok (.invokevirtual 215, 3) := by decide +kernel
theorem d_mo_number_39 : decode (q_cc m_mo_number) 39 = .ok (.iconst 0, 1) := by decide +kernel
theorem d_mo_number_40 : decode (q_cc m_mo_number) 40 = .ok (.ireturn, 1) := by decide +kernel
theorem d_mo_number_41 : decode (q_cc m_mo_number) 41 = .ok (.aload_n 0, 1) := by decide +kernel
theorem d_mo_number_42 : decode (q_cc m_mo_number) 42 = .ok (.getfield 191, 3) := by decide +kernel
theorem d_mo_number_45 : decode (q_cc m_mo_number) 45 = .ok (.istore_n 3, 1) := by decide +kernel
theorem d_mo_number_46 : decode (q_cc m_mo_number) 46 = .ok (.iconst 0, 1) := by decide +kernel
theorem d_mo_number_47 : decode (q_cc m_mo_number) 47 = .ok (.istore 4, 2) := by decide +kernel
theorem d_mo_number_49 : decode (q_cc m_mo_number) 49 = .ok (.aload_n 0, 1) := by decide +kernel
theorem d_mo_number_50 : decode (q_cc m_mo_number) 50 = .ok (.getfield 191, 3) := by decide +kernel
theorem d_mo_number_53 : decode (q_cc m_mo_number) 53 = .ok (.aload_n 0, 1) := by decide +kernel
theorem d_mo_number_54 : decode (q_cc m_mo_number) 54 = .ok (.getfield 194, 3) := by decide +kernel
theorem d_mo_number_57 : decode (q_cc m_mo_number) 57 = .ok (.if_icmp .ge 72, 3) := by decide +kernel
theorem d_mo_number_60 : decode (q_cc m_mo_number) 60 = .ok (.aload_n 0, 1) := by decide +kernel
theorem d_mo_number_61 : decode (q_cc m_mo_number) 61 = .ok (.getfield 7, 3) := by decide +kernel
theorem d_mo_number_64 : decode (q_cc m_mo_number) 64 = .ok (.aload_n 0, 1) := by decide +kernel
theorem d_mo_number_65 : decode (q_cc m_mo_number) 65 = .ok (.getfield 191, 3) := by decide +kernel
theorem d_mo_number_68 : decode (q_cc m_mo_number) 68 = .ok (.iaload, 1) := by decide +kernel
theorem d_mo_number_69 : decode (q_cc m_mo_number) 69 = .ok (.invokestatic 222, 3) := by decide +kernel
theorem d_mo_number_72 : decode (q_cc m_mo_number) 72 = .ok (.ifCond .eq 57, 3) := by decide +kernel
theorem d_mo_number_75 : decode (q_cc m_mo_number) 75 = .ok (.aload_n 0, 1) := by decide +kernel
theorem d_mo_number_76 : decode (q_cc m_mo_number) 76 = .ok (.getfield 191, 3) := by decide +kernel
theorem d_mo_number_79 : decode (q_cc m_mo_number) 79 = .ok (.iload_n 3, 1) := by decide +kernel
theorem d_mo_number_80 : decode (q_cc m_mo_number) 80 = .ok (.isub, 1) := by decide +kernel
theorem d_mo_number_81 : decode (q_cc m_mo_number) 81 = .ok (.iconst 4, 1) := by decide +kernel
theorem d_mo_number_82 : decode (q_cc m_mo_number) 82 = .ok (.if_icmp .ne 14, 3) := by decide +kernel
theorem d_mo_number_85 : decode (q_cc m_mo_number) 85 = .ok (.aload_n 0, 1) := by decide +kernel
theorem d_mo_number_86 : decode (q_cc m_mo_number) 86 = .ok (.iconst 1, 1) := by decide +kernel
theorem d_mo_number_87 : decode (q_cc m_mo_number) 87 = .ok (.aload_n 0, 1) := by decide +kernel
theorem d_mo_number_88 : decode (q_cc m_mo_number) 88 = .ok (.getfield 191, 3) := by decide +kernel
theorem d_mo_number_91 : decode (q_cc m_mo_number) 91 = .ok (.invokevirtual 215, 3) := by decide +kernel
theorem d_mo_number_94 : decode (q_cc m_mo_number) 94 = .ok (.iconst 0, 1) := by decide +kernel
theorem d_mo_number_95 : decode (q_cc m_mo_number) 95 = .ok (.ireturn, 1) := by decide +kernel
theorem d_mo_number_96 : decode (q_cc m_mo_number) 96 = .ok (.bipush 10, 2) := by decide +kernel
theorem d_mo_number_98 : decode (q_cc m_mo_number) 98 = .ok (.iload 4, 2) := by decide +kernel
theorem d_mo_number_100 : decode (q_cc m_mo_number) 100 = .ok (.imul, 1) := by decide +kernel
theorem d_mo_number_101 : decode (q_cc m_mo_number) 101 = .ok (.aload_n 0, 1) := by decide +kernel
theorem d_mo_number_102 : decode (q_cc m_mo_number) 102 = .ok (.getfield 7, 3) := by decide +kernel
theorem d_mo_number_105 : decode (q_cc m_mo_number) 105 = .ok (.aload_n 0, 1) := by decide +kernel
theorem d_mo_number_106 : decode (q_cc m_mo_number) 106 = .ok (.getfield 191, 3) := by decide +kernel
theorem d_mo_number_109 : decode (q_cc m_mo_number) 109 = .ok (.iaload, 1) := by decide +kernel
theorem d_mo_number_110 : decode (q_cc m_mo_number) 110 = .ok (.iadd, 1) := by decide +kernel
theorem d_mo_number_111 : decode (q_cc m_mo_number) 111 = .ok (.bipush 48, 2) := by decide +kernel
theorem d_mo_number_113 : decode (q_cc m_mo_number) 113 = .ok (.isub, 1) := by decide +kernel
theorem d_mo_number_114 : decode (q_cc m_mo_number) 114 = .ok (.istore 4, 2) := by decide +kernel
theorem d_mo_number_116 : decode (q_cc m_mo_number) 116 = .ok (.aload_n 0, 1) := by decide +kernel
theorem d_mo_number_117 : decode (q_cc m_mo_number) 117 = .ok (.dup, 1) := by decide +kernel
theorem d_mo_number_118 : decode (q_cc m_mo_number) 118 = .ok (.getfield 191, 3) := by decide +kernel
theorem d_mo_number_121 : decode (q_cc m_mo_number) 121 = .ok (.iconst 1, 1) := by decide +kernel
theorem d_mo_number_122 : decode (q_cc m_mo_number) 122 = .ok (.iadd, 1) := by decide +kernel
theorem d_mo_number_123 : decode (q_cc m_mo_number) 123 = .ok (.putfield 191, 3) := by decide +kernel
theorem d_mo_number_126 : decode (q_cc m_mo_number) 126 = .ok (.goto (-77), 3) := by decide +kernel
theorem d_mo_number_129 : decode (q_cc m_mo_number) 129 = .ok (.aload_n 0, 1) := by decide +kernel
theorem d_mo_number_130 : decode (q_cc m_mo_number) 130 = .ok (.aload_n 0, 1) := by decide +kernel
theorem d_mo_number_131 : decode (q_cc m_mo_number) 131 = .ok (.getfield 191, 3) := by decide +kernel
theorem d_mo_number_134 : decode (q_cc m_mo_number) 134 = .ok (.putfield 205, 3) := by decide +kernel
theorem d_mo_number_137 : decode (q_cc m_mo_number) 137 = .ok (.iload 4, 2) := by decide +kernel
theorem d_mo_number_139 : decode (q_cc m_mo_number) 139 = .ok (.i2l, 1) := by decide +kernel
theorem d_mo_number_140 : decode (q_cc m_mo_number) 140 = .ok (.iload_n 1, 1) := by decide +kernel
theorem d_mo_number_141 : decode (q_cc m_mo_number) 141 = .ok (.i2l, 1) := by decide +kernel
theorem d_mo_number_142 : decode (q_cc m_mo_number) 142 = .ok (.iload_n 2, 1) := by decide +kernel
theorem d_mo_number_143 : decode (q_cc m_mo_number) 143 = .ok (.i2l, 1) := by decide +kernel
theorem d_mo_number_144 : decode (q_cc m_mo_number) 144 = .ok (.invokestatic 225, 3) := by decide +kernel
theorem d_mo_number_147 : decode (q_cc m_mo_number) 147 = .ok (.ifCond .ne 9, 3) := by decide +kernel
theorem d_mo_number_150 : decode (q_cc m_mo_number) 150 = .ok (.aload_n 0, 1) := by decide +kernel
theorem d_mo_number_151 : decode (q_cc m_mo_number) 151 = .ok (.iconst 2, 1) := by decide +kernel
theorem d_mo_number_152 : decode (q_cc m_mo_number) 152 = .ok (.iload_n 3, 1) := by decide +kernel

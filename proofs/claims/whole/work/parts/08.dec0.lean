theorem d_ch_init_0 : decode (q_cc m_ch_init) 0 = .ok (.aload_n 0, 1) := by decide +kernel
theorem d_ch_init_1 : decode (q_cc m_ch_init) 1 = .ok (.invokespecial 3, 3) := by decide +kernel
theorem d_ch_init_4 : decode (q_cc m_ch_init) 4 = .ok (.aload_n 0, 1) := by decide +kernel
theorem d_ch_init_5 : decode (q_cc m_ch_init) 5 = .ok (.bipush 24, 2) := by decide +kernel
theorem d_ch_init_7 : decode (q_cc m_ch_init) 7 = .ok (.newarray .int, 2) := by decide +kernel
theorem d_ch_init_9 : decode (q_cc m_ch_init) 9 = .ok (.putfield 9, 3) := by decide +kernel
theorem d_ch_init_12 : decode (q_cc m_ch_init) 12 = .ok (.return_, 1) := by decide +kernel
theorem d_ch_longest_0 : decode (q_cc m_ch_longest) 0 = .ok (.iconst 0, 1) := by decide +kernel
theorem d_ch_longest_1 : decode (q_cc m_ch_longest) 1 = .ok (.istore_n 3, 1) := by decide +kernel
theorem d_ch_longest_2 : decode (q_cc m_ch_longest) 2 = .ok (.iconst 0, 1) := by decide +kernel
theorem d_ch_longest_3 : decode (q_cc m_ch_longest) 3 = .ok (.istore 4, 2) := by decide +kernel
theorem d_ch_longest_5 : decode (q_cc m_ch_longest) 5 = .ok (.iload 4, 2) := by decide +kernel
theorem d_ch_longest_7 : decode (q_cc m_ch_longest) 7 = .ok (.aload_n 1, 1) := by decide +kernel
theorem d_ch_longest_8 : decode (q_cc m_ch_longest) 8 = .ok (.getfield 15, 3) := by decide +kernel
theorem d_ch_longest_11 : decode (q_cc m_ch_longest) 11 = .ok (.iconst 4, 1) := by decide +kernel
theorem d_ch_longest_12 : decode (q_cc m_ch_longest) 12 = .ok (.iaload, 1) := by decide +kernel
theorem d_ch_longest_13 : decode (q_cc m_ch_longest) 13 = .ok (.if_icmp .ge 65, 3) := by decide +kernel
theorem d_ch_longest_16 : decode (q_cc m_ch_longest) 16 = .ok (.aload_n 1, 1) := by decide +kernel
theorem d_ch_longest_17 : decode (q_cc m_ch_longest) 17 = .ok (.getfield 20, 3) := by decide +kernel
theorem d_ch_longest_20 : decode (q_cc m_ch_longest) 20 = .ok (.iload 4, 2) := by decide +kernel
theorem d_ch_longest_22 : decode (q_cc m_ch_longest) 22 = .ok (.iaload, 1) := by decide +kernel
theorem d_ch_longest_23 : decode (q_cc m_ch_longest) 23 = .ok (.istore 5, 2) := by decide +kernel
theorem d_ch_longest_25 : decode (q_cc m_ch_longest) 25 = .ok (.iload_n 2, 1) := by decide +kernel
theorem d_ch_longest_26 : decode (q_cc m_ch_longest) 26 = .ok (.iload 5, 2) := by decide +kernel
theorem d_ch_longest_28 : decode (q_cc m_ch_longest) 28 = .ok (.ishr, 1) := by decide +kernel
theorem d_ch_longest_29 : decode (q_cc m_ch_longest) 29 = .ok (.iconst 1, 1) := by decide +kernel
theorem d_ch_longest_30 : decode (q_cc m_ch_longest) 30 = .ok (.iand, 1) := by decide +kernel
theorem d_ch_longest_31 : decode (q_cc m_ch_longest) 31 = .ok (.iconst 1, 1) := by decide +kernel
theorem d_ch_longest_32 : decode (q_cc m_ch_longest) 32 = .ok (.if_icmp .ne 40, 3) := by decide +kernel
theorem d_ch_longest_35 : decode (q_cc m_ch_longest) 35 = .ok (.aload_n 0, 1) := by decide +kernel
theorem d_ch_longest_36 : decode (q_cc m_ch_longest) 36 = .ok (.getfield 9, 3) := by decide +kernel
theorem d_ch_longest_39 : decode (q_cc m_ch_longest) 39 = .ok (.iload 5, 2) := by decide +kernel
theorem d_ch_longest_41 : decode (q_cc m_ch_longest) 41 = .ok (.iconst 1, 1) := by decide +kernel
theorem d_ch_longest_42 : decode (q_cc m_ch_longest) 42 = .ok (.aload_n 0, 1) := by decide +kernel
theorem d_ch_longest_43 : decode (q_cc m_ch_longest) 43 = .ok (.aload_n 1, 1) := by decide +kernel
theorem d_ch_longest_44 : decode (q_cc m_ch_longest) 44 = .ok (.iload_n 2, 1) := by decide +kernel
theorem d_ch_longest_45 : decode (q_cc m_ch_longest) 45 = .ok (.aload_n 1, 1) := by decide +kernel
theorem d_ch_longest_46 : decode (q_cc m_ch_longest) 46 = .ok (.getfield 23, 3) := by decide +kernel
theorem d_ch_longest_49 : decode (q_cc m_ch_longest) 49 = .ok (.iload 5, 2) := by decide +kernel
theorem d_ch_longest_51 : decode (q_cc m_ch_longest) 51 = .ok (.iaload, 1) := by decide +kernel
theorem d_ch_longest_52 : decode (q_cc m_ch_longest) 52 = .ok (.iand, 1) := by decide +kernel
theorem d_ch_longest_53 : decode (q_cc m_ch_longest) 53 = .ok (.iload 4, 2) := by decide +kernel
theorem d_ch_longest_55 : decode (q_cc m_ch_longest) 55 = .ok (.invokevirtual 26, 3) := by decide +kernel
theorem d_ch_longest_58 : decode (q_cc m_ch_longest) 58 = .ok (.iadd, 1) := by decide +kernel
theorem d_ch_longest_59 : decode (q_cc m_ch_longest) 59 = .ok (.iastore, 1) := by decide +kernel
theorem d_ch_longest_60 : decode (q_cc m_ch_longest) 60 = .ok (.iload_n 3, 1) := by decide +kernel
theorem d_ch_longest_61 : decode (q_cc m_ch_longest) 61 = .ok (.aload_n 0, 1) := by decide +kernel
theorem d_ch_longest_62 : decode (q_cc m_ch_longest) 62 = .ok (.getfield 9, 3) := by decide +kernel
theorem d_ch_longest_65 : decode (q_cc m_ch_longest) 65 = .ok (.iload 5, 2) := by decide +kernel
theorem d_ch_longest_67 : decode (q_cc m_ch_longest) 67 = .ok (.iaload, 1) := by decide +kernel
theorem d_ch_longest_68 : decode (q_cc m_ch_longest) 68 = .ok (.invokestatic 30, 3) := by decide +kernel
theorem d_ch_longest_71 : decode (q_cc m_ch_longest) 71 = .ok (.istore_n 3, 1) := by decide +kernel
theorem d_ch_longest_72 : decode (q_cc m_ch_longest) 72 = .ok (.iinc 4 1, 3) := by decide +kernel
theorem d_ch_longest_75 : decode (q_cc m_ch_longest) 75 = .ok (.goto (-70), 3) := by decide +kernel
theorem d_ch_longest_78 : decode (q_cc m_ch_longest) 78 = .ok (.iload_n 3, 1) := by decide +kernel
theorem d_ch_longest_79 : decode (q_cc m_ch_longest) 79 = .ok (.ireturn, 1) := by decide +kernel
theorem d_ch_longestAhead_0 : decode (q_cc m_ch_longestAhead) 0 = .ok (.iconst 0, 1) := by decide +kernel
theorem d_ch_longestAhead_1 : decode (q_cc m_ch_longestAhead) 1 = .ok (.istore 4, 2) := by decide +kernel
theorem d_ch_longestAhead_3 : decode (q_cc m_ch_longestAhead) 3 = .ok (.iconst 0, 1) := by decide +kernel
theorem d_ch_longestAhead_4 : decode (q_cc m_ch_longestAhead) 4 = .ok (.istore 5, 2) := by decide +kernel
theorem d_ch_longestAhead_6 : decode (q_cc m_ch_longestAhead) 6 = .ok (.iload 5, 2) := by decide +kernel
theorem d_ch_longestAhead_8 : decode (q_cc m_ch_longestAhead) 8 = .ok (.iload_n 3, 1) := by decide +kernel
theorem d_ch_longestAhead_9 : decode (q_cc m_ch_longestAhead) 9 = .ok (.if_icmp .ge 42, 3) := by decide +kernel
theorem d_ch_longestAhead_12 : decode (q_cc m_ch_longestAhead) 12 = .ok (.aload_n 1, 1) := by decide +kernel
theorem d_ch_longestAhead_13 : decode (q_cc m_ch_longestAhead) 13 = .ok (.getfield 20, 3) := by decide +kernel
theorem d_ch_longestAhead_16 : decode (q_cc m_ch_longestAhead) 16 = .ok (.iload 5, 2) := by decide +kernel
theorem d_ch_longestAhead_18 : decode (q_cc m_ch_longestAhead) 18 = .ok (.iaload, 1) := by decide +kernel
theorem d_ch_longestAhead_19 : decode (q_cc m_ch_longestAhead) 19 = .ok (.istore 6, 2) := by decide +kernel
theorem d_ch_longestAhead_21 : decode (q_cc m_ch_longestAhead) 21 = .ok (.iload_n 2, 1) := by decide +kernel
theorem d_ch_longestAhead_22 : decode (q_cc m_ch_longestAhead) 22 = .ok (.iload 6, 2) := by decide +kernel
theorem d_ch_longestAhead_24 : decode (q_cc m_ch_longestAhead) 24 = .ok (.ishr, 1) := by decide +kernel
theorem d_ch_longestAhead_25 : decode (q_cc m_ch_longestAhead) 25 = .ok (.iconst 1, 1) := by decide +kernel
theorem d_ch_longestAhead_26 : decode (q_cc m_ch_longestAhead) 26 = .ok (.iand, 1) := by decide +kernel
theorem d_ch_longestAhead_27 : decode (q_cc m_ch_longestAhead) 27 = .ok (.iconst 1, 1) := by decide +kernel
theorem d_ch_longestAhead_28 : decode (q_cc m_ch_longestAhead) 28 = .ok (.if_icmp .ne 17, 3) := by decide +kernel
theorem d_ch_longestAhead_31 : decode (q_cc m_ch_longestAhead) 31 = .ok (.iload 4, 2) := by decide +kernel
theorem d_ch_longestAhead_33 : decode (q_cc m_ch_longestAhead) 33 = .ok (.aload_n 0, 1) := by decide +kernel
theorem d_ch_longestAhead_34 : decode (q_cc m_ch_longestAhead) 34 = .ok (.getfield 9, 3) := by decide +kernel
theorem d_ch_longestAhead_37 : decode (q_cc m_ch_longestAhead) 37 = .ok (.iload 6, 2) := by decide +kernel
theorem d_ch_longestAhead_39 : decode (q_cc m_ch_longestAhead) 39 = .ok (.iaload, 1) := by decide +kernel
theorem d_ch_longestAhead_40 : decode (q_cc m_ch_longestAhead) 40 = .ok (.invokestatic 30, 3) := by decide +kernel
theorem d_ch_longestAhead_43 : decode (q_cc m_ch_longestAhead) 43 = .ok (.istore 4, 2) := by decide +kernel
theorem d_ch_longestAhead_45 : decode (q_cc m_ch_longestAhead) 45 = .ok (.iinc 5 1, 3) := by decide +kernel
theorem d_ch_longestAhead_48 : decode (q_cc m_ch_longestAhead) 48 = .ok (.goto (-42), 3) := by decide +kernel
theorem d_ch_longestAhead_51 : decode (q_cc m_ch_longestAhead) 51 = .ok (.iload 4, 2) := by decide +kernel
theorem d_ch_longestAhead_53 : decode (q_cc m_ch_longestAhead) 53 = .ok (.ireturn, 1) := by decide +kernel
theorem d_ch_firstLongest_0 : decode (q_cc m_ch_firstLongest) 0 = .ok (.aload_n 0, 1) := by decide +kernel
theorem d_ch_firstLongest_1 : decode (q_cc m_ch_firstLongest) 1 = .ok (.aload_n 1, 1) := by decide +kernel
theorem d_ch_firstLongest_2 : decode (q_cc m_ch_firstLongest) 2 = .ok (.iload_n 2, 1) := by decide +kernel
theorem d_ch_firstLongest_3 : decode (q_cc m_ch_firstLongest) 3 = .ok (.invokevirtual 36, 3) := by decide +kernel
theorem d_ch_firstLongest_6 : decode (q_cc m_ch_firstLongest) 6 = .ok (.istore_n 3, 1) := by decide +kernel
theorem d_ch_firstLongest_7 : decode (q_cc m_ch_firstLongest) 7 = .ok (.iload_n 2, 1) := by decide +kernel
theorem d_ch_firstLongest_8 : decode (q_cc m_ch_firstLongest) 8 = .ok (.istore 4, 2) := by decide +kernel
theorem d_ch_firstLongest_10 : decode (q_cc m_ch_firstLongest) 10 = .ok (.iconst 0, 1) := by decide +kernel
theorem d_ch_firstLongest_11 : decode (q_cc m_ch_firstLongest) 11 = .ok (.istore 5, 2) := by decide +kernel
theorem d_ch_firstLongest_13 : decode (q_cc m_ch_firstLongest) 13 = .ok (.iload 5, 2) := by decide +kernel
theorem d_ch_firstLongest_15 : decode (q_cc m_ch_firstLongest) 15 = .ok (.aload_n 1, 1) := by decide +kernel
theorem d_ch_firstLongest_16 : decode (q_cc m_ch_firstLongest) 16 = .ok (.getfield 15, 3) := by decide +kernel
theorem d_ch_firstLongest_19 : decode (q_cc m_ch_firstLongest) 19 = .ok (.iconst 4, 1) := by decide +kernel
theorem d_ch_firstLongest_20 : decode (q_cc m_ch_firstLongest) 20 = .ok (.iaload, 1) := by decide +kernel
theorem d_ch_firstLongest_21 : decode (q_cc m_ch_firstLongest) 21 = .ok (.if_icmp .ge 71, 3) := by decide +kernel
theorem d_ch_firstLongest_24 : decode (q_cc m_ch_firstLongest) 24 = .ok (.iload 4, 2) := by decide +kernel
theorem d_ch_firstLongest_26 : decode (q_cc m_ch_firstLongest) 26 = .ok (.iload 5, 2) := by decide +kernel
theorem d_ch_firstLongest_28 : decode (q_cc m_ch_firstLongest) 28 = .ok (.ishr, 1) := by decide +kernel
theorem d_ch_firstLongest_29 : decode (q_cc m_ch_firstLongest) 29 = .ok (.iconst 1, 1) := by decide +kernel
theorem d_ch_firstLongest_30 : decode (q_cc m_ch_firstLongest) 30 = .ok (.iand, 1) := by decide +kernel
theorem d_ch_firstLongest_31 : decode (q_cc m_ch_firstLongest) 31 = .ok (.iconst 1, 1) := by decide +kernel
theorem d_ch_firstLongest_32 : decode (q_cc m_ch_firstLongest) 32 = .ok (.if_icmp .ne 54, 3) := by decide +kernel
theorem d_ch_firstLongest_35 : decode (q_cc m_ch_firstLongest) 35 = .ok (.iload 4, 2) := by decide +kernel
theorem d_ch_firstLongest_37 : decode (q_cc m_ch_firstLongest) 37 = .ok (.aload_n 1, 1) := by decide +kernel
theorem d_ch_firstLongest_38 : decode (q_cc m_ch_firstLongest) 38 = .ok (.getfield 23, 3) := by decide +kernel
theorem d_ch_firstLongest_41 : decode (q_cc m_ch_firstLongest) 41 = .ok (.iload 5, 2) := by decide +kernel
theorem d_ch_firstLongest_43 : decode (q_cc m_ch_firstLongest) 43 = .ok (.iaload, 1) := by decide +kernel
theorem d_ch_firstLongest_44 : decode (q_cc m_ch_firstLongest) 44 = .ok (.iand, 1) := by decide +kernel
theorem d_ch_firstLongest_45 : decode (q_cc m_ch_firstLongest) 45 = .ok (.istore 6, 2) := by decide +kernel
theorem d_ch_firstLongest_47 : decode (q_cc m_ch_firstLongest) 47 = .ok (.aload_n 0, 1) := by decide +kernel
theorem d_ch_firstLongest_48 : decode (q_cc m_ch_firstLongest) 48 = .ok (.aload_n 1, 1) := by decide +kernel
theorem d_ch_firstLongest_49 : decode (q_cc m_ch_firstLongest) 49 = .ok (.iload 6, 2) := by decide +kernel
theorem d_ch_firstLongest_51 : decode (q_cc m_ch_firstLongest) 51 = .ok (.invokevirtual 36, 3) := by decide +kernel
theorem d_ch_firstLongest_54 : decode (q_cc m_ch_firstLongest) 54 = .ok (.iload_n 3, 1) := by decide +kernel
theorem d_ch_firstLongest_55 : decode (q_cc m_ch_firstLongest) 55 = .ok (.if_icmp .ne 7, 3) := by decide +kernel
theorem d_ch_firstLongest_58 : decode (q_cc m_ch_firstLongest) 58 = .ok (.iconst 1, 1) := by decide +kernel
theorem d_ch_firstLongest_59 : decode (q_cc m_ch_firstLongest) 59 = .ok (.goto 4, 3) := by decide +kernel
theorem d_ch_firstLongest_62 : decode (q_cc m_ch_firstLongest) 62 = .ok (.iconst 0, 1) := by decide +kernel
theorem d_ch_firstLongest_63 : decode (q_cc m_ch_firstLongest) 63 = .ok (.istore 7, 2) := by decide +kernel
theorem d_ch_firstLongest_65 : decode (q_cc m_ch_firstLongest) 65 = .ok (.iload 7, 2) := by decide +kernel
theorem d_ch_firstLongest_67 : decode (q_cc m_ch_firstLongest) 67 = .ok (.ifCond .eq 8, 3) := by decide +kernel
theorem d_ch_firstLongest_70 : decode (q_cc m_ch_firstLongest) 70 = .ok (.iload 6, 2) := by decide +kernel
theorem d_ch_firstLongest_72 : decode (q_cc m_ch_firstLongest) 72 = .ok (.goto 12, 3) := by decide +kernel
theorem d_ch_firstLongest_75 : decode (q_cc m_ch_firstLongest) 75 = .ok (.iload 4, 2) := by decide +kernel
theorem d_ch_firstLongest_77 : decode (q_cc m_ch_firstLongest) 77 = .ok (.iconst 1, 1) := by decide +kernel
theorem d_ch_firstLongest_78 : decode (q_cc m_ch_firstLongest) 78 = .ok (.iload 5, 2) := by decide +kernel
theorem d_ch_firstLongest_80 : decode (q_cc m_ch_firstLongest) 80 = .ok (.ishl, 1) := by decide +kernel
theorem d_ch_firstLongest_81 : decode (q_cc m_ch_firstLongest) 81 = .ok (.iconst (-1), 1) := by decide +kernel
theorem d_ch_firstLongest_82 : decode (q_cc m_ch_firstLongest) 82 = .ok (.ixor, 1) := by decide +kernel
theorem d_ch_firstLongest_83 : decode (q_cc m_ch_firstLongest) 83 = .ok (.iand, 1) := by decide +kernel
theorem d_ch_firstLongest_84 : decode (q_cc m_ch_firstLongest) 84 = .ok (.istore 4, 2) := by decide +kernel
theorem d_ch_firstLongest_86 : decode (q_cc m_ch_firstLongest) 86 = .ok (.iinc 5 1, 3) := by decide +kernel
theorem d_ch_firstLongest_89 : decode (q_cc m_ch_firstLongest) 89 = .ok (.goto (-76), 3) := by decide +kernel
theorem d_ch_firstLongest_92 : decode (q_cc m_ch_firstLongest) 92 = .ok (.iload 4, 2) := by decide +kernel
theorem d_ch_firstLongest_94 : decode (q_cc m_ch_firstLongest) 94 = .ok (.ireturn, 1) := by decide +kernel
theorem d_cr_init_0 : decode (q_cc m_cr_init) 0 = .ok (.aload_n 0, 1) := by decide +kernel
theorem d_cr_init_1 : decode (q_cc m_cr_init) 1 = .ok (.invokespecial 3, 3) := by decide +kernel
theorem d_cr_init_4 : decode (q_cc m_cr_init) 4 = .ok (.aload_n 0, 1) := by decide +kernel
theorem d_cr_init_5 : decode (q_cc m_cr_init) 5 = .ok (.bipush 8, 2) := by decide +kernel
theorem d_cr_init_7 : decode (q_cc m_cr_init) 7 = .ok (.newarray .int, 2) := by decide +kernel
theorem d_cr_init_9 : decode (q_cc m_cr_init) 9 = .ok (.putfield 11, 3) := by decide +kernel
theorem d_cr_init_12 : decode (q_cc m_cr_init) 12 = .ok (.aload_n 0, 1) := by decide +kernel
theorem d_cr_init_13 : decode (q_cc m_cr_init) 13 = .ok (.bipush 7, 2) := by decide +kernel
theorem d_cr_init_15 : decode (q_cc m_cr_init) 15 = .ok (.newarray .int, 2) := by decide +kernel
theorem d_cr_init_17 : decode (q_cc m_cr_init) 17 = .ok (.putfield 15, 3) := by decide +kernel
theorem d_cr_init_20 : decode (q_cc m_cr_init) 20 = .ok (.aload_n 0, 1) := by decide +kernel
theorem d_cr_init_21 : decode (q_cc m_cr_init) 21 = .ok (.sipush 256, 3) := by decide +kernel
theorem d_cr_init_24 : decode (q_cc m_cr_init) 24 = .ok (.newarray .int, 2) := by decide +kernel
theorem d_cr_init_26 : decode (q_cc m_cr_init) 26 = .ok (.putfield 18, 3) := by decide +kernel
theorem d_cr_init_29 : decode (q_cc m_cr_init) 29 = .ok (.aload_n 0, 1) := by decide +kernel
theorem d_cr_init_30 : decode (q_cc m_cr_init) 30 = .ok (.sipush 256, 3) := by decide +kernel
theorem d_cr_init_33 : decode (q_cc m_cr_init) 33 = .ok (.newarray .int, 2) := by decide +kernel
theorem d_cr_init_35 : decode (q_cc m_cr_init) 35 = .ok (.putfield 21, 3) := by decide +kernel
theorem d_cr_init_38 : decode (q_cc m_cr_init) 38 = .ok (.return_, 1) := by decide +kernel
theorem d_cr_choose_0 : decode (q_cc m_cr_choose) 0 = .ok (.iload_n 1, 1) := by decide +kernel
theorem d_cr_choose_1 : decode (q_cc m_cr_choose) 1 = .ok (.invokestatic 24, 3) := by decide +kernel
theorem d_cr_choose_4 : decode (q_cc m_cr_choose) 4 = .ok (.iload_n 2, 1) := by decide +kernel
theorem d_cr_choose_5 : decode (q_cc m_cr_choose) 5 = .ok (.if_icmp .le 5, 3) := by decide +kernel
theorem d_cr_choose_8 : decode (q_cc m_cr_choose) 8 = .ok (.iconst 0, 1) := by decide +kernel
theorem d_cr_choose_9 : decode (q_cc m_cr_choose) 9 = .ok (.ireturn, 1) := by decide +kernel
theorem d_cr_choose_10 : decode (q_cc m_cr_choose) 10 = .ok (.aload_n 0, 1) := by decide +kernel
theorem d_cr_choose_11 : decode (q_cc m_cr_choose) 11 = .ok (.iconst 0, 1) := by decide +kernel
theorem d_cr_choose_12 : decode (q_cc m_cr_choose) 12 = .ok (.putfield 30, 3) := by decide +kernel
theorem d_cr_choose_15 : decode (q_cc m_cr_choose) 15 = .ok (.iconst 0, 1) := by decide +kernel
theorem d_cr_choose_16 : decode (q_cc m_cr_choose) 16 = .ok (.istore_n 3, 1) := by decide +kernel
theorem d_cr_choose_17 : decode (q_cc m_cr_choose) 17 = .ok (.iload_n 3, 1) := by decide +kernel
theorem d_cr_choose_18 : decode (q_cc m_cr_choose) 18 = .ok (.bipush 24, 2) := by decide +kernel
theorem d_cr_choose_20 : decode (q_cc m_cr_choose) 20 = .ok (.if_icmp .ge 46, 3) := by decide +kernel
theorem d_cr_choose_23 : decode (q_cc m_cr_choose) 23 = .ok (.aload_n 0, 1) := by decide +kernel
theorem d_cr_choose_24 : decode (q_cc m_cr_choose) 24 = .ok (.getfield 30, 3) := by decide +kernel
theorem d_cr_choose_27 : decode (q_cc m_cr_choose) 27 = .ok (.iload_n 2, 1) := by decide +kernel
theorem d_cr_choose_28 : decode (q_cc m_cr_choose) 28 = .ok (.if_icmp .ge 38, 3) := by decide +kernel
theorem d_cr_choose_31 : decode (q_cc m_cr_choose) 31 = .ok (.iload_n 1, 1) := by decide +kernel
theorem d_cr_choose_32 : decode (q_cc m_cr_choose) 32 = .ok (.iload_n 3, 1) := by decide +kernel
theorem d_cr_choose_33 : decode (q_cc m_cr_choose) 33 = .ok (.ishr, 1) := by decide +kernel
theorem d_cr_choose_34 : decode (q_cc m_cr_choose) 34 = .ok (.iconst 1, 1) := by decide +kernel
theorem d_cr_choose_35 : decode (q_cc m_cr_choose) 35 = .ok (.iand, 1) := by decide +kernel
theorem d_cr_choose_36 : decode (q_cc m_cr_choose) 36 = .ok (.iconst 1, 1) := by decide +kernel
theorem d_cr_choose_37 : decode (q_cc m_cr_choose) 37 = .ok (.if_icmp .ne 23, 3) := by decide +kernel
theorem d_cr_choose_40 : decode (q_cc m_cr_choose) 40 = .ok (.aload_n 0, 1) := by decide +kernel
theorem d_cr_choose_41 : decode (q_cc m_cr_choose) 41 = .ok (.getfield 11, 3) := by decide +kernel
theorem d_cr_choose_44 : decode (q_cc m_cr_choose) 44 = .ok (.aload_n 0, 1) := by decide +kernel
theorem d_cr_choose_45 : decode (q_cc m_cr_choose) 45 = .ok (.getfield 30, 3) := by decide +kernel
theorem d_cr_choose_48 : decode (q_cc m_cr_choose) 48 = .ok (.iload_n 3, 1) := by decide +kernel
theorem d_cr_choose_49 : decode (q_cc m_cr_choose) 49 = .ok (.iastore, 1) := by decide +kernel
theorem d_cr_choose_50 : decode (q_cc m_cr_choose) 50 = .ok (.aload_n 0, 1) := by decide +kernel
theorem d_cr_choose_51 : decode (q_cc m_cr_choose) 51 = .ok (.dup, 1) := by decide +kernel
theorem d_cr_choose_52 : decode (q_cc m_cr_choose) 52 = .ok (.getfield 30, 3) := by decide +kernel
theorem d_cr_choose_55 : decode (q_cc m_cr_choose) 55 = .ok (.iconst 1, 1) := by decide +kernel
theorem d_cr_choose_56 : decode (q_cc m_cr_choose) 56 = .ok (.iadd, 1) := by decide +kernel
theorem d_cr_choose_57 : decode (q_cc m_cr_choose) 57 = .ok (.putfield 30, 3) := by decide +kernel
theorem d_cr_choose_60 : decode (q_cc m_cr_choose) 60 = .ok (.iinc 3 1, 3) := by decide +kernel
theorem d_cr_choose_63 : decode (q_cc m_cr_choose) 63 = .ok (.goto (-46), 3) := by decide +kernel
theorem d_cr_choose_66 : decode (q_cc m_cr_choose) 66 = .ok (.iconst 1, 1) := by decide +kernel
theorem d_cr_choose_67 : decode (q_cc m_cr_choose) 67 = .ok (.ireturn, 1) := by decide +kernel
theorem d_cr_countWays_0 : decode (q_cc m_cr_countWays) 0 = .ok (.aload_n 0, 1) := by decide +kernel
theorem d_cr_countWays_1 : decode (q_cc m_cr_countWays) 1 = .ok (.aload_n 1, 1) := by decide +kernel
theorem d_cr_countWays_2 : decode (q_cc m_cr_countWays) 2 = .ok (.invokevirtual 34, 3) := by decide +kernel
theorem d_cr_countWays_5 : decode (q_cc m_cr_countWays) 5 = .ok (.iconst 0, 1) := by decide +kernel
theorem d_cr_countWays_6 : decode (q_cc m_cr_countWays) 6 = .ok (.istore 4, 2) := by decide +kernel
theorem d_cr_countWays_8 : decode (q_cc m_cr_countWays) 8 = .ok (.iload 4, 2) := by decide +kernel
theorem d_cr_countWays_10 : decode (q_cc m_cr_countWays) 10 = .ok (.aload_n 1, 1) := by decide +kernel
theorem d_cr_countWays_11 : decode (q_cc m_cr_countWays) 11 = .ok (.getfield 38, 3) := by decide +kernel
theorem d_cr_countWays_14 : decode (q_cc m_cr_countWays) 14 = .ok (.iconst 2, 1) := by decide +kernel
theorem d_cr_countWays_15 : decode (q_cc m_cr_countWays) 15 = .ok (.iaload, 1) := by decide +kernel
theorem d_cr_countWays_16 : decode (q_cc m_cr_countWays) 16 = .ok (.if_icmp .ge 51, 3) := by decide +kernel
theorem d_cr_countWays_19 : decode (q_cc m_cr_countWays) 19 = .ok (.aload_n 0, 1) := by decide +kernel
theorem d_cr_countWays_20 : decode (q_cc m_cr_countWays) 20 = .ok (.aload_n 1, 1) := by decide +kernel
theorem d_cr_countWays_21 : decode (q_cc m_cr_countWays) 21 = .ok (.aload_n 2, 1) := by decide +kernel
theorem d_cr_countWays_22 : decode (q_cc m_cr_countWays) 22 = .ok (.iload 4, 2) := by decide +kernel
theorem d_cr_countWays_24 : decode (q_cc m_cr_countWays) 24 = .ok (.iload_n 3, 1) := by decide +kernel
theorem d_cr_countWays_25 : decode (q_cc m_cr_countWays) 25 = .ok (.iconst 0, 1) := by decide +kernel
theorem d_cr_countWays_26 : decode (q_cc m_cr_countWays) 26 = .ok (.invokevirtual 43, 3) := by decide +kernel
theorem d_cr_countWays_29 : decode (q_cc m_cr_countWays) 29 = .ok (.aload_n 0, 1) := by decide +kernel
theorem d_cr_countWays_30 : decode (q_cc m_cr_countWays) 30 = .ok (.invokevirtual 47, 3) := by decide +kernel
theorem d_cr_countWays_33 : decode (q_cc m_cr_countWays) 33 = .ok (.iconst 1, 1) := by decide +kernel
theorem d_cr_countWays_34 : decode (q_cc m_cr_countWays) 34 = .ok (.isub, 1) := by decide +kernel
theorem d_cr_countWays_35 : decode (q_cc m_cr_countWays) 35 = .ok (.istore 5, 2) := by decide +kernel
theorem d_cr_countWays_37 : decode (q_cc m_cr_countWays) 37 = .ok (.iload 5, 2) := by decide +kernel
theorem d_cr_countWays_39 : decode (q_cc m_cr_countWays) 39 = .ok (.ifCond .lt 22, 3) := by decide +kernel
theorem d_cr_countWays_42 : decode (q_cc m_cr_countWays) 42 = .ok (.aload_n 0, 1) := by decide +kernel
theorem d_cr_countWays_43 : decode (q_cc m_cr_countWays) 43 = .ok (.getfield 18, 3) := by decide +kernel
theorem d_cr_countWays_46 : decode (q_cc m_cr_countWays) 46 = .ok (.iload 5, 2) := by decide +kernel
theorem d_cr_countWays_48 : decode (q_cc m_cr_countWays) 48 = .ok (.aload_n 0, 1) := by decide +kernel
theorem d_cr_countWays_49 : decode (q_cc m_cr_countWays) 49 = .ok (.iload 5, 2) := by decide +kernel
theorem d_cr_countWays_51 : decode (q_cc m_cr_countWays) 51 = .ok (.invokevirtual 51, 3) := by decide +kernel
theorem d_cr_countWays_54 : decode (q_cc m_cr_countWays) 54 = .ok (.iastore, 1) := by decide +kernel
theorem d_cr_countWays_55 : decode (q_cc m_cr_countWays) 55 = .ok (.iinc 5 (-1), 3) := by decide +kernel
theorem d_cr_countWays_58 : decode (q_cc m_cr_countWays) 58 = .ok (.goto (-21), 3) := by decide +kernel
theorem d_cr_countWays_61 : decode (q_cc m_cr_countWays) 61 = .ok (.iinc 4 1, 3) := by decide +kernel
theorem d_cr_countWays_64 : decode (q_cc m_cr_countWays) 64 = .ok (.goto (-56), 3) := by decide +kernel
theorem d_cr_countWays_67 : decode (q_cc m_cr_countWays) 67 = .ok (.aload_n 0, 1) := by decide +kernel
theorem d_cr_countWays_68 : decode (q_cc m_cr_countWays) 68 = .ok (.getfield 18, 3) := by decide +kernel
theorem d_cr_countWays_71 : decode (q_cc m_cr_countWays) 71 = .ok (.aload_n 0, 1) := by decide +kernel
theorem d_cr_countWays_72 : decode (q_cc m_cr_countWays) 72 = .ok (.invokevirtual 47, 3) := by decide +kernel
theorem d_cr_countWays_75 : decode (q_cc m_cr_countWays) 75 = .ok (.iconst 1, 1) := by decide +kernel
theorem d_cr_countWays_76 : decode (q_cc m_cr_countWays) 76 = .ok (.isub, 1) := by decide +kernel
theorem d_cr_countWays_77 : decode (q_cc m_cr_countWays) 77 = .ok (.iaload, 1) := by decide +kernel
theorem d_cr_countWays_78 : decode (q_cc m_cr_countWays) 78 = .ok (.ireturn, 1) := by decide +kernel
theorem d_cr_sets_0 : decode (q_cc m_cr_sets) 0 = .ok (.iconst 1, 1) := by decide +kernel
theorem d_cr_sets_1 : decode (q_cc m_cr_sets) 1 = .ok (.aload_n 0, 1) := by decide +kernel
theorem d_cr_sets_2 : decode (q_cc m_cr_sets) 2 = .ok (.getfield 30, 3) := by decide +kernel
theorem d_cr_sets_5 : decode (q_cc m_cr_sets) 5 = .ok (.ishl, 1) := by decide +kernel
theorem d_cr_sets_6 : decode (q_cc m_cr_sets) 6 = .ok (.ireturn, 1) := by decide +kernel
theorem d_cr_fillWithPersons_0 : decode (q_cc m_cr_fillWithPersons) 0 = .ok (.aload_n 0, 1) := by decide +kernel
theorem d_cr_fillWithPersons_1 : decode (q_cc m_cr_fillWithPersons) 1 = .ok (.getfield 18, 3) := by decide +kernel
theorem d_cr_fillWithPersons_4 : decode (q_cc m_cr_fillWithPersons) 4 = .ok (.iconst 0, 1) := by decide +kernel
theorem d_cr_fillWithPersons_5 : decode (q_cc m_cr_fillWithPersons) 5 = .ok (.iconst 1, 1) := by decide +kernel
theorem d_cr_fillWithPersons_6 : decode (q_cc m_cr_fillWithPersons) 6 = .ok (.iastore, 1) := by decide +kernel
theorem d_cr_fillWithPersons_7 : decode (q_cc m_cr_fillWithPersons) 7 = .ok (.iconst 0, 1) := by decide +kernel
theorem d_cr_fillWithPersons_8 : decode (q_cc m_cr_fillWithPersons) 8 = .ok (.istore_n 2, 1) := by decide +kernel
theorem d_cr_fillWithPersons_9 : decode (q_cc m_cr_fillWithPersons) 9 = .ok (.iload_n 2, 1) := by decide +kernel
theorem d_cr_fillWithPersons_10 : decode (q_cc m_cr_fillWithPersons) 10 = .ok (.aload_n 0, 1) := by decide +kernel
theorem d_cr_fillWithPersons_11 : decode (q_cc m_cr_fillWithPersons) 11 = .ok (.getfield 30, 3) := by decide +kernel
theorem d_cr_fillWithPersons_14 : decode (q_cc m_cr_fillWithPersons) 14 = .ok (.if_icmp .ge 99, 3) := by decide +kernel
theorem d_cr_fillWithPersons_17 : decode (q_cc m_cr_fillWithPersons) 17 = .ok (.aload_n 1, 1) := by decide +kernel
theorem d_cr_fillWithPersons_18 : decode (q_cc m_cr_fillWithPersons) 18 = .ok (.getfield 54, 3) := by decide +kernel
theorem d_cr_fillWithPersons_21 : decode (q_cc m_cr_fillWithPersons) 21 = .ok (.aload_n 0, 1) := by decide +kernel
theorem d_cr_fillWithPersons_22 : decode (q_cc m_cr_fillWithPersons) 22 = .ok (.getfield 11, 3) := by decide +kernel
theorem d_cr_fillWithPersons_25 : decode (q_cc m_cr_fillWithPersons) 25 = .ok (.iload_n 2, 1) := by decide +kernel
theorem d_cr_fillWithPersons_26 : decode (q_cc m_cr_fillWithPersons) 26 = .ok (.iaload, 1) := by decide +kernel
theorem d_cr_fillWithPersons_27 : decode (q_cc m_cr_fillWithPersons) 27 = .ok (.aaload, 1) := by decide +kernel
theorem d_cr_fillWithPersons_28 : decode (q_cc m_cr_fillWithPersons) 28 = .ok (.iconst 0, 1) := by decide +kernel
theorem d_cr_fillWithPersons_29 : decode (q_cc m_cr_fillWithPersons) 29 = .ok (.iaload, 1) := by decide +kernel
theorem d_cr_fillWithPersons_30 : decode (q_cc m_cr_fillWithPersons) 30 = .ok (.istore_n 3, 1) := by decide +kernel
theorem d_cr_fillWithPersons_31 : decode (q_cc m_cr_fillWithPersons) 31 = .ok (.aload_n 1, 1) := by decide +kernel
theorem d_cr_fillWithPersons_32 : decode (q_cc m_cr_fillWithPersons) 32 = .ok (.iload_n 3, 1) := by decide +kernel
theorem d_cr_fillWithPersons_33 : decode (q_cc m_cr_fillWithPersons) 33 = .ok (.invokevirtual 58, 3) := by decide +kernel
theorem d_cr_fillWithPersons_36 : decode (q_cc m_cr_fillWithPersons) 36 = .ok (.aload_n 1, 1) := by decide +kernel
theorem d_cr_fillWithPersons_37 : decode (q_cc m_cr_fillWithPersons) 37 = .ok (.getfield 61, 3) := by decide +kernel
theorem d_cr_fillWithPersons_40 : decode (q_cc m_cr_fillWithPersons) 40 = .ok (.aload_n 0, 1) := by decide +kernel
theorem d_cr_fillWithPersons_41 : decode (q_cc m_cr_fillWithPersons) 41 = .ok (.getfield 11, 3) := by decide +kernel
theorem d_cr_fillWithPersons_44 : decode (q_cc m_cr_fillWithPersons) 44 = .ok (.iload_n 2, 1) := by decide +kernel
theorem d_cr_fillWithPersons_45 : decode (q_cc m_cr_fillWithPersons) 45 = .ok (.iaload, 1) := by decide +kernel
theorem d_cr_fillWithPersons_46 : decode (q_cc m_cr_fillWithPersons) 46 = .ok (.iaload, 1) := by decide +kernel
theorem d_cr_fillWithPersons_47 : decode (q_cc m_cr_fillWithPersons) 47 = .ok (.iconst (-1), 1) := by decide +kernel
theorem d_cr_fillWithPersons_48 : decode (q_cc m_cr_fillWithPersons) 48 = .ok (.ixor, 1) := by decide +kernel
theorem d_cr_fillWithPersons_49 : decode (q_cc m_cr_fillWithPersons) 49 = .ok (.iand, 1) := by decide +kernel
theorem d_cr_fillWithPersons_50 : decode (q_cc m_cr_fillWithPersons) 50 = .ok (.istore 4, 2) := by decide +kernel
theorem d_cr_fillWithPersons_52 : decode (q_cc m_cr_fillWithPersons) 52 = .ok (.aload_n 0, 1) := by decide +kernel
theorem d_cr_fillWithPersons_53 : decode (q_cc m_cr_fillWithPersons) 53 = .ok (.iload 4, 2) := by decide +kernel
theorem d_cr_fillWithPersons_55 : decode (q_cc m_cr_fillWithPersons) 55 = .ok (.invokevirtual 64, 3) := by decide +kernel
theorem d_cr_fillWithPersons_58 : decode (q_cc m_cr_fillWithPersons) 58 = .ok (.istore 5, 2) := by decide +kernel
theorem d_cr_fillWithPersons_60 : decode (q_cc m_cr_fillWithPersons) 60 = .ok (.iconst 0, 1) := by decide +kernel
theorem d_cr_fillWithPersons_61 : decode (q_cc m_cr_fillWithPersons) 61 = .ok (.istore 6, 2) := by decide +kernel
theorem d_cr_fillWithPersons_63 : decode (q_cc m_cr_fillWithPersons) 63 = .ok (.iload 6, 2) := by decide +kernel
theorem d_cr_fillWithPersons_65 : decode (q_cc m_cr_fillWithPersons) 65 = .ok (.iconst 1, 1) := by decide +kernel
theorem d_cr_fillWithPersons_66 : decode (q_cc m_cr_fillWithPersons) 66 = .ok (.iload_n 2, 1) := by decide +kernel
theorem d_cr_fillWithPersons_67 : decode (q_cc m_cr_fillWithPersons) 67 = .ok (.ishl, 1) := by decide +kernel
theorem d_cr_fillWithPersons_68 : decode (q_cc m_cr_fillWithPersons) 68 = .ok (.if_icmp .ge 39, 3) := by decide +kernel
theorem d_cr_fillWithPersons_71 : decode (q_cc m_cr_fillWithPersons) 71 = .ok (.aload_n 0, 1) := by decide +kernel
theorem d_cr_fillWithPersons_72 : decode (q_cc m_cr_fillWithPersons) 72 = .ok (.getfield 18, 3) := by decide +kernel
theorem d_cr_fillWithPersons_75 : decode (q_cc m_cr_fillWithPersons) 75 = .ok (.iload 6, 2) := by decide +kernel
theorem d_cr_fillWithPersons_77 : decode (q_cc m_cr_fillWithPersons) 77 = .ok (.iconst 1, 1) := by decide +kernel
theorem d_cr_fillWithPersons_78 : decode (q_cc m_cr_fillWithPersons) 78 = .ok (.iload_n 2, 1) := by decide +kernel
theorem d_cr_fillWithPersons_79 : decode (q_cc m_cr_fillWithPersons) 79 = .ok (.ishl, 1) := by decide +kernel
theorem d_cr_fillWithPersons_80 : decode (q_cc m_cr_fillWithPersons) 80 = .ok (.ior, 1) := by decide +kernel
theorem d_cr_fillWithPersons_81 : decode (q_cc m_cr_fillWithPersons) 81 = .ok (.iload 6, 2) := by decide +kernel
theorem d_cr_fillWithPersons_83 : decode (q_cc m_cr_fillWithPersons) 83 = .ok (.iload 5, 2) := by decide +kernel
theorem d_cr_fillWithPersons_85 : decode (q_cc m_cr_fillWithPersons) 85 = .ok (.iand, 1) := by decide +kernel
theorem d_cr_fillWithPersons_86 : decode (q_cc m_cr_fillWithPersons) 86 = .ok (.ifCond .ne 13, 3) := by decide +kernel
theorem d_cr_fillWithPersons_89 : decode (q_cc m_cr_fillWithPersons) 89 = .ok (.aload_n 0, 1) := by decide +kernel
theorem d_cr_fillWithPersons_90 : decode (q_cc m_cr_fillWithPersons) 90 = .ok (.getfield 18, 3) := by decide +kernel
theorem d_cr_fillWithPersons_93 : decode (q_cc m_cr_fillWithPersons) 93 = .ok (.iload 6, 2) := by decide +kernel
theorem d_cr_fillWithPersons_95 : decode (q_cc m_cr_fillWithPersons) 95 = .ok (.iaload, 1) := by decide +kernel
theorem d_cr_fillWithPersons_96 : decode (q_cc m_cr_fillWithPersons) 96 = .ok (.goto 4, 3) := by decide +kernel
theorem d_cr_fillWithPersons_99 : decode (q_cc m_cr_fillWithPersons) 99 = .ok (.iconst 0, 1) := by decide +kernel
theorem d_cr_fillWithPersons_100 : decode (q_cc m_cr_fillWithPersons) 100 = .ok (.iastore, 1) := by decide +kernel
theorem d_cr_fillWithPersons_101 : decode (q_cc m_cr_fillWithPersons) 101 = .ok (.iinc 6 1, 3) := by decide +kernel
theorem d_cr_fillWithPersons_104 : decode (q_cc m_cr_fillWithPersons) 104 = .ok (.goto (-41), 3) := by decide +kernel
theorem d_cr_fillWithPersons_107 : decode (q_cc m_cr_fillWithPersons) 107 = .ok (.iinc 2 1, 3) := by decide +kernel
theorem d_cr_fillWithPersons_110 : decode (q_cc m_cr_fillWithPersons) 110 = .ok (.goto (-101), 3) := by decide +kernel
theorem d_cr_fillWithPersons_113 : decode (q_cc m_cr_fillWithPersons) 113 = .ok (.return_, 1) := by decide +kernel
theorem d_cr_chosenAmong_0 : decode (q_cc m_cr_chosenAmong) 0 = .ok (.iconst 0, 1) := by decide +kernel
theorem d_cr_chosenAmong_1 : decode (q_cc m_cr_chosenAmong) 1 = .ok (.istore_n 2, 1) := by decide +kernel
theorem d_cr_chosenAmong_2 : decode (q_cc m_cr_chosenAmong) 2 = .ok (.iconst 0, 1) := by decide +kernel
theorem d_cr_chosenAmong_3 : decode (q_cc m_cr_chosenAmong) 3 = .ok (.istore_n 3, 1) := by decide +kernel
theorem d_cr_chosenAmong_4 : decode (q_cc m_cr_chosenAmong) 4 = .ok (.iload_n 3, 1) := by decide +kernel
theorem d_cr_chosenAmong_5 : decode (q_cc m_cr_chosenAmong) 5 = .ok (.aload_n 0, 1) := by decide +kernel
theorem d_cr_chosenAmong_6 : decode (q_cc m_cr_chosenAmong) 6 = .ok (.getfield 30, 3) := by decide +kernel
theorem d_cr_chosenAmong_9 : decode (q_cc m_cr_chosenAmong) 9 = .ok (.if_icmp .ge 24, 3) := by decide +kernel
theorem d_cr_chosenAmong_12 : decode (q_cc m_cr_chosenAmong) 12 = .ok (.iload_n 2, 1) := by decide +kernel
theorem d_cr_chosenAmong_13 : decode (q_cc m_cr_chosenAmong) 13 = .ok (.iload_n 1, 1) := by decide +kernel
theorem d_cr_chosenAmong_14 : decode (q_cc m_cr_chosenAmong) 14 = .ok (.aload_n 0, 1) := by decide +kernel
theorem d_cr_chosenAmong_15 : decode (q_cc m_cr_chosenAmong) 15 = .ok (.getfield 11, 3) := by decide +kernel
theorem d_cr_chosenAmong_18 : decode (q_cc m_cr_chosenAmong) 18 = .ok (.iload_n 3, 1) := by decide +kernel
theorem d_cr_chosenAmong_19 : decode (q_cc m_cr_chosenAmong) 19 = .ok (.iaload, 1) := by decide +kernel
theorem d_cr_chosenAmong_20 : decode (q_cc m_cr_chosenAmong) 20 = .ok (.ishr, 1) := by decide +kernel
theorem d_cr_chosenAmong_21 : decode (q_cc m_cr_chosenAmong) 21 = .ok (.iconst 1, 1) := by decide +kernel
theorem d_cr_chosenAmong_22 : decode (q_cc m_cr_chosenAmong) 22 = .ok (.iand, 1) := by decide +kernel
theorem d_cr_chosenAmong_23 : decode (q_cc m_cr_chosenAmong) 23 = .ok (.iload_n 3, 1) := by decide +kernel
theorem d_cr_chosenAmong_24 : decode (q_cc m_cr_chosenAmong) 24 = .ok (.ishl, 1) := by decide +kernel
theorem d_cr_chosenAmong_25 : decode (q_cc m_cr_chosenAmong) 25 = .ok (.ior, 1) := by decide +kernel
theorem d_cr_chosenAmong_26 : decode (q_cc m_cr_chosenAmong) 26 = .ok (.istore_n 2, 1) := by decide +kernel
theorem d_cr_chosenAmong_27 : decode (q_cc m_cr_chosenAmong) 27 = .ok (.iinc 3 1, 3) := by decide +kernel
theorem d_cr_chosenAmong_30 : decode (q_cc m_cr_chosenAmong) 30 = .ok (.goto (-26), 3) := by decide +kernel
theorem d_cr_chosenAmong_33 : decode (q_cc m_cr_chosenAmong) 33 = .ok (.iload_n 2, 1) := by decide +kernel
theorem d_cr_chosenAmong_34 : decode (q_cc m_cr_chosenAmong) 34 = .ok (.ireturn, 1) := by decide +kernel
theorem d_cr_waysWithPart_0 : decode (q_cc m_cr_waysWithPart) 0 = .ok (.iconst 0, 1) := by decide +kernel
theorem d_cr_waysWithPart_1 : decode (q_cc m_cr_waysWithPart) 1 = .ok (.istore_n 2, 1) := by decide +kernel
theorem d_cr_waysWithPart_2 : decode (q_cc m_cr_waysWithPart) 2 = .ok (.iload_n 1, 1) := by decide +kernel
theorem d_cr_waysWithPart_3 : decode (q_cc m_cr_waysWithPart) 3 = .ok (.istore_n 3, 1) := by decide +kernel
theorem d_cr_waysWithPart_4 : decode (q_cc m_cr_waysWithPart) 4 = .ok (.iload_n 3, 1) := by decide +kernel
theorem d_cr_waysWithPart_5 : decode (q_cc m_cr_waysWithPart) 5 = .ok (.ifCond .lt 41, 3) := by decide +kernel
theorem d_cr_waysWithPart_8 : decode (q_cc m_cr_waysWithPart) 8 = .ok (.aload_n 0, 1) := by decide +kernel
theorem d_cr_waysWithPart_9 : decode (q_cc m_cr_waysWithPart) 9 = .ok (.getfield 21, 3) := by decide +kernel
theorem d_cr_waysWithPart_12 : decode (q_cc m_cr_waysWithPart) 12 = .ok (.iload_n 3, 1) := by decide +kernel
theorem d_cr_waysWithPart_13 : decode (q_cc m_cr_waysWithPart) 13 = .ok (.iaload, 1) := by decide +kernel
theorem d_cr_waysWithPart_14 : decode (q_cc m_cr_waysWithPart) 14 = .ok (.iconst (-1), 1) := by decide +kernel
theorem d_cr_waysWithPart_15 : decode (q_cc m_cr_waysWithPart) 15 = .ok (.if_icmp .eq 14, 3) := by decide +kernel
theorem d_cr_waysWithPart_18 : decode (q_cc m_cr_waysWithPart) 18 = .ok (.iload_n 2, 1) := by decide +kernel
theorem d_cr_waysWithPart_19 : decode (q_cc m_cr_waysWithPart) 19 = .ok (.aload_n 0, 1) := by decide +kernel
theorem d_cr_waysWithPart_20 : decode (q_cc m_cr_waysWithPart) 20 = .ok (.getfield 18, 3) := by decide +kernel
theorem d_cr_waysWithPart_23 : decode (q_cc m_cr_waysWithPart) 23 = .ok (.iload_n 1, 1) := by decide +kernel
theorem d_cr_waysWithPart_24 : decode (q_cc m_cr_waysWithPart) 24 = .ok (.iload_n 3, 1) := by decide +kernel
theorem d_cr_waysWithPart_25 : decode (q_cc m_cr_waysWithPart) 25 = .ok (.ixor, 1) := by decide +kernel
theorem d_cr_waysWithPart_26 : decode (q_cc m_cr_waysWithPart) 26 = .ok (.iaload, 1) := by decide +kernel
theorem d_cr_waysWithPart_27 : decode (q_cc m_cr_waysWithPart) 27 = .ok (.iadd, 1) := by decide +kernel
theorem d_cr_waysWithPart_28 : decode (q_cc m_cr_waysWithPart) 28 = .ok (.istore_n 2, 1) := by decide +kernel
theorem d_cr_waysWithPart_29 : decode (q_cc m_cr_waysWithPart) 29 = .ok (.iload_n 3, 1) := by decide +kernel
theorem d_cr_waysWithPart_30 : decode (q_cc m_cr_waysWithPart) 30 = .ok (.ifCond .ne 7, 3) := by decide +kernel
theorem d_cr_waysWithPart_33 : decode (q_cc m_cr_waysWithPart) 33 = .ok (.iconst (-1), 1) := by decide +kernel
theorem d_cr_waysWithPart_34 : decode (q_cc m_cr_waysWithPart) 34 = .ok (.goto 8, 3) := by decide +kernel
theorem d_cr_waysWithPart_37 : decode (q_cc m_cr_waysWithPart) 37 = .ok (.iload_n 3, 1) := by decide +kernel
theorem d_cr_waysWithPart_38 : decode (q_cc m_cr_waysWithPart) 38 = .ok (.iconst 1, 1) := by decide +kernel
theorem d_cr_waysWithPart_39 : decode (q_cc m_cr_waysWithPart) 39 = .ok (.isub, 1) := by decide +kernel
theorem d_cr_waysWithPart_40 : decode (q_cc m_cr_waysWithPart) 40 = .ok (.iload_n 1, 1) := by decide +kernel
theorem d_cr_waysWithPart_41 : decode (q_cc m_cr_waysWithPart) 41 = .ok (.iand, 1) := by decide +kernel
theorem d_cr_waysWithPart_42 : decode (q_cc m_cr_waysWithPart) 42 = .ok (.istore_n 3, 1) := by decide +kernel
theorem d_cr_waysWithPart_43 : decode (q_cc m_cr_waysWithPart) 43 = .ok (.goto (-39), 3) := by decide +kernel
theorem d_cr_waysWithPart_46 : decode (q_cc m_cr_waysWithPart) 46 = .ok (.iload_n 2, 1) := by decide +kernel
theorem d_cr_waysWithPart_47 : decode (q_cc m_cr_waysWithPart) 47 = .ok (.ireturn, 1) := by decide +kernel
theorem d_cr_findCheapest_0 : decode (q_cc m_cr_findCheapest) 0 = .ok (.iconst 0, 1) := by decide +kernel
theorem d_cr_findCheapest_1 : decode (q_cc m_cr_findCheapest) 1 = .ok (.istore 4, 2) := by decide +kernel
theorem d_cr_findCheapest_3 : decode (q_cc m_cr_findCheapest) 3 = .ok (.iload 4, 2) := by decide +kernel
theorem d_cr_findCheapest_5 : decode (q_cc m_cr_findCheapest) 5 = .ok (.aload_n 0, 1) := by decide +kernel
theorem d_cr_findCheapest_6 : decode (q_cc m_cr_findCheapest) 6 = .ok (.invokevirtual 47, 3) := by decide +kernel
theorem d_cr_findCheapest_9 : decode (q_cc m_cr_findCheapest) 9 = .ok (.if_icmp .ge 26, 3) := by decide +kernel
theorem d_cr_findCheapest_12 : decode (q_cc m_cr_findCheapest) 12 = .ok (.aload_n 0, 1) := by decide +kernel
theorem d_cr_findCheapest_13 : decode (q_cc m_cr_findCheapest) 13 = .ok (.getfield 18, 3) := by decide +kernel
theorem d_cr_findCheapest_16 : decode (q_cc m_cr_findCheapest) 16 = .ok (.iload 4, 2) := by decide +kernel
theorem d_cr_findCheapest_18 : decode (q_cc m_cr_findCheapest) 18 = .ok (.iload 4, 2) := by decide +kernel
theorem d_cr_findCheapest_20 : decode (q_cc m_cr_findCheapest) 20 = .ok (.ifCond .ne 7, 3) := by decide +kernel
theorem d_cr_findCheapest_23 : decode (q_cc m_cr_findCheapest) 23 = .ok (.iconst 0, 1) := by decide +kernel
theorem d_cr_findCheapest_24 : decode (q_cc m_cr_findCheapest) 24 = .ok (.goto 4, 3) := by decide +kernel
theorem d_cr_findCheapest_27 : decode (q_cc m_cr_findCheapest) 27 = .ok (.iconst (-1), 1) := by decide +kernel
theorem d_cr_findCheapest_28 : decode (q_cc m_cr_findCheapest) 28 = .ok (.iastore, 1) := by decide +kernel
theorem d_cr_findCheapest_29 : decode (q_cc m_cr_findCheapest) 29 = .ok (.iinc 4 1, 3) := by decide +kernel
theorem d_cr_findCheapest_32 : decode (q_cc m_cr_findCheapest) 32 = .ok (.goto (-29), 3) := by decide +kernel
theorem d_cr_findCheapest_35 : decode (q_cc m_cr_findCheapest) 35 = .ok (.iconst 0, 1) := by decide +kernel
theorem d_cr_findCheapest_36 : decode (q_cc m_cr_findCheapest) 36 = .ok (.istore 4, 2) := by decide +kernel
theorem d_cr_findCheapest_38 : decode (q_cc m_cr_findCheapest) 38 = .ok (.iload 4, 2) := by decide +kernel
theorem d_cr_findCheapest_40 : decode (q_cc m_cr_findCheapest) 40 = .ok (.aload_n 1, 1) := by decide +kernel
theorem d_cr_findCheapest_41 : decode (q_cc m_cr_findCheapest) 41 = .ok (.getfield 38, 3) := by decide +kernel
theorem d_cr_findCheapest_44 : decode (q_cc m_cr_findCheapest) 44 = .ok (.iconst 2, 1) := by decide +kernel
theorem d_cr_findCheapest_45 : decode (q_cc m_cr_findCheapest) 45 = .ok (.iaload, 1) := by decide +kernel
theorem d_cr_findCheapest_46 : decode (q_cc m_cr_findCheapest) 46 = .ok (.if_icmp .ge 51, 3) := by decide +kernel
theorem d_cr_findCheapest_49 : decode (q_cc m_cr_findCheapest) 49 = .ok (.aload_n 0, 1) := by decide +kernel
theorem d_cr_findCheapest_50 : decode (q_cc m_cr_findCheapest) 50 = .ok (.aload_n 1, 1) := by decide +kernel
theorem d_cr_findCheapest_51 : decode (q_cc m_cr_findCheapest) 51 = .ok (.aload_n 2, 1) := by decide +kernel
theorem d_cr_findCheapest_52 : decode (q_cc m_cr_findCheapest) 52 = .ok (.iload 4, 2) := by decide +kernel
theorem d_cr_findCheapest_54 : decode (q_cc m_cr_findCheapest) 54 = .ok (.iload_n 3, 1) := by decide +kernel
theorem d_cr_findCheapest_55 : decode (q_cc m_cr_findCheapest) 55 = .ok (.iconst 1, 1) := by decide +kernel
theorem d_cr_findCheapest_56 : decode (q_cc m_cr_findCheapest) 56 = .ok (.invokevirtual 43, 3) := by decide +kernel
theorem d_cr_findCheapest_59 : decode (q_cc m_cr_findCheapest) 59 = .ok (.aload_n 0, 1) := by decide +kernel
theorem d_cr_findCheapest_60 : decode (q_cc m_cr_findCheapest) 60 = .ok (.invokevirtual 47, 3) := by decide +kernel
theorem d_cr_findCheapest_63 : decode (q_cc m_cr_findCheapest) 63 = .ok (.iconst 1, 1) := by decide +kernel
theorem d_cr_findCheapest_64 : decode (q_cc m_cr_findCheapest) 64 = .ok (.isub, 1) := by decide +kernel
theorem d_cr_findCheapest_65 : decode (q_cc m_cr_findCheapest) 65 = .ok (.istore 5, 2) := by decide +kernel
theorem d_cr_findCheapest_67 : decode (q_cc m_cr_findCheapest) 67 = .ok (.iload 5, 2) := by decide +kernel
theorem d_cr_findCheapest_69 : decode (q_cc m_cr_findCheapest) 69 = .ok (.ifCond .lt 22, 3) := by decide +kernel
theorem d_cr_findCheapest_72 : decode (q_cc m_cr_findCheapest) 72 = .ok (.aload_n 0, 1) := by decide +kernel
theorem d_cr_findCheapest_73 : decode (q_cc m_cr_findCheapest) 73 = .ok (.getfield 18, 3) := by decide +kernel
theorem d_cr_findCheapest_76 : decode (q_cc m_cr_findCheapest) 76 = .ok (.iload 5, 2) := by decide +kernel
theorem d_cr_findCheapest_78 : decode (q_cc m_cr_findCheapest) 78 = .ok (.aload_n 0, 1) := by decide +kernel
theorem d_cr_findCheapest_79 : decode (q_cc m_cr_findCheapest) 79 = .ok (.iload 5, 2) := by decide +kernel
theorem d_cr_findCheapest_81 : decode (q_cc m_cr_findCheapest) 81 = .ok (.invokevirtual 67, 3) := by decide +kernel
theorem d_cr_findCheapest_84 : decode (q_cc m_cr_findCheapest) 84 = .ok (.iastore, 1) := by decide +kernel
theorem d_cr_findCheapest_85 : decode (q_cc m_cr_findCheapest) 85 = .ok (.iinc 5 (-1), 3) := by decide +kernel
theorem d_cr_findCheapest_88 : decode (q_cc m_cr_findCheapest) 88 = .ok (.goto (-21), 3) := by decide +kernel
theorem d_cr_findCheapest_91 : decode (q_cc m_cr_findCheapest) 91 = .ok (.iinc 4 1, 3) := by decide +kernel
theorem d_cr_findCheapest_94 : decode (q_cc m_cr_findCheapest) 94 = .ok (.goto (-56), 3) := by decide +kernel
theorem d_cr_findCheapest_97 : decode (q_cc m_cr_findCheapest) 97 = .ok (.aload_n 0, 1) := by decide +kernel
theorem d_cr_findCheapest_98 : decode (q_cc m_cr_findCheapest) 98 = .ok (.getfield 18, 3) := by decide +kernel
theorem d_cr_findCheapest_101 : decode (q_cc m_cr_findCheapest) 101 = .ok (.aload_n 0, 1) := by decide +kernel
theorem d_cr_findCheapest_102 : decode (q_cc m_cr_findCheapest) 102 = .ok (.invokevirtual 47, 3) := by decide +kernel
theorem d_cr_findCheapest_105 : decode (q_cc m_cr_findCheapest) 105 = .ok (.iconst 1, 1) := by decide +kernel
theorem d_cr_findCheapest_106 : decode (q_cc m_cr_findCheapest) 106 = .ok (.isub, 1) := by decide +kernel
theorem d_cr_findCheapest_107 : decode (q_cc m_cr_findCheapest) 107 = .ok (.iaload, 1) := by decide +kernel
theorem d_cr_findCheapest_108 : decode (q_cc m_cr_findCheapest) 108 = .ok (.istore 4, 2) := by decide +kernel
theorem d_cr_findCheapest_110 : decode (q_cc m_cr_findCheapest) 110 = .ok (.iload 4, 2) := by decide +kernel
theorem d_cr_findCheapest_112 : decode (q_cc m_cr_findCheapest) 112 = .ok (.iconst (-1), 1) := by decide +kernel
theorem d_cr_findCheapest_113 : decode (q_cc m_cr_findCheapest) 113 = .ok (.if_icmp .ne 5, 3) := by decide +kernel
theorem d_cr_findCheapest_116 : decode (q_cc m_cr_findCheapest) 116 = .ok (.iconst 0, 1) := by decide +kernel
theorem d_cr_findCheapest_117 : decode (q_cc m_cr_findCheapest) 117 = .ok (.ireturn, 1) := by decide +kernel
theorem d_cr_findCheapest_118 : decode (q_cc m_cr_findCheapest) 118 = .ok (.aload_n 0, 1) := by decide +kernel
theorem d_cr_findCheapest_119 : decode (q_cc m_cr_findCheapest) 119 = .ok (.iload 4, 2) := by decide +kernel
theorem d_cr_findCheapest_121 : decode (q_cc m_cr_findCheapest) 121 = .ok (.ldc 70, 2) := by decide +kernel
theorem d_cr_findCheapest_123 : decode (q_cc m_cr_findCheapest) 123 = .ok (.idiv, 1) := by decide +kernel
theorem d_cr_findCheapest_124 : decode (q_cc m_cr_findCheapest) 124 = .ok (.putfield 71, 3) := by decide +kernel
theorem d_cr_findCheapest_127 : decode (q_cc m_cr_findCheapest) 127 = .ok (.iload 4, 2) := by decide +kernel
theorem d_cr_findCheapest_129 : decode (q_cc m_cr_findCheapest) 129 = .ok (.ldc 70, 2) := by decide +kernel
theorem d_cr_findCheapest_131 : decode (q_cc m_cr_findCheapest) 131 = .ok (.irem, 1) := by decide +kernel
theorem d_cr_findCheapest_132 : decode (q_cc m_cr_findCheapest) 132 = .ok (.istore 5, 2) := by decide +kernel
theorem d_cr_findCheapest_134 : decode (q_cc m_cr_findCheapest) 134 = .ok (.bipush 6, 2) := by decide +kernel
theorem d_cr_findCheapest_136 : decode (q_cc m_cr_findCheapest) 136 = .ok (.istore 6, 2) := by decide +kernel
theorem d_cr_findCheapest_138 : decode (q_cc m_cr_findCheapest) 138 = .ok (.iload 6, 2) := by decide +kernel
theorem d_cr_findCheapest_140 : decode (q_cc m_cr_findCheapest) 140 = .ok (.ifCond .lt 26, 3) := by decide +kernel
theorem d_cr_findCheapest_143 : decode (q_cc m_cr_findCheapest) 143 = .ok (.aload_n 0, 1) := by decide +kernel
theorem d_cr_findCheapest_144 : decode (q_cc m_cr_findCheapest) 144 = .ok (.getfield 15, 3) := by decide +kernel
theorem d_cr_findCheapest_147 : decode (q_cc m_cr_findCheapest) 147 = .ok (.iload 6, 2) := by decide +kernel
theorem d_cr_findCheapest_149 : decode (q_cc m_cr_findCheapest) 149 = .ok (.iload 5, 2) := by decide +kernel
theorem d_cr_findCheapest_151 : decode (q_cc m_cr_findCheapest) 151 = .ok (.iconst 5, 1) := by decide +kernel
theorem d_cr_findCheapest_152 : decode (q_cc m_cr_findCheapest) 152 = .ok (.irem, 1) := by decide +kernel
theorem d_cr_findCheapest_153 : decode (q_cc m_cr_findCheapest) 153 = .ok (.iastore, 1) := by decide +kernel
theorem d_cr_findCheapest_154 : decode (q_cc m_cr_findCheapest) 154 = .ok (.iload 5, 2) := by decide +kernel
theorem d_cr_findCheapest_156 : decode (q_cc m_cr_findCheapest) 156 = .ok (.iconst 5, 1) := by decide +kernel
theorem d_cr_findCheapest_157 : decode (q_cc m_cr_findCheapest) 157 = .ok (.idiv, 1) := by decide +kernel
theorem d_cr_findCheapest_158 : decode (q_cc m_cr_findCheapest) 158 = .ok (.istore 5, 2) := by decide +kernel
theorem d_cr_findCheapest_160 : decode (q_cc m_cr_findCheapest) 160 = .ok (.iinc 6 (-1), 3) := by decide +kernel
theorem d_cr_findCheapest_163 : decode (q_cc m_cr_findCheapest) 163 = .ok (.goto (-25), 3) := by decide +kernel
theorem d_cr_findCheapest_166 : decode (q_cc m_cr_findCheapest) 166 = .ok (.iconst 1, 1) := by decide +kernel
theorem d_cr_findCheapest_167 : decode (q_cc m_cr_findCheapest) 167 = .ok (.ireturn, 1) := by decide +kernel
theorem d_cr_cheapestWithPart_0 : decode (q_cc m_cr_cheapestWithPart) 0 = .ok (.iconst (-1), 1) := by decide +kernel
theorem d_cr_cheapestWithPart_1 : decode (q_cc m_cr_cheapestWithPart) 1 = .ok (.istore_n 2, 1) := by decide +kernel
theorem d_cr_cheapestWithPart_2 : decode (q_cc m_cr_cheapestWithPart) 2 = .ok (.iload_n 1, 1) := by decide +kernel
theorem d_cr_cheapestWithPart_3 : decode (q_cc m_cr_cheapestWithPart) 3 = .ok (.istore_n 3, 1) := by decide +kernel
theorem d_cr_cheapestWithPart_4 : decode (q_cc m_cr_cheapestWithPart) 4 = .ok (.iload_n 3, 1) := by decide +kernel
theorem d_cr_cheapestWithPart_5 : decode (q_cc m_cr_cheapestWithPart) 5 = .ok (.ifCond .lt 74, 3) := by decide +kernel
theorem d_cr_cheapestWithPart_8 : decode (q_cc m_cr_cheapestWithPart) 8 = .ok (.aload_n 0, 1) := by decide +kernel
theorem d_cr_cheapestWithPart_9 : decode (q_cc m_cr_cheapestWithPart) 9 = .ok (.getfield 18, 3) := by decide +kernel
theorem d_cr_cheapestWithPart_12 : decode (q_cc m_cr_cheapestWithPart) 12 = .ok (.iload_n 1, 1) := by decide +kernel
theorem d_cr_cheapestWithPart_13 : decode (q_cc m_cr_cheapestWithPart) 13 = .ok (.iload_n 3, 1) := by decide +kernel
theorem d_cr_cheapestWithPart_14 : decode (q_cc m_cr_cheapestWithPart) 14 = .ok (.ixor, 1) := by decide +kernel
theorem d_cr_cheapestWithPart_15 : decode (q_cc m_cr_cheapestWithPart) 15 = .ok (.iaload, 1) := by decide +kernel
theorem d_cr_cheapestWithPart_16 : decode (q_cc m_cr_cheapestWithPart) 16 = .ok (.istore 4, 2) := by decide +kernel
theorem d_cr_cheapestWithPart_18 : decode (q_cc m_cr_cheapestWithPart) 18 = .ok (.aload_n 0, 1) := by decide +kernel
theorem d_cr_cheapestWithPart_19 : decode (q_cc m_cr_cheapestWithPart) 19 = .ok (.getfield 21, 3) := by decide +kernel
theorem d_cr_cheapestWithPart_22 : decode (q_cc m_cr_cheapestWithPart) 22 = .ok (.iload_n 3, 1) := by decide +kernel
theorem d_cr_cheapestWithPart_23 : decode (q_cc m_cr_cheapestWithPart) 23 = .ok (.iaload, 1) := by decide +kernel
theorem d_cr_cheapestWithPart_24 : decode (q_cc m_cr_cheapestWithPart) 24 = .ok (.iconst (-1), 1) := by decide +kernel
theorem d_cr_cheapestWithPart_25 : decode (q_cc m_cr_cheapestWithPart) 25 = .ok (.if_icmp .eq 37, 3) := by decide +kernel
theorem d_cr_cheapestWithPart_28 : decode (q_cc m_cr_cheapestWithPart) 28 = .ok (.iload 4, 2) := by decide +kernel
theorem d_cr_cheapestWithPart_30 : decode (q_cc m_cr_cheapestWithPart) 30 = .ok (.iconst (-1), 1) := by decide +kernel
theorem d_cr_cheapestWithPart_31 : decode (q_cc m_cr_cheapestWithPart) 31 = .ok (.if_icmp .eq 31, 3) := by decide +kernel
theorem d_cr_cheapestWithPart_34 : decode (q_cc m_cr_cheapestWithPart) 34 = .ok (.iload_n 2, 1) := by decide +kernel
theorem d_cr_cheapestWithPart_35 : decode (q_cc m_cr_cheapestWithPart) 35 = .ok (.iconst (-1), 1) := by decide +kernel
theorem d_cr_cheapestWithPart_36 : decode (q_cc m_cr_cheapestWithPart) 36 = .ok (.if_icmp .eq 16, 3) := by decide +kernel
theorem d_cr_cheapestWithPart_39 : decode (q_cc m_cr_cheapestWithPart) 39 = .ok (.aload_n 0, 1) := by decide +kernel
theorem d_cr_cheapestWithPart_40 : decode (q_cc m_cr_cheapestWithPart) 40 = .ok (.getfield 21, 3) := by decide +kernel
theorem d_cr_cheapestWithPart_43 : decode (q_cc m_cr_cheapestWithPart) 43 = .ok (.iload_n 3, 1) := by decide +kernel
theorem d_cr_cheapestWithPart_44 : decode (q_cc m_cr_cheapestWithPart) 44 = .ok (.iaload, 1) := by decide +kernel
theorem d_cr_cheapestWithPart_45 : decode (q_cc m_cr_cheapestWithPart) 45 = .ok (.iload 4, 2) := by decide +kernel
theorem d_cr_cheapestWithPart_47 : decode (q_cc m_cr_cheapestWithPart) 47 = .ok (.iadd, 1) := by decide +kernel
theorem d_cr_cheapestWithPart_48 : decode (q_cc m_cr_cheapestWithPart) 48 = .ok (.iload_n 2, 1) := by decide +kernel
theorem d_cr_cheapestWithPart_49 : decode (q_cc m_cr_cheapestWithPart) 49 = .ok (.if_icmp .ge 13, 3) := by decide +kernel
theorem d_cr_cheapestWithPart_52 : decode (q_cc m_cr_cheapestWithPart) 52 = .ok (.aload_n 0, 1) := by decide +kernel
theorem d_cr_cheapestWithPart_53 : decode (q_cc m_cr_cheapestWithPart) 53 = .ok (.getfield 21, 3) := by decide +kernel
theorem d_cr_cheapestWithPart_56 : decode (q_cc m_cr_cheapestWithPart) 56 = .ok (.iload_n 3, 1) := by decide +kernel
theorem d_cr_cheapestWithPart_57 : decode (q_cc m_cr_cheapestWithPart) 57 = .ok (.iaload, 1) := by decide +kernel
theorem d_cr_cheapestWithPart_58 : decode (q_cc m_cr_cheapestWithPart) 58 = .ok (.iload 4, 2) := by decide +kernel
theorem d_cr_cheapestWithPart_60 : decode (q_cc m_cr_cheapestWithPart) 60 = .ok (.iadd, 1) := by decide +kernel
theorem d_cr_cheapestWithPart_61 : decode (q_cc m_cr_cheapestWithPart) 61 = .ok (.istore_n 2, 1) := by decide +kernel
theorem d_cr_cheapestWithPart_62 : decode (q_cc m_cr_cheapestWithPart) 62 = .ok (.iload_n 3, 1) := by decide +kernel
theorem d_cr_cheapestWithPart_63 : decode (q_cc m_cr_cheapestWithPart) 63 = .ok (.ifCond .ne 7, 3) := by decide +kernel
theorem d_cr_cheapestWithPart_66 : decode (q_cc m_cr_cheapestWithPart) 66 = .ok (.iconst (-1), 1) := by decide +kernel
theorem d_cr_cheapestWithPart_67 : decode (q_cc m_cr_cheapestWithPart) 67 = .ok (.goto 8, 3) := by decide +kernel
theorem d_cr_cheapestWithPart_70 : decode (q_cc m_cr_cheapestWithPart) 70 = .ok (.iload_n 3, 1) := by decide +kernel
theorem d_cr_cheapestWithPart_71 : decode (q_cc m_cr_cheapestWithPart) 71 = .ok (.iconst 1, 1) := by decide +kernel
theorem d_cr_cheapestWithPart_72 : decode (q_cc m_cr_cheapestWithPart) 72 = .ok (.isub, 1) := by decide +kernel
theorem d_cr_cheapestWithPart_73 : decode (q_cc m_cr_cheapestWithPart) 73 = .ok (.iload_n 1, 1) := by decide +kernel
theorem d_cr_cheapestWithPart_74 : decode (q_cc m_cr_cheapestWithPart) 74 = .ok (.iand, 1) := by decide +kernel
theorem d_cr_cheapestWithPart_75 : decode (q_cc m_cr_cheapestWithPart) 75 = .ok (.istore_n 3, 1) := by decide +kernel
theorem d_cr_cheapestWithPart_76 : decode (q_cc m_cr_cheapestWithPart) 76 = .ok (.goto (-72), 3) := by decide +kernel
theorem d_cr_cheapestWithPart_79 : decode (q_cc m_cr_cheapestWithPart) 79 = .ok (.iload_n 2, 1) := by decide +kernel
theorem d_cr_cheapestWithPart_80 : decode (q_cc m_cr_cheapestWithPart) 80 = .ok (.ireturn, 1) := by decide +kernel
theorem d_cr_fillPart_0 : decode (q_cc m_cr_fillPart) 0 = .ok (.aload_n 2, 1) := by decide +kernel
theorem d_cr_fillPart_1 : decode (q_cc m_cr_fillPart) 1 = .ok (.iload_n 3, 1) := by decide +kernel
theorem d_cr_fillPart_2 : decode (q_cc m_cr_fillPart) 2 = .ok (.aload_n 1, 1) := by decide +kernel
theorem d_cr_fillPart_3 : decode (q_cc m_cr_fillPart) 3 = .ok (.getfield 38, 3) := by decide +kernel
theorem d_cr_fillPart_6 : decode (q_cc m_cr_fillPart) 6 = .ok (.iconst 4, 1) := by decide +kernel
theorem d_cr_fillPart_7 : decode (q_cc m_cr_fillPart) 7 = .ok (.iaload, 1) := by decide +kernel
theorem d_cr_fillPart_8 : decode (q_cc m_cr_fillPart) 8 = .ok (.invokevirtual 74, 3) := by decide +kernel
theorem d_cr_fillPart_11 : decode (q_cc m_cr_fillPart) 11 = .ok (.istore 6, 2) := by decide +kernel
theorem d_cr_fillPart_13 : decode (q_cc m_cr_fillPart) 13 = .ok (.sipush 15625, 3) := by decide +kernel
theorem d_cr_fillPart_16 : decode (q_cc m_cr_fillPart) 16 = .ok (.istore 7, 2) := by decide +kernel
theorem d_cr_fillPart_18 : decode (q_cc m_cr_fillPart) 18 = .ok (.aload_n 0, 1) := by decide +kernel
theorem d_cr_fillPart_19 : decode (q_cc m_cr_fillPart) 19 = .ok (.getfield 21, 3) := by decide +kernel
theorem d_cr_fillPart_22 : decode (q_cc m_cr_fillPart) 22 = .ok (.iconst 0, 1) := by decide +kernel
theorem d_cr_fillPart_23 : decode (q_cc m_cr_fillPart) 23 = .ok (.iconst 0, 1) := by decide +kernel
theorem d_cr_fillPart_24 : decode (q_cc m_cr_fillPart) 24 = .ok (.iastore, 1) := by decide +kernel
theorem d_cr_fillPart_25 : decode (q_cc m_cr_fillPart) 25 = .ok (.iconst 0, 1) := by decide +kernel
theorem d_cr_fillPart_26 : decode (q_cc m_cr_fillPart) 26 = .ok (.istore 8, 2) := by decide +kernel
theorem d_cr_fillPart_28 : decode (q_cc m_cr_fillPart) 28 = .ok (.iload 8, 2) := by decide +kernel
theorem d_cr_fillPart_30 : decode (q_cc m_cr_fillPart) 30 = .ok (.aload_n 0, 1) := by decide +kernel
theorem d_cr_fillPart_31 : decode (q_cc m_cr_fillPart) 31 = .ok (.getfield 30, 3) := by decide +kernel
theorem d_cr_fillPart_34 : decode (q_cc m_cr_fillPart) 34 = .ok (.if_icmp .ge 188, 3) := by decide +kernel
theorem d_cr_fillPart_37 : decode (q_cc m_cr_fillPart) 37 = .ok (.aload_n 1, 1) := by decide +kernel
theorem d_cr_fillPart_38 : decode (q_cc m_cr_fillPart) 38 = .ok (.getfield 61, 3) := by decide +kernel
theorem d_cr_fillPart_41 : decode (q_cc m_cr_fillPart) 41 = .ok (.aload_n 0, 1) := by decide +kernel
theorem d_cr_fillPart_42 : decode (q_cc m_cr_fillPart) 42 = .ok (.getfield 11, 3) := by decide +kernel
theorem d_cr_fillPart_45 : decode (q_cc m_cr_fillPart) 45 = .ok (.iload 8, 2) := by decide +kernel
theorem d_cr_fillPart_47 : decode (q_cc m_cr_fillPart) 47 = .ok (.iaload, 1) := by decide +kernel
theorem d_cr_fillPart_48 : decode (q_cc m_cr_fillPart) 48 = .ok (.iaload, 1) := by decide +kernel
theorem d_cr_fillPart_49 : decode (q_cc m_cr_fillPart) 49 = .ok (.istore 9, 2) := by decide +kernel
theorem d_cr_fillPart_51 : decode (q_cc m_cr_fillPart) 51 = .ok (.aload_n 1, 1) := by decide +kernel
theorem d_cr_fillPart_52 : decode (q_cc m_cr_fillPart) 52 = .ok (.getfield 80, 3) := by decide +kernel
theorem d_cr_fillPart_55 : decode (q_cc m_cr_fillPart) 55 = .ok (.iload_n 3, 1) := by decide +kernel
theorem d_cr_fillPart_56 : decode (q_cc m_cr_fillPart) 56 = .ok (.aaload, 1) := by decide +kernel
theorem d_cr_fillPart_57 : decode (q_cc m_cr_fillPart) 57 = .ok (.aload_n 0, 1) := by decide +kernel
theorem d_cr_fillPart_58 : decode (q_cc m_cr_fillPart) 58 = .ok (.getfield 11, 3) := by decide +kernel
theorem d_cr_fillPart_61 : decode (q_cc m_cr_fillPart) 61 = .ok (.iload 8, 2) := by decide +kernel
theorem d_cr_fillPart_63 : decode (q_cc m_cr_fillPart) 63 = .ok (.iaload, 1) := by decide +kernel
theorem d_cr_fillPart_64 : decode (q_cc m_cr_fillPart) 64 = .ok (.iaload, 1) := by decide +kernel
theorem d_cr_fillPart_65 : decode (q_cc m_cr_fillPart) 65 = .ok (.iload 4, 2) := by decide +kernel
theorem d_cr_fillPart_67 : decode (q_cc m_cr_fillPart) 67 = .ok (.if_icmp .lt 17, 3) := by decide +kernel
theorem d_cr_fillPart_70 : decode (q_cc m_cr_fillPart) 70 = .ok (.iload 6, 2) := by decide +kernel
theorem d_cr_fillPart_72 : decode (q_cc m_cr_fillPart) 72 = .ok (.iload 9, 2) := by decide +kernel
theorem d_cr_fillPart_74 : decode (q_cc m_cr_fillPart) 74 = .ok (.iconst (-1), 1) := by decide +kernel
theorem d_cr_fillPart_75 : decode (q_cc m_cr_fillPart) 75 = .ok (.ixor, 1) := by decide +kernel
theorem d_cr_fillPart_76 : decode (q_cc m_cr_fillPart) 76 = .ok (.iand, 1) := by decide +kernel
theorem d_cr_fillPart_77 : decode (q_cc m_cr_fillPart) 77 = .ok (.ifCond .ne 7, 3) := by decide +kernel
theorem d_cr_fillPart_80 : decode (q_cc m_cr_fillPart) 80 = .ok (.iconst 1, 1) := by decide +kernel
theorem d_cr_fillPart_81 : decode (q_cc m_cr_fillPart) 81 = .ok (.goto 4, 3) := by decide +kernel
theorem d_cr_fillPart_84 : decode (q_cc m_cr_fillPart) 84 = .ok (.iconst 0, 1) := by decide +kernel
theorem d_cr_fillPart_85 : decode (q_cc m_cr_fillPart) 85 = .ok (.istore 10, 2) := by decide +kernel
theorem d_cr_fillPart_87 : decode (q_cc m_cr_fillPart) 87 = .ok (.iload 5, 2) := by decide +kernel
theorem d_cr_fillPart_89 : decode (q_cc m_cr_fillPart) 89 = .ok (.ifCond .eq 28, 3) := by decide +kernel
theorem d_cr_fillPart_92 : decode (q_cc m_cr_fillPart) 92 = .ok (.aload_n 1, 1) := by decide +kernel
theorem d_cr_fillPart_93 : decode (q_cc m_cr_fillPart) 93 = .ok (.getfield 83, 3) := by decide +kernel
theorem d_cr_fillPart_96 : decode (q_cc m_cr_fillPart) 96 = .ok (.iload_n 3, 1) := by decide +kernel
theorem d_cr_fillPart_97 : decode (q_cc m_cr_fillPart) 97 = .ok (.aaload, 1) := by decide +kernel
theorem d_cr_fillPart_98 : decode (q_cc m_cr_fillPart) 98 = .ok (.aload_n 0, 1) := by decide +kernel
theorem d_cr_fillPart_99 : decode (q_cc m_cr_fillPart) 99 = .ok (.getfield 11, 3) := by decide +kernel
theorem d_cr_fillPart_102 : decode (q_cc m_cr_fillPart) 102 = .ok (.iload 8, 2) := by decide +kernel
theorem d_cr_fillPart_104 : decode (q_cc m_cr_fillPart) 104 = .ok (.iaload, 1) := by decide +kernel
theorem d_cr_fillPart_105 : decode (q_cc m_cr_fillPart) 105 = .ok (.iaload, 1) := by decide +kernel
theorem d_cr_fillPart_106 : decode (q_cc m_cr_fillPart) 106 = .ok (.ldc 70, 2) := by decide +kernel
theorem d_cr_fillPart_108 : decode (q_cc m_cr_fillPart) 108 = .ok (.imul, 1) := by decide +kernel
theorem d_cr_fillPart_109 : decode (q_cc m_cr_fillPart) 109 = .ok (.iload_n 3, 1) := by decide +kernel
theorem d_cr_fillPart_110 : decode (q_cc m_cr_fillPart) 110 = .ok (.iload 7, 2) := by decide +kernel
theorem d_cr_fillPart_112 : decode (q_cc m_cr_fillPart) 112 = .ok (.imul, 1) := by decide +kernel
theorem d_cr_fillPart_113 : decode (q_cc m_cr_fillPart) 113 = .ok (.iadd, 1) := by decide +kernel
theorem d_cr_fillPart_114 : decode (q_cc m_cr_fillPart) 114 = .ok (.goto 4, 3) := by decide +kernel
theorem d_cr_fillPart_117 : decode (q_cc m_cr_fillPart) 117 = .ok (.iconst 0, 1) := by decide +kernel
theorem d_cr_fillPart_118 : decode (q_cc m_cr_fillPart) 118 = .ok (.istore 11, 2) := by decide +kernel
theorem d_cr_fillPart_120 : decode (q_cc m_cr_fillPart) 120 = .ok (.aload_n 0, 1) := by decide +kernel
theorem d_cr_fillPart_121 : decode (q_cc m_cr_fillPart) 121 = .ok (.iload 9, 2) := by decide +kernel
theorem d_cr_fillPart_123 : decode (q_cc m_cr_fillPart) 123 = .ok (.iconst (-1), 1) := by decide +kernel
theorem d_cr_fillPart_124 : decode (q_cc m_cr_fillPart) 124 = .ok (.ixor, 1) := by decide +kernel
theorem d_cr_fillPart_125 : decode (q_cc m_cr_fillPart) 125 = .ok (.invokevirtual 64, 3) := by decide +kernel
theorem d_cr_fillPart_128 : decode (q_cc m_cr_fillPart) 128 = .ok (.istore 12, 2) := by decide +kernel
theorem d_cr_fillPart_130 : decode (q_cc m_cr_fillPart) 130 = .ok (.iconst 0, 1) := by decide +kernel
theorem d_cr_fillPart_131 : decode (q_cc m_cr_fillPart) 131 = .ok (.istore 13, 2) := by decide +kernel
theorem d_cr_fillPart_133 : decode (q_cc m_cr_fillPart) 133 = .ok (.iload 13, 2) := by decide +kernel
theorem d_cr_fillPart_135 : decode (q_cc m_cr_fillPart) 135 = .ok (.iconst 1, 1) := by decide +kernel
theorem d_cr_fillPart_136 : decode (q_cc m_cr_fillPart) 136 = .ok (.iload 8, 2) := by decide +kernel
theorem d_cr_fillPart_138 : decode (q_cc m_cr_fillPart) 138 = .ok (.ishl, 1) := by decide +kernel
theorem d_cr_fillPart_139 : decode (q_cc m_cr_fillPart) 139 = .ok (.if_icmp .ge 71, 3) := by decide +kernel
theorem d_cr_fillPart_142 : decode (q_cc m_cr_fillPart) 142 = .ok (.iload 10, 2) := by decide +kernel
theorem d_cr_fillPart_144 : decode (q_cc m_cr_fillPart) 144 = .ok (.ifCond .eq 26, 3) := by decide +kernel
theorem d_cr_fillPart_147 : decode (q_cc m_cr_fillPart) 147 = .ok (.aload_n 0, 1) := by decide +kernel
theorem d_cr_fillPart_148 : decode (q_cc m_cr_fillPart) 148 = .ok (.getfield 21, 3) := by decide +kernel
theorem d_cr_fillPart_151 : decode (q_cc m_cr_fillPart) 151 = .ok (.iload 13, 2) := by decide +kernel
theorem d_cr_fillPart_153 : decode (q_cc m_cr_fillPart) 153 = .ok (.iaload, 1) := by decide +kernel
theorem d_cr_fillPart_154 : decode (q_cc m_cr_fillPart) 154 = .ok (.iconst (-1), 1) := by decide +kernel
theorem d_cr_fillPart_155 : decode (q_cc m_cr_fillPart) 155 = .ok (.if_icmp .eq 15, 3) := by decide +kernel
theorem d_cr_fillPart_158 : decode (q_cc m_cr_fillPart) 158 = .ok (.iload 13, 2) := by decide +kernel
theorem d_cr_fillPart_160 : decode (q_cc m_cr_fillPart) 160 = .ok (.iload 12, 2) := by decide +kernel
theorem d_cr_fillPart_162 : decode (q_cc m_cr_fillPart) 162 = .ok (.iand, 1) := by decide +kernel
theorem d_cr_fillPart_163 : decode (q_cc m_cr_fillPart) 163 = .ok (.ifCond .ne 7, 3) := by decide +kernel
theorem d_cr_fillPart_166 : decode (q_cc m_cr_fillPart) 166 = .ok (.iconst 1, 1) := by decide +kernel
theorem d_cr_fillPart_167 : decode (q_cc m_cr_fillPart) 167 = .ok (.goto 4, 3) := by decide +kernel
theorem d_cr_fillPart_170 : decode (q_cc m_cr_fillPart) 170 = .ok (.iconst 0, 1) := by decide +kernel
theorem d_cr_fillPart_171 : decode (q_cc m_cr_fillPart) 171 = .ok (.istore 14, 2) := by decide +kernel
theorem d_cr_fillPart_173 : decode (q_cc m_cr_fillPart) 173 = .ok (.aload_n 0, 1) := by decide +kernel
theorem d_cr_fillPart_174 : decode (q_cc m_cr_fillPart) 174 = .ok (.getfield 21, 3) := by decide +kernel
theorem d_cr_fillPart_177 : decode (q_cc m_cr_fillPart) 177 = .ok (.iload 13, 2) := by decide +kernel
theorem d_cr_fillPart_179 : decode (q_cc m_cr_fillPart) 179 = .ok (.iconst 1, 1) := by decide +kernel
theorem d_cr_fillPart_180 : decode (q_cc m_cr_fillPart) 180 = .ok (.iload 8, 2) := by decide +kernel
theorem d_cr_fillPart_182 : decode (q_cc m_cr_fillPart) 182 = .ok (.ishl, 1) := by decide +kernel
theorem d_cr_fillPart_183 : decode (q_cc m_cr_fillPart) 183 = .ok (.ior, 1) := by decide +kernel
theorem d_cr_fillPart_184 : decode (q_cc m_cr_fillPart) 184 = .ok (.iload 14, 2) := by decide +kernel
theorem d_cr_fillPart_186 : decode (q_cc m_cr_fillPart) 186 = .ok (.ifCond .eq 16, 3) := by decide +kernel
theorem d_cr_fillPart_189 : decode (q_cc m_cr_fillPart) 189 = .ok (.aload_n 0, 1) := by decide +kernel
theorem d_cr_fillPart_190 : decode (q_cc m_cr_fillPart) 190 = .ok (.getfield 21, 3) := by decide +kernel
theorem d_cr_fillPart_193 : decode (q_cc m_cr_fillPart) 193 = .ok (.iload 13, 2) := by decide +kernel
theorem d_cr_fillPart_195 : decode (q_cc m_cr_fillPart) 195 = .ok (.iaload, 1) := by decide +kernel
theorem d_cr_fillPart_196 : decode (q_cc m_cr_fillPart) 196 = .ok (.iload 11, 2) := by decide +kernel
theorem d_cr_fillPart_198 : decode (q_cc m_cr_fillPart) 198 = .ok (.iadd, 1) := by decide +kernel
theorem d_cr_fillPart_199 : decode (q_cc m_cr_fillPart) 199 = .ok (.goto 4, 3) := by decide +kernel
theorem d_cr_fillPart_202 : decode (q_cc m_cr_fillPart) 202 = .ok (.iconst (-1), 1) := by decide +kernel
theorem d_cr_fillPart_203 : decode (q_cc m_cr_fillPart) 203 = .ok (.iastore, 1) := by decide +kernel
theorem d_cr_fillPart_204 : decode (q_cc m_cr_fillPart) 204 = .ok (.iinc 13 1, 3) := by decide +kernel
theorem d_cr_fillPart_207 : decode (q_cc m_cr_fillPart) 207 = .ok (.goto (-74), 3) := by decide +kernel
theorem d_cr_fillPart_210 : decode (q_cc m_cr_fillPart) 210 = .ok (.iload 7, 2) := by decide +kernel
theorem d_cr_fillPart_212 : decode (q_cc m_cr_fillPart) 212 = .ok (.iconst 5, 1) := by decide +kernel
theorem d_cr_fillPart_213 : decode (q_cc m_cr_fillPart) 213 = .ok (.idiv, 1) := by decide +kernel
theorem d_cr_fillPart_214 : decode (q_cc m_cr_fillPart) 214 = .ok (.istore 7, 2) := by decide +kernel
theorem d_cr_fillPart_216 : decode (q_cc m_cr_fillPart) 216 = .ok (.iinc 8 1, 3) := by decide +kernel
theorem d_cr_fillPart_219 : decode (q_cc m_cr_fillPart) 219 = .ok (.goto (-191), 3) := by decide +kernel
theorem d_cr_fillPart_222 : decode (q_cc m_cr_fillPart) 222 = .ok (.return_, 1) := by decide +kernel
theorem d_gd_init_0 : decode (q_cc m_gd_init) 0 = .ok (.aload_n 0, 1) := by decide +kernel
theorem d_gd_init_1 : decode (q_cc m_gd_init) 1 = .ok (.invokespecial 3, 3) := by decide +kernel
theorem d_gd_init_4 : decode (q_cc m_gd_init) 4 = .ok (.aload_n 0, 1) := by decide +kernel
theorem d_gd_init_5 : decode (q_cc m_gd_init) 5 = .ok (.bipush 7, 2) := by decide +kernel
theorem d_gd_init_7 : decode (q_cc m_gd_init) 7 = .ok (.newarray .int, 2) := by decide +kernel
theorem d_gd_init_9 : decode (q_cc m_gd_init) 9 = .ok (.putfield 9, 3) := by decide +kernel
theorem d_gd_init_12 : decode (q_cc m_gd_init) 12 = .ok (.aload_n 0, 1) := by decide +kernel
theorem d_gd_init_13 : decode (q_cc m_gd_init) 13 = .ok (.iconst 4, 1) := by decide +kernel
theorem d_gd_init_14 : decode (q_cc m_gd_init) 14 = .ok (.bipush 8, 2) := by decide +kernel
theorem d_gd_init_16 : decode (q_cc m_gd_init) 16 = .ok (.multianewarray 15 2, 4) := by decide +kernel
theorem d_gd_init_20 : decode (q_cc m_gd_init) 20 = .ok (.putfield 17, 3) := by decide +kernel
theorem d_gd_init_23 : decode (q_cc m_gd_init) 23 = .ok (.aload_n 0, 1) := by decide +kernel
theorem d_gd_init_24 : decode (q_cc m_gd_init) 24 = .ok (.bipush 6, 2) := by decide +kernel
theorem d_gd_init_26 : decode (q_cc m_gd_init) 26 = .ok (.iconst 2, 1) := by decide +kernel
theorem d_gd_init_27 : decode (q_cc m_gd_init) 27 = .ok (.multianewarray 15 2, 4) := by decide +kernel
theorem d_gd_init_31 : decode (q_cc m_gd_init) 31 = .ok (.putfield 20, 3) := by decide +kernel
theorem d_gd_init_34 : decode (q_cc m_gd_init) 34 = .ok (.aload_n 0, 1) := by decide +kernel
theorem d_gd_init_35 : decode (q_cc m_gd_init) 35 = .ok (.bipush 8, 2) := by decide +kernel
theorem d_gd_init_37 : decode (q_cc m_gd_init) 37 = .ok (.bipush 6, 2) := by decide +kernel
theorem d_gd_init_39 : decode (q_cc m_gd_init) 39 = .ok (.multianewarray 15 2, 4) := by decide +kernel
theorem d_gd_init_43 : decode (q_cc m_gd_init) 43 = .ok (.putfield 23, 3) := by decide +kernel
theorem d_gd_init_46 : decode (q_cc m_gd_init) 46 = .ok (.aload_n 0, 1) := by decide +kernel
theorem d_gd_init_47 : decode (q_cc m_gd_init) 47 = .ok (.iconst 5, 1) := by decide +kernel
theorem d_gd_init_48 : decode (q_cc m_gd_init) 48 = .ok (.bipush 6, 2) := by decide +kernel
theorem d_gd_init_50 : decode (q_cc m_gd_init) 50 = .ok (.multianewarray 15 2, 4) := by decide +kernel
theorem d_gd_init_54 : decode (q_cc m_gd_init) 54 = .ok (.putfield 26, 3) := by decide +kernel
theorem d_gd_init_57 : decode (q_cc m_gd_init) 57 = .ok (.aload_n 0, 1) := by decide +kernel
theorem d_gd_init_58 : decode (q_cc m_gd_init) 58 = .ok (.iconst 5, 1) := by decide +kernel
theorem d_gd_init_59 : decode (q_cc m_gd_init) 59 = .ok (.bipush 6, 2) := by decide +kernel
theorem d_gd_init_61 : decode (q_cc m_gd_init) 61 = .ok (.multianewarray 15 2, 4) := by decide +kernel
theorem d_gd_init_65 : decode (q_cc m_gd_init) 65 = .ok (.putfield 29, 3) := by decide +kernel
theorem d_gd_init_68 : decode (q_cc m_gd_init) 68 = .ok (.aload_n 0, 1) := by decide +kernel
theorem d_gd_init_69 : decode (q_cc m_gd_init) 69 = .ok (.iconst 5, 1) := by decide +kernel
theorem d_gd_init_70 : decode (q_cc m_gd_init) 70 = .ok (.newarray .int, 2) := by decide +kernel
theorem d_gd_init_72 : decode (q_cc m_gd_init) 72 = .ok (.putfield 32, 3) := by decide +kernel
theorem d_gd_init_75 : decode (q_cc m_gd_init) 75 = .ok (.aload_n 0, 1) := by decide +kernel
theorem d_gd_init_76 : decode (q_cc m_gd_init) 76 = .ok (.bipush 8, 2) := by decide +kernel
theorem d_gd_init_78 : decode (q_cc m_gd_init) 78 = .ok (.bipush 8, 2) := by decide +kernel
theorem d_gd_init_80 : decode (q_cc m_gd_init) 80 = .ok (.multianewarray 15 2, 4) := by decide +kernel
theorem d_gd_init_84 : decode (q_cc m_gd_init) 84 = .ok (.putfield 35, 3) := by decide +kernel
theorem d_gd_init_87 : decode (q_cc m_gd_init) 87 = .ok (.aload_n 0, 1) := by decide +kernel
theorem d_gd_init_88 : decode (q_cc m_gd_init) 88 = .ok (.bipush 24, 2) := by decide +kernel
theorem d_gd_init_90 : decode (q_cc m_gd_init) 90 = .ok (.iconst 5, 1) := by decide +kernel
theorem d_gd_init_91 : decode (q_cc m_gd_init) 91 = .ok (.multianewarray 15 2, 4) := by decide +kernel
theorem d_gd_init_95 : decode (q_cc m_gd_init) 95 = .ok (.putfield 38, 3) := by decide +kernel
theorem d_gd_init_98 : decode (q_cc m_gd_init) 98 = .ok (.aload_n 0, 1) := by decide +kernel
theorem d_gd_init_99 : decode (q_cc m_gd_init) 99 = .ok (.iconst 5, 1) := by decide +kernel
theorem d_gd_init_100 : decode (q_cc m_gd_init) 100 = .ok (.bipush 24, 2) := by decide +kernel
theorem d_gd_init_102 : decode (q_cc m_gd_init) 102 = .ok (.multianewarray 15 2, 4) := by decide +kernel
theorem d_gd_init_106 : decode (q_cc m_gd_init) 106 = .ok (.putfield 41, 3) := by decide +kernel
theorem d_gd_init_109 : decode (q_cc m_gd_init) 109 = .ok (.aload_n 0, 1) := by decide +kernel
theorem d_gd_init_110 : decode (q_cc m_gd_init) 110 = .ok (.iconst 5, 1) := by decide +kernel
theorem d_gd_init_111 : decode (q_cc m_gd_init) 111 = .ok (.bipush 24, 2) := by decide +kernel
theorem d_gd_init_113 : decode (q_cc m_gd_init) 113 = .ok (.multianewarray 15 2, 4) := by decide +kernel
theorem d_gd_init_117 : decode (q_cc m_gd_init) 117 = .ok (.putfield 44, 3) := by decide +kernel
theorem d_gd_init_120 : decode (q_cc m_gd_init) 120 = .ok (.aload_n 0, 1) := by decide +kernel
theorem d_gd_init_121 : decode (q_cc m_gd_init) 121 = .ok (.bipush 24, 2) := by decide +kernel
theorem d_gd_init_123 : decode (q_cc m_gd_init) 123 = .ok (.newarray .int, 2) := by decide +kernel
theorem d_gd_init_125 : decode (q_cc m_gd_init) 125 = .ok (.putfield 47, 3) := by decide +kernel
theorem d_gd_init_128 : decode (q_cc m_gd_init) 128 = .ok (.aload_n 0, 1) := by decide +kernel
theorem d_gd_init_129 : decode (q_cc m_gd_init) 129 = .ok (.bipush 24, 2) := by decide +kernel
theorem d_gd_init_131 : decode (q_cc m_gd_init) 131 = .ok (.newarray .int, 2) := by decide +kernel
theorem d_gd_init_133 : decode (q_cc m_gd_init) 133 = .ok (.putfield 50, 3) := by decide +kernel
theorem d_gd_init_136 : decode (q_cc m_gd_init) 136 = .ok (.return_, 1) := by decide +kernel
theorem d_gd_clear_0 : decode (q_cc m_gd_clear) 0 = .ok (.aload_n 0, 1) := by decide +kernel
theorem d_gd_clear_1 : decode (q_cc m_gd_clear) 1 = .ok (.iconst 0, 1) := by decide +kernel
theorem d_gd_clear_2 : decode (q_cc m_gd_clear) 2 = .ok (.putfield 53, 3) := by decide +kernel
theorem d_gd_clear_5 : decode (q_cc m_gd_clear) 5 = .ok (.aload_n 0, 1) := by decide +kernel
theorem d_gd_clear_6 : decode (q_cc m_gd_clear) 6 = .ok (.iconst 0, 1) := by decide +kernel
theorem d_gd_clear_7 : decode (q_cc m_gd_clear) 7 = .ok (.putfield 57, 3) := by decide +kernel
theorem d_gd_clear_10 : decode (q_cc m_gd_clear) 10 = .ok (.iconst 0, 1) := by decide +kernel
theorem d_gd_clear_11 : decode (q_cc m_gd_clear) 11 = .ok (.istore_n 1, 1) := by decide +kernel
theorem d_gd_clear_12 : decode (q_cc m_gd_clear) 12 = .ok (.iload_n 1, 1) := by decide +kernel
theorem d_gd_clear_13 : decode (q_cc m_gd_clear) 13 = .ok (.bipush 6, 2) := by decide +kernel
theorem d_gd_clear_15 : decode (q_cc m_gd_clear) 15 = .ok (.if_icmp .gt 16, 3) := by decide +kernel
theorem d_gd_clear_18 : decode (q_cc m_gd_clear) 18 = .ok (.aload_n 0, 1) := by decide +kernel
theorem d_gd_clear_19 : decode (q_cc m_gd_clear) 19 = .ok (.getfield 9, 3) := by decide +kernel
theorem d_gd_clear_22 : decode (q_cc m_gd_clear) 22 = .ok (.iload_n 1, 1) := by decide +kernel
theorem d_gd_clear_23 : decode (q_cc m_gd_clear) 23 = .ok (.iconst 0, 1) := by decide +kernel
theorem d_gd_clear_24 : decode (q_cc m_gd_clear) 24 = .ok (.iastore, 1) := by decide +kernel
theorem d_gd_clear_25 : decode (q_cc m_gd_clear) 25 = .ok (.iinc 1 1, 3) := by decide +kernel
theorem d_gd_clear_28 : decode (q_cc m_gd_clear) 28 = .ok (.goto (-16), 3) := by decide +kernel
theorem d_gd_clear_31 : decode (q_cc m_gd_clear) 31 = .ok (.iconst 0, 1) := by decide +kernel
theorem d_gd_clear_32 : decode (q_cc m_gd_clear) 32 = .ok (.istore_n 1, 1) := by decide +kernel
theorem d_gd_clear_33 : decode (q_cc m_gd_clear) 33 = .ok (.iload_n 1, 1) := by decide +kernel
theorem d_gd_clear_34 : decode (q_cc m_gd_clear) 34 = .ok (.bipush 8, 2) := by decide +kernel
theorem d_gd_clear_36 : decode (q_cc m_gd_clear) 36 = .ok (.if_icmp .ge 43, 3) := by decide +kernel
theorem d_gd_clear_39 : decode (q_cc m_gd_clear) 39 = .ok (.iconst 0, 1) := by decide +kernel
theorem d_gd_clear_40 : decode (q_cc m_gd_clear) 40 = .ok (.istore_n 2, 1) := by decide +kernel
theorem d_gd_clear_41 : decode (q_cc m_gd_clear) 41 = .ok (.iload_n 2, 1) := by decide +kernel
theorem d_gd_clear_42 : decode (q_cc m_gd_clear) 42 = .ok (.bipush 8, 2) := by decide +kernel
theorem d_gd_clear_44 : decode (q_cc m_gd_clear) 44 = .ok (.if_icmp .ge 29, 3) := by decide +kernel
theorem d_gd_clear_47 : decode (q_cc m_gd_clear) 47 = .ok (.aload_n 0, 1) := by decide +kernel
theorem d_gd_clear_48 : decode (q_cc m_gd_clear) 48 = .ok (.getfield 35, 3) := by decide +kernel
theorem d_gd_clear_51 : decode (q_cc m_gd_clear) 51 = .ok (.iload_n 1, 1) := by decide +kernel
theorem d_gd_clear_52 : decode (q_cc m_gd_clear) 52 = .ok (.aaload, 1) := by decide +kernel
theorem d_gd_clear_53 : decode (q_cc m_gd_clear) 53 = .ok (.iload_n 2, 1) := by decide +kernel
theorem d_gd_clear_54 : decode (q_cc m_gd_clear) 54 = .ok (.iload_n 1, 1) := by decide +kernel
theorem d_gd_clear_55 : decode (q_cc m_gd_clear) 55 = .ok (.iload_n 2, 1) := by decide +kernel
theorem d_gd_clear_56 : decode (q_cc m_gd_clear) 56 = .ok (.if_icmp .ne 7, 3) := by decide +kernel
theorem d_gd_clear_59 : decode (q_cc m_gd_clear) 59 = .ok (.iconst 0, 1) := by decide +kernel
theorem d_gd_clear_60 : decode (q_cc m_gd_clear) 60 = .ok (.goto 6, 3) := by decide +kernel
theorem d_gd_clear_63 : decode (q_cc m_gd_clear) 63 = .ok (.sipush 1000, 3) := by decide +kernel
theorem d_gd_clear_66 : decode (q_cc m_gd_clear) 66 = .ok (.iastore, 1) := by decide +kernel
theorem d_gd_clear_67 : decode (q_cc m_gd_clear) 67 = .ok (.iinc 2 1, 3) := by decide +kernel
theorem d_gd_clear_70 : decode (q_cc m_gd_clear) 70 = .ok (.goto (-29), 3) := by decide +kernel
theorem d_gd_clear_73 : decode (q_cc m_gd_clear) 73 = .ok (.iinc 1 1, 3) := by decide +kernel
theorem d_gd_clear_76 : decode (q_cc m_gd_clear) 76 = .ok (.goto (-43), 3) := by decide +kernel
theorem d_gd_clear_79 : decode (q_cc m_gd_clear) 79 = .ok (.return_, 1) := by decide +kernel
theorem d_gd_hasRoom_0 : decode (q_cc m_gd_hasRoom) 0 = .ok (.aload_n 0, 1) := by decide +kernel
theorem d_gd_hasRoom_1 : decode (q_cc m_gd_hasRoom) 1 = .ok (.getfield 9, 3) := by decide +kernel
theorem d_gd_hasRoom_4 : decode (q_cc m_gd_hasRoom) 4 = .ok (.iload_n 1, 1) := by decide +kernel
theorem d_gd_hasRoom_5 : decode (q_cc m_gd_hasRoom) 5 = .ok (.iaload, 1) := by decide +kernel
theorem d_gd_hasRoom_6 : decode (q_cc m_gd_hasRoom) 6 = .ok (.getstatic 60, 3) := by decide +kernel
theorem d_gd_hasRoom_9 : decode (q_cc m_gd_hasRoom) 9 = .ok (.iload_n 1, 1) := by decide +kernel
theorem d_gd_hasRoom_10 : decode (q_cc m_gd_hasRoom) 10 = .ok (.iaload, 1) := by decide +kernel
theorem d_gd_hasRoom_11 : decode (q_cc m_gd_hasRoom) 11 = .ok (.if_icmp .ge 7, 3) := by decide +kernel
theorem d_gd_hasRoom_14 : decode (q_cc m_gd_hasRoom) 14 = .ok (.iconst 1, 1) := by decide +kernel
theorem d_gd_hasRoom_15 : decode (q_cc m_gd_hasRoom) 15 = .ok (.goto 4, 3) := by decide +kernel
theorem d_gd_hasRoom_18 : decode (q_cc m_gd_hasRoom) 18 = .ok (.iconst 0, 1) := by decide +kernel
theorem d_gd_hasRoom_19 : decode (q_cc m_gd_hasRoom) 19 = .ok (.ireturn, 1) := by decide +kernel
theorem d_gd_isThere_0 : decode (q_cc m_gd_isThere) 0 = .ok (.iload_n 2, 1) := by decide +kernel
theorem d_gd_isThere_1 : decode (q_cc m_gd_isThere) 1 = .ok (.ifCond .lt 17, 3) := by decide +kernel
theorem d_gd_isThere_4 : decode (q_cc m_gd_isThere) 4 = .ok (.iload_n 2, 1) := by decide +kernel
theorem d_gd_isThere_5 : decode (q_cc m_gd_isThere) 5 = .ok (.aload_n 0, 1) := by decide +kernel
theorem d_gd_isThere_6 : decode (q_cc m_gd_isThere) 6 = .ok (.getfield 9, 3) := by decide +kernel
theorem d_gd_isThere_9 : decode (q_cc m_gd_isThere) 9 = .ok (.iload_n 1, 1) := by decide +kernel
theorem d_gd_isThere_10 : decode (q_cc m_gd_isThere) 10 = .ok (.iaload, 1) := by decide +kernel
theorem d_gd_isThere_11 : decode (q_cc m_gd_isThere) 11 = .ok (.if_icmp .ge 7, 3) := by decide +kernel
theorem d_gd_isThere_14 : decode (q_cc m_gd_isThere) 14 = .ok (.iconst 1, 1) := by decide +kernel
theorem d_gd_isThere_15 : decode (q_cc m_gd_isThere) 15 = .ok (.goto 4, 3) := by decide +kernel
theorem d_gd_isThere_18 : decode (q_cc m_gd_isThere) 18 = .ok (.iconst 0, 1) := by decide +kernel
theorem d_gd_isThere_19 : decode (q_cc m_gd_isThere) 19 = .ok (.ireturn, 1) := by decide +kernel
theorem d_gd_named_0 : decode (q_cc m_gd_named) 0 = .ok (.iconst 0, 1) := by decide +kernel
theorem d_gd_named_1 : decode (q_cc m_gd_named) 1 = .ok (.istore_n 3, 1) := by decide +kernel
theorem d_gd_named_2 : decode (q_cc m_gd_named) 2 = .ok (.iload_n 3, 1) := by decide +kernel
theorem d_gd_named_3 : decode (q_cc m_gd_named) 3 = .ok (.aload_n 0, 1) := by decide +kernel
theorem d_gd_named_4 : decode (q_cc m_gd_named) 4 = .ok (.getfield 9, 3) := by decide +kernel
theorem d_gd_named_7 : decode (q_cc m_gd_named) 7 = .ok (.iload_n 1, 1) := by decide +kernel
theorem d_gd_named_8 : decode (q_cc m_gd_named) 8 = .ok (.iaload, 1) := by decide +kernel
theorem d_gd_named_9 : decode (q_cc m_gd_named) 9 = .ok (.if_icmp .ge 23, 3) := by decide +kernel
theorem d_gd_named_12 : decode (q_cc m_gd_named) 12 = .ok (.aload_n 0, 1) := by decide +kernel
theorem d_gd_named_13 : decode (q_cc m_gd_named) 13 = .ok (.getfield 17, 3) := by decide +kernel
theorem d_gd_named_16 : decode (q_cc m_gd_named) 16 = .ok (.iload_n 1, 1) := by decide +kernel
theorem d_gd_named_17 : decode (q_cc m_gd_named) 17 = .ok (.aaload, 1) := by decide +kernel
theorem d_gd_named_18 : decode (q_cc m_gd_named) 18 = .ok (.iload_n 3, 1) := by decide +kernel
theorem d_gd_named_19 : decode (q_cc m_gd_named) 19 = .ok (.iaload, 1) := by decide +kernel
theorem d_gd_named_20 : decode (q_cc m_gd_named) 20 = .ok (.iload_n 2, 1) := by decide +kernel
theorem d_gd_named_21 : decode (q_cc m_gd_named) 21 = .ok (.if_icmp .ne 5, 3) := by decide +kernel
theorem d_gd_named_24 : decode (q_cc m_gd_named) 24 = .ok (.iload_n 3, 1) := by decide +kernel
theorem d_gd_named_25 : decode (q_cc m_gd_named) 25 = .ok (.ireturn, 1) := by decide +kernel
theorem d_gd_named_26 : decode (q_cc m_gd_named) 26 = .ok (.iinc 3 1, 3) := by decide +kernel
theorem d_gd_named_29 : decode (q_cc m_gd_named) 29 = .ok (.goto (-27), 3) := by decide +kernel
theorem d_gd_named_32 : decode (q_cc m_gd_named) 32 = .ok (.iconst (-1), 1) := by decide +kernel
theorem d_gd_named_33 : decode (q_cc m_gd_named) 33 = .ok (.ireturn, 1) := by decide +kernel
theorem d_gd_isGiven_0 : decode (q_cc m_gd_isGiven) 0 = .ok (.iconst 0, 1) := by decide +kernel
theorem d_gd_isGiven_1 : decode (q_cc m_gd_isGiven) 1 = .ok (.istore_n 2, 1) := by decide +kernel
theorem d_gd_isGiven_2 : decode (q_cc m_gd_isGiven) 2 = .ok (.iload_n 2, 1) := by decide +kernel
theorem d_gd_isGiven_3 : decode (q_cc m_gd_isGiven) 3 = .ok (.iconst 3, 1) := by decide +kernel
theorem d_gd_isGiven_4 : decode (q_cc m_gd_isGiven) 4 = .ok (.if_icmp .gt 21, 3) := by decide +kernel
theorem d_gd_isGiven_7 : decode (q_cc m_gd_isGiven) 7 = .ok (.aload_n 0, 1) := by decide +kernel
theorem d_gd_isGiven_8 : decode (q_cc m_gd_isGiven) 8 = .ok (.iload_n 2, 1) := by decide +kernel
theorem d_gd_isGiven_9 : decode (q_cc m_gd_isGiven) 9 = .ok (.iload_n 1, 1) := by decide +kernel
theorem d_gd_isGiven_10 : decode (q_cc m_gd_isGiven) 10 = .ok (.invokevirtual 63, 3) := by decide +kernel
theorem d_gd_isGiven_13 : decode (q_cc m_gd_isGiven) 13 = .ok (.iconst (-1), 1) := by decide +kernel
theorem d_gd_isGiven_14 : decode (q_cc m_gd_isGiven) 14 = .ok (.if_icmp .eq 5, 3) := by decide +kernel
theorem d_gd_isGiven_17 : decode (q_cc m_gd_isGiven) 17 = .ok (.iconst 1, 1) := by decide +kernel
theorem d_gd_isGiven_18 : decode (q_cc m_gd_isGiven) 18 = .ok (.ireturn, 1) := by decide +kernel
theorem d_gd_isGiven_19 : decode (q_cc m_gd_isGiven) 19 = .ok (.iinc 2 1, 3) := by decide +kernel
theorem d_gd_isGiven_22 : decode (q_cc m_gd_isGiven) 22 = .ok (.goto (-20), 3) := by decide +kernel
theorem d_gd_isGiven_25 : decode (q_cc m_gd_isGiven) 25 = .ok (.iconst 0, 1) := by decide +kernel
theorem d_gd_isGiven_26 : decode (q_cc m_gd_isGiven) 26 = .ok (.ireturn, 1) := by decide +kernel
theorem d_gd_addNamed_0 : decode (q_cc m_gd_addNamed) 0 = .ok (.aload_n 0, 1) := by decide +kernel
theorem d_gd_addNamed_1 : decode (q_cc m_gd_addNamed) 1 = .ok (.iload_n 1, 1) := by decide +kernel
theorem d_gd_addNamed_2 : decode (q_cc m_gd_addNamed) 2 = .ok (.invokevirtual 67, 3) := by decide +kernel
theorem d_gd_addNamed_5 : decode (q_cc m_gd_addNamed) 5 = .ok (.ifCond .eq 27, 3) := by decide +kernel
theorem d_gd_addNamed_8 : decode (q_cc m_gd_addNamed) 8 = .ok (.aload_n 0, 1) := by decide +kernel
theorem d_gd_addNamed_9 : decode (q_cc m_gd_addNamed) 9 = .ok (.getfield 17, 3) := by decide +kernel
theorem d_gd_addNamed_12 : decode (q_cc m_gd_addNamed) 12 = .ok (.iload_n 1, 1) := by decide +kernel
theorem d_gd_addNamed_13 : decode (q_cc m_gd_addNamed) 13 = .ok (.aaload, 1) := by decide +kernel
theorem d_gd_addNamed_14 : decode (q_cc m_gd_addNamed) 14 = .ok (.aload_n 0, 1) := by decide +kernel
theorem d_gd_addNamed_15 : decode (q_cc m_gd_addNamed) 15 = .ok (.getfield 9, 3) := by decide +kernel
theorem d_gd_addNamed_18 : decode (q_cc m_gd_addNamed) 18 = .ok (.iload_n 1, 1) := by decide +kernel
theorem d_gd_addNamed_19 : decode (q_cc m_gd_addNamed) 19 = .ok (.iaload, 1) := by decide +kernel
theorem d_gd_addNamed_20 : decode (q_cc m_gd_addNamed) 20 = .ok (.iload_n 2, 1) := by decide +kernel
theorem d_gd_addNamed_21 : decode (q_cc m_gd_addNamed) 21 = .ok (.iastore, 1) := by decide +kernel
theorem d_gd_addNamed_22 : decode (q_cc m_gd_addNamed) 22 = .ok (.aload_n 0, 1) := by decide +kernel
theorem d_gd_addNamed_23 : decode (q_cc m_gd_addNamed) 23 = .ok (.getfield 9, 3) := by decide +kernel
theorem d_gd_addNamed_26 : decode (q_cc m_gd_addNamed) 26 = .ok (.iload_n 1, 1) := by decide +kernel
theorem d_gd_addNamed_27 : decode (q_cc m_gd_addNamed) 27 = .ok (.dup2, 1) := by decide +kernel
theorem d_gd_addNamed_28 : decode (q_cc m_gd_addNamed) 28 = .ok (.iaload, 1) := by decide +kernel
theorem d_gd_addNamed_29 : decode (q_cc m_gd_addNamed) 29 = .ok (.iconst 1, 1) := by decide +kernel
theorem d_gd_addNamed_30 : decode (q_cc m_gd_addNamed) 30 = .ok (.iadd, 1) := by decide +kernel
theorem d_gd_addNamed_31 : decode (q_cc m_gd_addNamed) 31 = .ok (.iastore, 1) := by decide +kernel
theorem d_gd_addNamed_32 : decode (q_cc m_gd_addNamed) 32 = .ok (.return_, 1) := by decide +kernel
theorem d_gd_addRoad_0 : decode (q_cc m_gd_addRoad) 0 = .ok (.iload_n 3, 1) := by decide +kernel
theorem d_gd_addRoad_1 : decode (q_cc m_gd_addRoad) 1 = .ok (.aload_n 0, 1) := by decide +kernel
theorem d_gd_addRoad_2 : decode (q_cc m_gd_addRoad) 2 = .ok (.getfield 35, 3) := by decide +kernel
theorem d_gd_addRoad_5 : decode (q_cc m_gd_addRoad) 5 = .ok (.iload_n 1, 1) := by decide +kernel
theorem d_gd_addRoad_6 : decode (q_cc m_gd_addRoad) 6 = .ok (.aaload, 1) := by decide +kernel
theorem d_gd_addRoad_7 : decode (q_cc m_gd_addRoad) 7 = .ok (.iload_n 2, 1) := by decide +kernel
theorem d_gd_addRoad_8 : decode (q_cc m_gd_addRoad) 8 = .ok (.iaload, 1) := by decide +kernel
theorem d_gd_addRoad_9 : decode (q_cc m_gd_addRoad) 9 = .ok (.invokestatic 71, 3) := by decide +kernel
theorem d_gd_addRoad_12 : decode (q_cc m_gd_addRoad) 12 = .ok (.istore 4, 2) := by decide +kernel
theorem d_gd_addRoad_14 : decode (q_cc m_gd_addRoad) 14 = .ok (.aload_n 0, 1) := by decide +kernel
theorem d_gd_addRoad_15 : decode (q_cc m_gd_addRoad) 15 = .ok (.getfield 35, 3) := by decide +kernel
theorem d_gd_addRoad_18 : decode (q_cc m_gd_addRoad) 18 = .ok (.iload_n 1, 1) := by decide +kernel
theorem d_gd_addRoad_19 : decode (q_cc m_gd_addRoad) 19 = .ok (.aaload, 1) := by decide +kernel
theorem d_gd_addRoad_20 : decode (q_cc m_gd_addRoad) 20 = .ok (.iload_n 2, 1) := by decide +kernel
theorem d_gd_addRoad_21 : decode (q_cc m_gd_addRoad) 21 = .ok (.iload 4, 2) := by decide +kernel
theorem d_gd_addRoad_23 : decode (q_cc m_gd_addRoad) 23 = .ok (.iastore, 1) := by decide +kernel
theorem d_gd_addRoad_24 : decode (q_cc m_gd_addRoad) 24 = .ok (.aload_n 0, 1) := by decide +kernel
theorem d_gd_addRoad_25 : decode (q_cc m_gd_addRoad) 25 = .ok (.getfield 35, 3) := by decide +kernel
theorem d_gd_addRoad_28 : decode (q_cc m_gd_addRoad) 28 = .ok (.iload_n 2, 1) := by decide +kernel
theorem d_gd_addRoad_29 : decode (q_cc m_gd_addRoad) 29 = .ok (.aaload, 1) := by decide +kernel
theorem d_gd_addRoad_30 : decode (q_cc m_gd_addRoad) 30 = .ok (.iload_n 1, 1) := by decide +kernel
theorem d_gd_addRoad_31 : decode (q_cc m_gd_addRoad) 31 = .ok (.iload 4, 2) := by decide +kernel
theorem d_gd_addRoad_33 : decode (q_cc m_gd_addRoad) 33 = .ok (.iastore, 1) := by decide +kernel
theorem d_gd_addRoad_34 : decode (q_cc m_gd_addRoad) 34 = .ok (.aload_n 0, 1) := by decide +kernel
theorem d_gd_addRoad_35 : decode (q_cc m_gd_addRoad) 35 = .ok (.getfield 9, 3) := by decide +kernel
theorem d_gd_addRoad_38 : decode (q_cc m_gd_addRoad) 38 = .ok (.bipush 6, 2) := by decide +kernel
theorem d_gd_addRoad_40 : decode (q_cc m_gd_addRoad) 40 = .ok (.dup2, 1) := by decide +kernel
theorem d_gd_addRoad_41 : decode (q_cc m_gd_addRoad) 41 = .ok (.iaload, 1) := by decide +kernel
theorem d_gd_addRoad_42 : decode (q_cc m_gd_addRoad) 42 = .ok (.iconst 1, 1) := by decide +kernel
theorem d_gd_addRoad_43 : decode (q_cc m_gd_addRoad) 43 = .ok (.iadd, 1) := by decide +kernel
theorem d_gd_addRoad_44 : decode (q_cc m_gd_addRoad) 44 = .ok (.iastore, 1) := by decide +kernel
theorem d_gd_addRoad_45 : decode (q_cc m_gd_addRoad) 45 = .ok (.return_, 1) := by decide +kernel
theorem d_gd_settle_0 : decode (q_cc m_gd_settle) 0 = .ok (.aload_n 0, 1) := by decide +kernel
theorem d_gd_settle_1 : decode (q_cc m_gd_settle) 1 = .ok (.invokevirtual 76, 3) := by decide +kernel
theorem d_gd_settle_4 : decode (q_cc m_gd_settle) 4 = .ok (.aload_n 0, 1) := by decide +kernel
theorem d_gd_settle_5 : decode (q_cc m_gd_settle) 5 = .ok (.invokevirtual 79, 3) := by decide +kernel
theorem d_gd_settle_8 : decode (q_cc m_gd_settle) 8 = .ok (.iconst 0, 1) := by decide +kernel
theorem d_gd_settle_9 : decode (q_cc m_gd_settle) 9 = .ok (.istore_n 1, 1) := by decide +kernel
theorem d_gd_settle_10 : decode (q_cc m_gd_settle) 10 = .ok (.iload_n 1, 1) := by decide +kernel
theorem d_gd_settle_11 : decode (q_cc m_gd_settle) 11 = .ok (.aload_n 0, 1) := by decide +kernel
theorem d_gd_settle_12 : decode (q_cc m_gd_settle) 12 = .ok (.getfield 9, 3) := by decide +kernel
theorem d_gd_settle_15 : decode (q_cc m_gd_settle) 15 = .ok (.iconst 4, 1) := by decide +kernel
theorem d_gd_settle_16 : decode (q_cc m_gd_settle) 16 = .ok (.iaload, 1) := by decide +kernel
theorem d_gd_settle_17 : decode (q_cc m_gd_settle) 17 = .ok (.if_icmp .ge 67, 3) := by decide +kernel
theorem d_gd_settle_20 : decode (q_cc m_gd_settle) 20 = .ok (.aload_n 0, 1) := by decide +kernel
theorem d_gd_settle_21 : decode (q_cc m_gd_settle) 21 = .ok (.getfield 47, 3) := by decide +kernel
theorem d_gd_settle_24 : decode (q_cc m_gd_settle) 24 = .ok (.iload_n 1, 1) := by decide +kernel
theorem d_gd_settle_25 : decode (q_cc m_gd_settle) 25 = .ok (.aload_n 0, 1) := by decide +kernel
theorem d_gd_settle_26 : decode (q_cc m_gd_settle) 26 = .ok (.aload_n 0, 1) := by decide +kernel
theorem d_gd_settle_27 : decode (q_cc m_gd_settle) 27 = .ok (.getfield 38, 3) := by decide +kernel
theorem d_gd_settle_30 : decode (q_cc m_gd_settle) 30 = .ok (.iload_n 1, 1) := by decide +kernel
theorem d_gd_settle_31 : decode (q_cc m_gd_settle) 31 = .ok (.aaload, 1) := by decide +kernel
theorem d_gd_settle_32 : decode (q_cc m_gd_settle) 32 = .ok (.iconst 1, 1) := by decide +kernel
theorem d_gd_settle_33 : decode (q_cc m_gd_settle) 33 = .ok (.iaload, 1) := by decide +kernel
theorem d_gd_settle_34 : decode (q_cc m_gd_settle) 34 = .ok (.aload_n 0, 1) := by decide +kernel
theorem d_gd_settle_35 : decode (q_cc m_gd_settle) 35 = .ok (.getfield 38, 3) := by decide +kernel
theorem d_gd_settle_38 : decode (q_cc m_gd_settle) 38 = .ok (.iload_n 1, 1) := by decide +kernel
theorem d_gd_settle_39 : decode (q_cc m_gd_settle) 39 = .ok (.aaload, 1) := by decide +kernel
theorem d_gd_settle_40 : decode (q_cc m_gd_settle) 40 = .ok (.iconst 2, 1) := by decide +kernel
theorem d_gd_settle_41 : decode (q_cc m_gd_settle) 41 = .ok (.iaload, 1) := by decide +kernel
theorem d_gd_settle_42 : decode (q_cc m_gd_settle) 42 = .ok (.invokevirtual 82, 3) := by decide +kernel
theorem d_gd_settle_45 : decode (q_cc m_gd_settle) 45 = .ok (.iastore, 1) := by decide +kernel
theorem d_gd_settle_46 : decode (q_cc m_gd_settle) 46 = .ok (.iconst 0, 1) := by decide +kernel
theorem d_gd_settle_47 : decode (q_cc m_gd_settle) 47 = .ok (.istore_n 2, 1) := by decide +kernel
theorem d_gd_settle_48 : decode (q_cc m_gd_settle) 48 = .ok (.iload_n 2, 1) := by decide +kernel
theorem d_gd_settle_49 : decode (q_cc m_gd_settle) 49 = .ok (.aload_n 0, 1) := by decide +kernel
theorem d_gd_settle_50 : decode (q_cc m_gd_settle) 50 = .ok (.getfield 9, 3) := by decide +kernel
theorem d_gd_settle_53 : decode (q_cc m_gd_settle) 53 = .ok (.iconst 2, 1) := by decide +kernel
theorem d_gd_settle_54 : decode (q_cc m_gd_settle) 54 = .ok (.iaload, 1) := by decide +kernel
theorem d_gd_settle_55 : decode (q_cc m_gd_settle) 55 = .ok (.if_icmp .ge 23, 3) := by decide +kernel
theorem d_gd_settle_58 : decode (q_cc m_gd_settle) 58 = .ok (.aload_n 0, 1) := by decide +kernel
theorem d_gd_settle_59 : decode (q_cc m_gd_settle) 59 = .ok (.getfield 41, 3) := by decide +kernel
theorem d_gd_settle_62 : decode (q_cc m_gd_settle) 62 = .ok (.iload_n 2, 1) := by decide +kernel
theorem d_gd_settle_63 : decode (q_cc m_gd_settle) 63 = .ok (.aaload, 1) := by decide +kernel
theorem d_gd_settle_64 : decode (q_cc m_gd_settle) 64 = .ok (.iload_n 1, 1) := by decide +kernel
theorem d_gd_settle_65 : decode (q_cc m_gd_settle) 65 = .ok (.aload_n 0, 1) := by decide +kernel
theorem d_gd_settle_66 : decode (q_cc m_gd_settle) 66 = .ok (.iload_n 2, 1) := by decide +kernel
theorem d_gd_settle_67 : decode (q_cc m_gd_settle) 67 = .ok (.iload_n 1, 1) := by decide +kernel
theorem d_gd_settle_68 : decode (q_cc m_gd_settle) 68 = .ok (.invokevirtual 85, 3) := by decide +kernel
theorem d_gd_settle_71 : decode (q_cc m_gd_settle) 71 = .ok (.iastore, 1) := by decide +kernel
theorem d_gd_settle_72 : decode (q_cc m_gd_settle) 72 = .ok (.iinc 2 1, 3) := by decide +kernel
theorem d_gd_settle_75 : decode (q_cc m_gd_settle) 75 = .ok (.goto (-27), 3) := by decide +kernel
theorem d_gd_settle_78 : decode (q_cc m_gd_settle) 78 = .ok (.iinc 1 1, 3) := by decide +kernel
theorem d_gd_settle_81 : decode (q_cc m_gd_settle) 81 = .ok (.goto (-71), 3) := by decide +kernel
theorem d_gd_settle_84 : decode (q_cc m_gd_settle) 84 = .ok (.return_, 1) := by decide +kernel
theorem d_gd_joinRoads_0 : decode (q_cc m_gd_joinRoads) 0 = .ok (.iconst 0, 1) := by decide +kernel
theorem d_gd_joinRoads_1 : decode (q_cc m_gd_joinRoads) 1 = .ok (.istore_n 1, 1) := by decide +kernel
theorem d_gd_joinRoads_2 : decode (q_cc m_gd_joinRoads) 2 = .ok (.iload_n 1, 1) := by decide +kernel
theorem d_gd_joinRoads_3 : decode (q_cc m_gd_joinRoads) 3 = .ok (.aload_n 0, 1) := by decide +kernel
theorem d_gd_joinRoads_4 : decode (q_cc m_gd_joinRoads) 4 = .ok (.getfield 9, 3) := by decide +kernel
theorem d_gd_joinRoads_7 : decode (q_cc m_gd_joinRoads) 7 = .ok (.iconst 3, 1) := by decide +kernel
theorem d_gd_joinRoads_8 : decode (q_cc m_gd_joinRoads) 8 = .ok (.iaload, 1) := by decide +kernel
theorem d_gd_joinRoads_9 : decode (q_cc m_gd_joinRoads) 9 = .ok (.if_icmp .ge 85, 3) := by decide +kernel
theorem d_gd_joinRoads_12 : decode (q_cc m_gd_joinRoads) 12 = .ok (.iconst 0, 1) := by decide +kernel
theorem d_gd_joinRoads_13 : decode (q_cc m_gd_joinRoads) 13 = .ok (.istore_n 2, 1) := by decide +kernel
theorem d_gd_joinRoads_14 : decode (q_cc m_gd_joinRoads) 14 = .ok (.iload_n 2, 1) := by decide +kernel
theorem d_gd_joinRoads_15 : decode (q_cc m_gd_joinRoads) 15 = .ok (.aload_n 0, 1) := by decide +kernel
theorem d_gd_joinRoads_16 : decode (q_cc m_gd_joinRoads) 16 = .ok (.getfield 9, 3) := by decide +kernel
theorem d_gd_joinRoads_19 : decode (q_cc m_gd_joinRoads) 19 = .ok (.iconst 3, 1) := by decide +kernel
theorem d_gd_joinRoads_20 : decode (q_cc m_gd_joinRoads) 20 = .ok (.iaload, 1) := by decide +kernel
theorem d_gd_joinRoads_21 : decode (q_cc m_gd_joinRoads) 21 = .ok (.if_icmp .ge 67, 3) := by decide +kernel
theorem d_gd_joinRoads_24 : decode (q_cc m_gd_joinRoads) 24 = .ok (.iconst 0, 1) := by decide +kernel
theorem d_gd_joinRoads_25 : decode (q_cc m_gd_joinRoads) 25 = .ok (.istore_n 3, 1) := by decide +kernel
theorem d_gd_joinRoads_26 : decode (q_cc m_gd_joinRoads) 26 = .ok (.iload_n 3, 1) := by decide +kernel
theorem d_gd_joinRoads_27 : decode (q_cc m_gd_joinRoads) 27 = .ok (.aload_n 0, 1) := by decide +kernel
theorem d_gd_joinRoads_28 : decode (q_cc m_gd_joinRoads) 28 = .ok (.getfield 9, 3) := by decide +kernel
theorem d_gd_joinRoads_31 : decode (q_cc m_gd_joinRoads) 31 = .ok (.iconst 3, 1) := by decide +kernel
theorem d_gd_joinRoads_32 : decode (q_cc m_gd_joinRoads) 32 = .ok (.iaload, 1) := by decide +kernel
theorem d_gd_joinRoads_33 : decode (q_cc m_gd_joinRoads) 33 = .ok (.if_icmp .ge 49, 3) := by decide +kernel
theorem d_gd_joinRoads_36 : decode (q_cc m_gd_joinRoads) 36 = .ok (.aload_n 0, 1) := by decide +kernel
theorem d_gd_joinRoads_37 : decode (q_cc m_gd_joinRoads) 37 = .ok (.getfield 35, 3) := by decide +kernel
theorem d_gd_joinRoads_40 : decode (q_cc m_gd_joinRoads) 40 = .ok (.iload_n 2, 1) := by decide +kernel
theorem d_gd_joinRoads_41 : decode (q_cc m_gd_joinRoads) 41 = .ok (.aaload, 1) := by decide +kernel
theorem d_gd_joinRoads_42 : decode (q_cc m_gd_joinRoads) 42 = .ok (.iload_n 1, 1) := by decide +kernel
theorem d_gd_joinRoads_43 : decode (q_cc m_gd_joinRoads) 43 = .ok (.iaload, 1) := by decide +kernel
theorem d_gd_joinRoads_44 : decode (q_cc m_gd_joinRoads) 44 = .ok (.aload_n 0, 1) := by decide +kernel
theorem d_gd_joinRoads_45 : decode (q_cc m_gd_joinRoads) 45 = .ok (.getfield 35, 3) := by decide +kernel
theorem d_gd_joinRoads_48 : decode (q_cc m_gd_joinRoads) 48 = .ok (.iload_n 1, 1) := by decide +kernel
theorem d_gd_joinRoads_49 : decode (q_cc m_gd_joinRoads) 49 = .ok (.aaload, 1) := by decide +kernel
theorem d_gd_joinRoads_50 : decode (q_cc m_gd_joinRoads) 50 = .ok (.iload_n 3, 1) := by decide +kernel
theorem d_gd_joinRoads_51 : decode (q_cc m_gd_joinRoads) 51 = .ok (.iaload, 1) := by decide +kernel
theorem d_gd_joinRoads_52 : decode (q_cc m_gd_joinRoads) 52 = .ok (.iadd, 1) := by decide +kernel
theorem d_gd_joinRoads_53 : decode (q_cc m_gd_joinRoads) 53 = .ok (.istore 4, 2) := by decide +kernel
theorem d_gd_joinRoads_55 : decode (q_cc m_gd_joinRoads) 55 = .ok (.aload_n 0, 1) := by decide +kernel
theorem d_gd_joinRoads_56 : decode (q_cc m_gd_joinRoads) 56 = .ok (.getfield 35, 3) := by decide +kernel
theorem d_gd_joinRoads_59 : decode (q_cc m_gd_joinRoads) 59 = .ok (.iload_n 2, 1) := by decide +kernel
theorem d_gd_joinRoads_60 : decode (q_cc m_gd_joinRoads) 60 = .ok (.aaload, 1) := by decide +kernel
theorem d_gd_joinRoads_61 : decode (q_cc m_gd_joinRoads) 61 = .ok (.iload_n 3, 1) := by decide +kernel
theorem d_gd_joinRoads_62 : decode (q_cc m_gd_joinRoads) 62 = .ok (.aload_n 0, 1) := by decide +kernel
theorem d_gd_joinRoads_63 : decode (q_cc m_gd_joinRoads) 63 = .ok (.getfield 35, 3) := by decide +kernel
theorem d_gd_joinRoads_66 : decode (q_cc m_gd_joinRoads) 66 = .ok (.iload_n 2, 1) := by decide +kernel
theorem d_gd_joinRoads_67 : decode (q_cc m_gd_joinRoads) 67 = .ok (.aaload, 1) := by decide +kernel
theorem d_gd_joinRoads_68 : decode (q_cc m_gd_joinRoads) 68 = .ok (.iload_n 3, 1) := by decide +kernel
theorem d_gd_joinRoads_69 : decode (q_cc m_gd_joinRoads) 69 = .ok (.iaload, 1) := by decide +kernel
theorem d_gd_joinRoads_70 : decode (q_cc m_gd_joinRoads) 70 = .ok (.iload 4, 2) := by decide +kernel
theorem d_gd_joinRoads_72 : decode (q_cc m_gd_joinRoads) 72 = .ok (.invokestatic 71, 3) := by decide +kernel
theorem d_gd_joinRoads_75 : decode (q_cc m_gd_joinRoads) 75 = .ok (.iastore, 1) := by decide +kernel
theorem d_gd_joinRoads_76 : decode (q_cc m_gd_joinRoads) 76 = .ok (.iinc 3 1, 3) := by decide +kernel
theorem d_gd_joinRoads_79 : decode (q_cc m_gd_joinRoads) 79 = .ok (.goto (-53), 3) := by decide +kernel
theorem d_gd_joinRoads_82 : decode (q_cc m_gd_joinRoads) 82 = .ok (.iinc 2 1, 3) := by decide +kernel
theorem d_gd_joinRoads_85 : decode (q_cc m_gd_joinRoads) 85 = .ok (.goto (-71), 3) := by decide +kernel
theorem d_gd_joinRoads_88 : decode (q_cc m_gd_joinRoads) 88 = .ok (.iinc 1 1, 3) := by decide +kernel
theorem d_gd_joinRoads_91 : decode (q_cc m_gd_joinRoads) 91 = .ok (.goto (-89), 3) := by decide +kernel
theorem d_gd_joinRoads_94 : decode (q_cc m_gd_joinRoads) 94 = .ok (.return_, 1) := by decide +kernel
theorem d_gd_sortByHour_0 : decode (q_cc m_gd_sortByHour) 0 = .ok (.iconst 0, 1) := by decide +kernel
theorem d_gd_sortByHour_1 : decode (q_cc m_gd_sortByHour) 1 = .ok (.istore_n 1, 1) := by decide +kernel
theorem d_gd_sortByHour_2 : decode (q_cc m_gd_sortByHour) 2 = .ok (.iload_n 1, 1) := by decide +kernel
theorem d_gd_sortByHour_3 : decode (q_cc m_gd_sortByHour) 3 = .ok (.aload_n 0, 1) := by decide +kernel
theorem d_gd_sortByHour_4 : decode (q_cc m_gd_sortByHour) 4 = .ok (.getfield 9, 3) := by decide +kernel
theorem d_gd_sortByHour_7 : decode (q_cc m_gd_sortByHour) 7 = .ok (.iconst 4, 1) := by decide +kernel
theorem d_gd_sortByHour_8 : decode (q_cc m_gd_sortByHour) 8 = .ok (.iaload, 1) := by decide +kernel
theorem d_gd_sortByHour_9 : decode (q_cc m_gd_sortByHour) 9 = .ok (.if_icmp .ge 68, 3) := by decide +kernel
theorem d_gd_sortByHour_12 : decode (q_cc m_gd_sortByHour) 12 = .ok (.iload_n 1, 1) := by decide +kernel
theorem d_gd_sortByHour_13 : decode (q_cc m_gd_sortByHour) 13 = .ok (.istore_n 2, 1) := by decide +kernel
theorem d_gd_sortByHour_14 : decode (q_cc m_gd_sortByHour) 14 = .ok (.iload_n 2, 1) := by decide +kernel
theorem d_gd_sortByHour_15 : decode (q_cc m_gd_sortByHour) 15 = .ok (.ifCond .le 49, 3) := by decide +kernel
theorem d_gd_sortByHour_18 : decode (q_cc m_gd_sortByHour) 18 = .ok (.aload_n 0, 1) := by decide +kernel
theorem d_gd_sortByHour_19 : decode (q_cc m_gd_sortByHour) 19 = .ok (.getfield 38, 3) := by decide +kernel
theorem d_gd_sortByHour_22 : decode (q_cc m_gd_sortByHour) 22 = .ok (.aload_n 0, 1) := by decide +kernel
theorem d_gd_sortByHour_23 : decode (q_cc m_gd_sortByHour) 23 = .ok (.getfield 50, 3) := by decide +kernel
theorem d_gd_sortByHour_26 : decode (q_cc m_gd_sortByHour) 26 = .ok (.iload_n 2, 1) := by decide +kernel
theorem d_gd_sortByHour_27 : decode (q_cc m_gd_sortByHour) 27 = .ok (.iconst 1, 1) := by decide +kernel
theorem d_gd_sortByHour_28 : decode (q_cc m_gd_sortByHour) 28 = .ok (.isub, 1) := by decide +kernel
theorem d_gd_sortByHour_29 : decode (q_cc m_gd_sortByHour) 29 = .ok (.iaload, 1) := by decide +kernel
theorem d_gd_sortByHour_30 : decode (q_cc m_gd_sortByHour) 30 = .ok (.aaload, 1) := by decide +kernel
theorem d_gd_sortByHour_31 : decode (q_cc m_gd_sortByHour) 31 = .ok (.iconst 2, 1) := by decide +kernel
theorem d_gd_sortByHour_32 : decode (q_cc m_gd_sortByHour) 32 = .ok (.iaload, 1) := by decide +kernel
theorem d_gd_sortByHour_33 : decode (q_cc m_gd_sortByHour) 33 = .ok (.aload_n 0, 1) := by decide +kernel
theorem d_gd_sortByHour_34 : decode (q_cc m_gd_sortByHour) 34 = .ok (.getfield 38, 3) := by decide +kernel
theorem d_gd_sortByHour_37 : decode (q_cc m_gd_sortByHour) 37 = .ok (.iload_n 1, 1) := by decide +kernel
theorem d_gd_sortByHour_38 : decode (q_cc m_gd_sortByHour) 38 = .ok (.aaload, 1) := by decide +kernel
theorem d_gd_sortByHour_39 : decode (q_cc m_gd_sortByHour) 39 = .ok (.iconst 2, 1) := by decide +kernel
theorem d_gd_sortByHour_40 : decode (q_cc m_gd_sortByHour) 40 = .ok (.iaload, 1) := by decide +kernel
theorem d_gd_sortByHour_41 : decode (q_cc m_gd_sortByHour) 41 = .ok (.if_icmp .le 23, 3) := by decide +kernel
theorem d_gd_sortByHour_44 : decode (q_cc m_gd_sortByHour) 44 = .ok (.aload_n 0, 1) := by decide +kernel
theorem d_gd_sortByHour_45 : decode (q_cc m_gd_sortByHour) 45 = .ok (.getfield 50, 3) := by decide +kernel
theorem d_gd_sortByHour_48 : decode (q_cc m_gd_sortByHour) 48 = .ok (.iload_n 2, 1) := by decide +kernel
theorem d_gd_sortByHour_49 : decode (q_cc m_gd_sortByHour) 49 = .ok (.aload_n 0, 1) := by decide +kernel
theorem d_gd_sortByHour_50 : decode (q_cc m_gd_sortByHour) 50 = .ok (.getfield 50, 3) := by decide +kernel
theorem d_gd_sortByHour_53 : decode (q_cc m_gd_sortByHour) 53 = .ok (.iload_n 2, 1) := by decide +kernel
theorem d_gd_sortByHour_54 : decode (q_cc m_gd_sortByHour) 54 = .ok (.iconst 1, 1) := by decide +kernel
theorem d_gd_sortByHour_55 : decode (q_cc m_gd_sortByHour) 55 = .ok (.isub, 1) := by decide +kernel
theorem d_gd_sortByHour_56 : decode (q_cc m_gd_sortByHour) 56 = .ok (.iaload, 1) := by decide +kernel
theorem d_gd_sortByHour_57 : decode (q_cc m_gd_sortByHour) 57 = .ok (.iastore, 1) := by decide +kernel
theorem d_gd_sortByHour_58 : decode (q_cc m_gd_sortByHour) 58 = .ok (.iinc 2 (-1), 3) := by decide +kernel
theorem d_gd_sortByHour_61 : decode (q_cc m_gd_sortByHour) 61 = .ok (.goto (-47), 3) := by decide +kernel
theorem d_gd_sortByHour_64 : decode (q_cc m_gd_sortByHour) 64 = .ok (.aload_n 0, 1) := by decide +kernel
theorem d_gd_sortByHour_65 : decode (q_cc m_gd_sortByHour) 65 = .ok (.getfield 50, 3) := by decide +kernel
theorem d_gd_sortByHour_68 : decode (q_cc m_gd_sortByHour) 68 = .ok (.iload_n 2, 1) := by decide +kernel
theorem d_gd_sortByHour_69 : decode (q_cc m_gd_sortByHour) 69 = .ok (.iload_n 1, 1) := by decide +kernel
theorem d_gd_sortByHour_70 : decode (q_cc m_gd_sortByHour) 70 = .ok (.iastore, 1) := by decide +kernel
theorem d_gd_sortByHour_71 : decode (q_cc m_gd_sortByHour) 71 = .ok (.iinc 1 1, 3) := by decide +kernel
theorem d_gd_sortByHour_74 : decode (q_cc m_gd_sortByHour) 74 = .ok (.goto (-72), 3) := by decide +kernel
theorem d_gd_sortByHour_77 : decode (q_cc m_gd_sortByHour) 77 = .ok (.return_, 1) := by decide +kernel
theorem d_gd_near_0 : decode (q_cc m_gd_near) 0 = .ok (.iconst 0, 1) := by decide +kernel
theorem d_gd_near_1 : decode (q_cc m_gd_near) 1 = .ok (.istore_n 3, 1) := by decide +kernel
theorem d_gd_near_2 : decode (q_cc m_gd_near) 2 = .ok (.iconst 0, 1) := by decide +kernel
theorem d_gd_near_3 : decode (q_cc m_gd_near) 3 = .ok (.istore 4, 2) := by decide +kernel
theorem d_gd_near_5 : decode (q_cc m_gd_near) 5 = .ok (.iload 4, 2) := by decide +kernel
theorem d_gd_near_7 : decode (q_cc m_gd_near) 7 = .ok (.aload_n 0, 1) := by decide +kernel
theorem d_gd_near_8 : decode (q_cc m_gd_near) 8 = .ok (.getfield 9, 3) := by decide +kernel
theorem d_gd_near_11 : decode (q_cc m_gd_near) 11 = .ok (.iconst 4, 1) := by decide +kernel
theorem d_gd_near_12 : decode (q_cc m_gd_near) 12 = .ok (.iaload, 1) := by decide +kernel
theorem d_gd_near_13 : decode (q_cc m_gd_near) 13 = .ok (.if_icmp .ge 53, 3) := by decide +kernel
theorem d_gd_near_16 : decode (q_cc m_gd_near) 16 = .ok (.iload_n 2, 1) := by decide +kernel
theorem d_gd_near_17 : decode (q_cc m_gd_near) 17 = .ok (.aload_n 0, 1) := by decide +kernel
theorem d_gd_near_18 : decode (q_cc m_gd_near) 18 = .ok (.getfield 38, 3) := by decide +kernel
theorem d_gd_near_21 : decode (q_cc m_gd_near) 21 = .ok (.iload 4, 2) := by decide +kernel
theorem d_gd_near_23 : decode (q_cc m_gd_near) 23 = .ok (.aaload, 1) := by decide +kernel
theorem d_gd_near_24 : decode (q_cc m_gd_near) 24 = .ok (.iconst 2, 1) := by decide +kernel
theorem d_gd_near_25 : decode (q_cc m_gd_near) 25 = .ok (.iaload, 1) := by decide +kernel
theorem d_gd_near_26 : decode (q_cc m_gd_near) 26 = .ok (.isub, 1) := by decide +kernel
theorem d_gd_near_27 : decode (q_cc m_gd_near) 27 = .ok (.invokestatic 88, 3) := by decide +kernel
theorem d_gd_near_30 : decode (q_cc m_gd_near) 30 = .ok (.istore 5, 2) := by decide +kernel
theorem d_gd_near_32 : decode (q_cc m_gd_near) 32 = .ok (.iload 5, 2) := by decide +kernel
theorem d_gd_near_34 : decode (q_cc m_gd_near) 34 = .ok (.aload_n 0, 1) := by decide +kernel
theorem d_gd_near_35 : decode (q_cc m_gd_near) 35 = .ok (.getfield 35, 3) := by decide +kernel
theorem d_gd_near_38 : decode (q_cc m_gd_near) 38 = .ok (.iload_n 1, 1) := by decide +kernel
theorem d_gd_near_39 : decode (q_cc m_gd_near) 39 = .ok (.aaload, 1) := by decide +kernel
theorem d_gd_near_40 : decode (q_cc m_gd_near) 40 = .ok (.aload_n 0, 1) := by decide +kernel
theorem d_gd_near_41 : decode (q_cc m_gd_near) 41 = .ok (.getfield 38, 3) := by decide +kernel
theorem d_gd_near_44 : decode (q_cc m_gd_near) 44 = .ok (.iload 4, 2) := by decide +kernel
theorem d_gd_near_46 : decode (q_cc m_gd_near) 46 = .ok (.aaload, 1) := by decide +kernel
theorem d_gd_near_47 : decode (q_cc m_gd_near) 47 = .ok (.iconst 1, 1) := by decide +kernel
theorem d_gd_near_48 : decode (q_cc m_gd_near) 48 = .ok (.iaload, 1) := by decide +kernel
theorem d_gd_near_49 : decode (q_cc m_gd_near) 49 = .ok (.iaload, 1) := by decide +kernel
theorem d_gd_near_50 : decode (q_cc m_gd_near) 50 = .ok (.if_icmp .lt 10, 3) := by decide +kernel
theorem d_gd_near_53 : decode (q_cc m_gd_near) 53 = .ok (.iload_n 3, 1) := by decide +kernel
theorem d_gd_near_54 : decode (q_cc m_gd_near) 54 = .ok (.iconst 1, 1) := by decide +kernel
theorem d_gd_near_55 : decode (q_cc m_gd_near) 55 = .ok (.iload 4, 2) := by decide +kernel
theorem d_gd_near_57 : decode (q_cc m_gd_near) 57 = .ok (.ishl, 1) := by decide +kernel
theorem d_gd_near_58 : decode (q_cc m_gd_near) 58 = .ok (.ior, 1) := by decide +kernel
theorem d_gd_near_59 : decode (q_cc m_gd_near) 59 = .ok (.istore_n 3, 1) := by decide +kernel
theorem d_gd_near_60 : decode (q_cc m_gd_near) 60 = .ok (.iinc 4 1, 3) := by decide +kernel
theorem d_gd_near_63 : decode (q_cc m_gd_near) 63 = .ok (.goto (-58), 3) := by decide +kernel
theorem d_gd_near_66 : decode (q_cc m_gd_near) 66 = .ok (.iload_n 3, 1) := by decide +kernel
theorem d_gd_near_67 : decode (q_cc m_gd_near) 67 = .ok (.ireturn, 1) := by decide +kernel
theorem d_gd_passOf_0 : decode (q_cc m_gd_passOf) 0 = .ok (.aload_n 0, 1) := by decide +kernel
theorem d_gd_passOf_1 : decode (q_cc m_gd_passOf) 1 = .ok (.getfield 23, 3) := by decide +kernel
theorem d_gd_passOf_4 : decode (q_cc m_gd_passOf) 4 = .ok (.aload_n 0, 1) := by decide +kernel
theorem d_gd_passOf_5 : decode (q_cc m_gd_passOf) 5 = .ok (.getfield 38, 3) := by decide +kernel
theorem d_gd_passOf_8 : decode (q_cc m_gd_passOf) 8 = .ok (.iload_n 2, 1) := by decide +kernel
theorem d_gd_passOf_9 : decode (q_cc m_gd_passOf) 9 = .ok (.aaload, 1) := by decide +kernel
theorem d_gd_passOf_10 : decode (q_cc m_gd_passOf) 10 = .ok (.iconst 0, 1) := by decide +kernel
theorem d_gd_passOf_11 : decode (q_cc m_gd_passOf) 11 = .ok (.iaload, 1) := by decide +kernel
theorem d_gd_passOf_12 : decode (q_cc m_gd_passOf) 12 = .ok (.aaload, 1) := by decide +kernel
theorem d_gd_passOf_13 : decode (q_cc m_gd_passOf) 13 = .ok (.astore_n 3, 1) := by decide +kernel
theorem d_gd_passOf_14 : decode (q_cc m_gd_passOf) 14 = .ok (.sipush 1000, 3) := by decide +kernel
theorem d_gd_passOf_17 : decode (q_cc m_gd_passOf) 17 = .ok (.istore 4, 2) := by decide +kernel
theorem d_gd_passOf_19 : decode (q_cc m_gd_passOf) 19 = .ok (.iconst 0, 1) := by decide +kernel
theorem d_gd_passOf_20 : decode (q_cc m_gd_passOf) 20 = .ok (.istore 5, 2) := by decide +kernel
theorem d_gd_passOf_22 : decode (q_cc m_gd_passOf) 22 = .ok (.iload 5, 2) := by decide +kernel
theorem d_gd_passOf_24 : decode (q_cc m_gd_passOf) 24 = .ok (.aload_n 0, 1) := by decide +kernel
theorem d_gd_passOf_25 : decode (q_cc m_gd_passOf) 25 = .ok (.getfield 9, 3) := by decide +kernel
theorem d_gd_passOf_28 : decode (q_cc m_gd_passOf) 28 = .ok (.iconst 0, 1) := by decide +kernel
theorem d_gd_passOf_29 : decode (q_cc m_gd_passOf) 29 = .ok (.iaload, 1) := by decide +kernel
theorem d_gd_passOf_30 : decode (q_cc m_gd_passOf) 30 = .ok (.if_icmp .ge 79, 3) := by decide +kernel
theorem d_gd_passOf_33 : decode (q_cc m_gd_passOf) 33 = .ok (.aload_n 0, 1) := by decide +kernel
theorem d_gd_passOf_34 : decode (q_cc m_gd_passOf) 34 = .ok (.getfield 26, 3) := by decide +kernel
theorem d_gd_passOf_37 : decode (q_cc m_gd_passOf) 37 = .ok (.iload_n 1, 1) := by decide +kernel
theorem d_gd_passOf_38 : decode (q_cc m_gd_passOf) 38 = .ok (.aaload, 1) := by decide +kernel
theorem d_gd_passOf_39 : decode (q_cc m_gd_passOf) 39 = .ok (.iload 5, 2) := by decide +kernel
theorem d_gd_passOf_41 : decode (q_cc m_gd_passOf) 41 = .ok (.iaload, 1) := by decide +kernel
theorem d_gd_passOf_42 : decode (q_cc m_gd_passOf) 42 = .ok (.aload_n 3, 1) := by decide +kernel
theorem d_gd_passOf_43 : decode (q_cc m_gd_passOf) 43 = .ok (.iload 5, 2) := by decide +kernel
theorem d_gd_passOf_45 : decode (q_cc m_gd_passOf) 45 = .ok (.iaload, 1) := by decide +kernel
theorem d_gd_passOf_46 : decode (q_cc m_gd_passOf) 46 = .ok (.if_icmp .eq 57, 3) := by decide +kernel
theorem d_gd_passOf_49 : decode (q_cc m_gd_passOf) 49 = .ok (.aload_n 0, 1) := by decide +kernel
theorem d_gd_passOf_50 : decode (q_cc m_gd_passOf) 50 = .ok (.getfield 29, 3) := by decide +kernel
theorem d_gd_passOf_53 : decode (q_cc m_gd_passOf) 53 = .ok (.iload_n 1, 1) := by decide +kernel
theorem d_gd_passOf_54 : decode (q_cc m_gd_passOf) 54 = .ok (.aaload, 1) := by decide +kernel
theorem d_gd_passOf_55 : decode (q_cc m_gd_passOf) 55 = .ok (.iload 5, 2) := by decide +kernel
theorem d_gd_passOf_57 : decode (q_cc m_gd_passOf) 57 = .ok (.iaload, 1) := by decide +kernel
theorem d_gd_passOf_58 : decode (q_cc m_gd_passOf) 58 = .ok (.ifCond .ne 45, 3) := by decide +kernel
theorem d_gd_passOf_61 : decode (q_cc m_gd_passOf) 61 = .ok (.aload_n 0, 1) := by decide +kernel
theorem d_gd_passOf_62 : decode (q_cc m_gd_passOf) 62 = .ok (.getfield 20, 3) := by decide +kernel
theorem d_gd_passOf_65 : decode (q_cc m_gd_passOf) 65 = .ok (.iload 5, 2) := by decide +kernel
theorem d_gd_passOf_67 : decode (q_cc m_gd_passOf) 67 = .ok (.aaload, 1) := by decide +kernel
theorem d_gd_passOf_68 : decode (q_cc m_gd_passOf) 68 = .ok (.aload_n 0, 1) := by decide +kernel
theorem d_gd_passOf_69 : decode (q_cc m_gd_passOf) 69 = .ok (.getfield 38, 3) := by decide +kernel
theorem d_gd_passOf_72 : decode (q_cc m_gd_passOf) 72 = .ok (.iload_n 2, 1) := by decide +kernel
theorem d_gd_passOf_73 : decode (q_cc m_gd_passOf) 73 = .ok (.aaload, 1) := by decide +kernel
theorem d_gd_passOf_74 : decode (q_cc m_gd_passOf) 74 = .ok (.iconst 4, 1) := by decide +kernel
theorem d_gd_passOf_75 : decode (q_cc m_gd_passOf) 75 = .ok (.iaload, 1) := by decide +kernel
theorem d_gd_passOf_76 : decode (q_cc m_gd_passOf) 76 = .ok (.iaload, 1) := by decide +kernel
theorem d_gd_passOf_77 : decode (q_cc m_gd_passOf) 77 = .ok (.aload_n 0, 1) := by decide +kernel
theorem d_gd_passOf_78 : decode (q_cc m_gd_passOf) 78 = .ok (.getfield 38, 3) := by decide +kernel
theorem d_gd_passOf_81 : decode (q_cc m_gd_passOf) 81 = .ok (.iload_n 2, 1) := by decide +kernel
theorem d_gd_passOf_82 : decode (q_cc m_gd_passOf) 82 = .ok (.aaload, 1) := by decide +kernel
theorem d_gd_passOf_83 : decode (q_cc m_gd_passOf) 83 = .ok (.iconst 3, 1) := by decide +kernel
theorem d_gd_passOf_84 : decode (q_cc m_gd_passOf) 84 = .ok (.iaload, 1) := by decide +kernel
theorem d_gd_passOf_85 : decode (q_cc m_gd_passOf) 85 = .ok (.imul, 1) := by decide +kernel
theorem d_gd_passOf_86 : decode (q_cc m_gd_passOf) 86 = .ok (.istore 6, 2) := by decide +kernel
theorem d_gd_passOf_88 : decode (q_cc m_gd_passOf) 88 = .ok (.iload 4, 2) := by decide +kernel
theorem d_gd_passOf_90 : decode (q_cc m_gd_passOf) 90 = .ok (.sipush 10000, 3) := by decide +kernel
theorem d_gd_passOf_93 : decode (q_cc m_gd_passOf) 93 = .ok (.iload 6, 2) := by decide +kernel
theorem d_gd_passOf_95 : decode (q_cc m_gd_passOf) 95 = .ok (.isub, 1) := by decide +kernel
theorem d_gd_passOf_96 : decode (q_cc m_gd_passOf) 96 = .ok (.imul, 1) := by decide +kernel
theorem d_gd_passOf_97 : decode (q_cc m_gd_passOf) 97 = .ok (.sipush 10000, 3) := by decide +kernel
theorem d_gd_passOf_100 : decode (q_cc m_gd_passOf) 100 = .ok (.idiv, 1) := by decide +kernel
theorem d_gd_passOf_101 : decode (q_cc m_gd_passOf) 101 = .ok (.istore 4, 2) := by decide +kernel
theorem d_gd_passOf_103 : decode (q_cc m_gd_passOf) 103 = .ok (.iinc 5 1, 3) := by decide +kernel
theorem d_gd_passOf_106 : decode (q_cc m_gd_passOf) 106 = .ok (.goto (-84), 3) := by decide +kernel
theorem d_gd_passOf_109 : decode (q_cc m_gd_passOf) 109 = .ok (.iload 4, 2) := by decide +kernel
theorem d_gd_passOf_111 : decode (q_cc m_gd_passOf) 111 = .ok (.ireturn, 1) := by decide +kernel
theorem d_gd_unlikeTraits_0 : decode (q_cc m_gd_unlikeTraits) 0 = .ok (.aload_n 0, 1) := by decide +kernel
theorem d_gd_unlikeTraits_1 : decode (q_cc m_gd_unlikeTraits) 1 = .ok (.getfield 23, 3) := by decide +kernel
theorem d_gd_unlikeTraits_4 : decode (q_cc m_gd_unlikeTraits) 4 = .ok (.aload_n 0, 1) := by decide +kernel
theorem d_gd_unlikeTraits_5 : decode (q_cc m_gd_unlikeTraits) 5 = .ok (.getfield 38, 3) := by decide +kernel
theorem d_gd_unlikeTraits_8 : decode (q_cc m_gd_unlikeTraits) 8 = .ok (.iload_n 2, 1) := by decide +kernel
theorem d_gd_unlikeTraits_9 : decode (q_cc m_gd_unlikeTraits) 9 = .ok (.aaload, 1) := by decide +kernel
theorem d_gd_unlikeTraits_10 : decode (q_cc m_gd_unlikeTraits) 10 = .ok (.iconst 0, 1) := by decide +kernel
theorem d_gd_unlikeTraits_11 : decode (q_cc m_gd_unlikeTraits) 11 = .ok (.iaload, 1) := by decide +kernel
theorem d_gd_unlikeTraits_12 : decode (q_cc m_gd_unlikeTraits) 12 = .ok (.aaload, 1) := by decide +kernel
theorem d_gd_unlikeTraits_13 : decode (q_cc m_gd_unlikeTraits) 13 = .ok (.astore_n 3, 1) := by decide +kernel
theorem d_gd_unlikeTraits_14 : decode (q_cc m_gd_unlikeTraits) 14 = .ok (.iconst 0, 1) := by decide +kernel
theorem d_gd_unlikeTraits_15 : decode (q_cc m_gd_unlikeTraits) 15 = .ok (.istore 4, 2) := by decide +kernel
theorem d_gd_unlikeTraits_17 : decode (q_cc m_gd_unlikeTraits) 17 = .ok (.iconst 0, 1) := by decide +kernel
theorem d_gd_unlikeTraits_18 : decode (q_cc m_gd_unlikeTraits) 18 = .ok (.istore 5, 2) := by decide +kernel
theorem d_gd_unlikeTraits_20 : decode (q_cc m_gd_unlikeTraits) 20 = .ok (.iload 5, 2) := by decide +kernel
theorem d_gd_unlikeTraits_22 : decode (q_cc m_gd_unlikeTraits) 22 = .ok (.aload_n 0, 1) := by decide +kernel
theorem d_gd_unlikeTraits_23 : decode (q_cc m_gd_unlikeTraits) 23 = .ok (.getfield 9, 3) := by decide +kernel
theorem d_gd_unlikeTraits_26 : decode (q_cc m_gd_unlikeTraits) 26 = .ok (.iconst 0, 1) := by decide +kernel
theorem d_gd_unlikeTraits_27 : decode (q_cc m_gd_unlikeTraits) 27 = .ok (.iaload, 1) := by decide +kernel
theorem d_gd_unlikeTraits_28 : decode (q_cc m_gd_unlikeTraits) 28 = .ok (.if_icmp .ge 28, 3) := by decide +kernel
theorem d_gd_unlikeTraits_31 : decode (q_cc m_gd_unlikeTraits) 31 = .ok (.aload_n 0, 1) := by decide +kernel
theorem d_gd_unlikeTraits_32 : decode (q_cc m_gd_unlikeTraits) 32 = .ok (.getfield 26, 3) := by decide +kernel
theorem d_gd_unlikeTraits_35 : decode (q_cc m_gd_unlikeTraits) 35 = .ok (.iload_n 1, 1) := by decide +kernel
theorem d_gd_unlikeTraits_36 : decode (q_cc m_gd_unlikeTraits) 36 = .ok (.aaload, 1) := by decide +kernel
theorem d_gd_unlikeTraits_37 : decode (q_cc m_gd_unlikeTraits) 37 = .ok (.iload 5, 2) := by decide +kernel
theorem d_gd_unlikeTraits_39 : decode (q_cc m_gd_unlikeTraits) 39 = .ok (.iaload, 1) := by decide +kernel
theorem d_gd_unlikeTraits_40 : decode (q_cc m_gd_unlikeTraits) 40 = .ok (.aload_n 3, 1) := by decide +kernel
theorem d_gd_unlikeTraits_41 : decode (q_cc m_gd_unlikeTraits) 41 = .ok (.iload 5, 2) := by decide +kernel
theorem d_gd_unlikeTraits_43 : decode (q_cc m_gd_unlikeTraits) 43 = .ok (.iaload, 1) := by decide +kernel
theorem d_gd_unlikeTraits_44 : decode (q_cc m_gd_unlikeTraits) 44 = .ok (.if_icmp .eq 6, 3) := by decide +kernel
theorem d_gd_unlikeTraits_47 : decode (q_cc m_gd_unlikeTraits) 47 = .ok (.iinc 4 1, 3) := by decide +kernel
theorem d_gd_unlikeTraits_50 : decode (q_cc m_gd_unlikeTraits) 50 = .ok (.iinc 5 1, 3) := by decide +kernel
theorem d_gd_unlikeTraits_53 : decode (q_cc m_gd_unlikeTraits) 53 = .ok (.goto (-33), 3) := by decide +kernel
theorem d_gd_unlikeTraits_56 : decode (q_cc m_gd_unlikeTraits) 56 = .ok (.iload 4, 2) := by decide +kernel
theorem d_gd_unlikeTraits_58 : decode (q_cc m_gd_unlikeTraits) 58 = .ok (.ireturn, 1) := by decide +kernel
theorem d_gd_titheOf_0 : decode (q_cc m_gd_titheOf) 0 = .ok (.aload_n 0, 1) := by decide +kernel
theorem d_gd_titheOf_1 : decode (q_cc m_gd_titheOf) 1 = .ok (.getfield 44, 3) := by decide +kernel
theorem d_gd_titheOf_4 : decode (q_cc m_gd_titheOf) 4 = .ok (.iload_n 1, 1) := by decide +kernel
theorem d_gd_titheOf_5 : decode (q_cc m_gd_titheOf) 5 = .ok (.aaload, 1) := by decide +kernel
theorem d_gd_titheOf_6 : decode (q_cc m_gd_titheOf) 6 = .ok (.iload_n 2, 1) := by decide +kernel
theorem d_gd_titheOf_7 : decode (q_cc m_gd_titheOf) 7 = .ok (.iaload, 1) := by decide +kernel
theorem d_gd_titheOf_8 : decode (q_cc m_gd_titheOf) 8 = .ok (.aload_n 0, 1) := by decide +kernel
theorem d_gd_titheOf_9 : decode (q_cc m_gd_titheOf) 9 = .ok (.getfield 57, 3) := by decide +kernel
theorem d_gd_titheOf_12 : decode (q_cc m_gd_titheOf) 12 = .ok (.imul, 1) := by decide +kernel
theorem d_gd_titheOf_13 : decode (q_cc m_gd_titheOf) 13 = .ok (.bipush 100, 2) := by decide +kernel
theorem d_gd_titheOf_15 : decode (q_cc m_gd_titheOf) 15 = .ok (.idiv, 1) := by decide +kernel
theorem d_gd_titheOf_16 : decode (q_cc m_gd_titheOf) 16 = .ok (.ireturn, 1) := by decide +kernel
theorem d_gd_allSightings_0 : decode (q_cc m_gd_allSightings) 0 = .ok (.iconst 1, 1) := by decide +kernel
theorem d_gd_allSightings_1 : decode (q_cc m_gd_allSightings) 1 = .ok (.aload_n 0, 1) := by decide +kernel
theorem d_gd_allSightings_2 : decode (q_cc m_gd_allSightings) 2 = .ok (.getfield 9, 3) := by decide +kernel
theorem d_gd_allSightings_5 : decode (q_cc m_gd_allSightings) 5 = .ok (.iconst 4, 1) := by decide +kernel
theorem d_gd_allSightings_6 : decode (q_cc m_gd_allSightings) 6 = .ok (.iaload, 1) := by decide +kernel
theorem d_gd_allSightings_7 : decode (q_cc m_gd_allSightings) 7 = .ok (.ishl, 1) := by decide +kernel
theorem d_gd_allSightings_8 : decode (q_cc m_gd_allSightings) 8 = .ok (.iconst 1, 1) := by decide +kernel
theorem d_gd_allSightings_9 : decode (q_cc m_gd_allSightings) 9 = .ok (.isub, 1) := by decide +kernel
theorem d_gd_allSightings_10 : decode (q_cc m_gd_allSightings) 10 = .ok (.ireturn, 1) := by decide +kernel
theorem d_gd_sightingsOf_0 : decode (q_cc m_gd_sightingsOf) 0 = .ok (.iconst 0, 1) := by decide +kernel
theorem d_gd_sightingsOf_1 : decode (q_cc m_gd_sightingsOf) 1 = .ok (.istore_n 2, 1) := by decide +kernel
theorem d_gd_sightingsOf_2 : decode (q_cc m_gd_sightingsOf) 2 = .ok (.iconst 0, 1) := by decide +kernel
theorem d_gd_sightingsOf_3 : decode (q_cc m_gd_sightingsOf) 3 = .ok (.istore_n 3, 1) := by decide +kernel
theorem d_gd_sightingsOf_4 : decode (q_cc m_gd_sightingsOf) 4 = .ok (.iload_n 3, 1) := by decide +kernel
theorem d_gd_sightingsOf_5 : decode (q_cc m_gd_sightingsOf) 5 = .ok (.aload_n 0, 1) := by decide +kernel
theorem d_gd_sightingsOf_6 : decode (q_cc m_gd_sightingsOf) 6 = .ok (.getfield 9, 3) := by decide +kernel
theorem d_gd_sightingsOf_9 : decode (q_cc m_gd_sightingsOf) 9 = .ok (.iconst 4, 1) := by decide +kernel
theorem d_gd_sightingsOf_10 : decode (q_cc m_gd_sightingsOf) 10 = .ok (.iaload, 1) := by decide +kernel
theorem d_gd_sightingsOf_11 : decode (q_cc m_gd_sightingsOf) 11 = .ok (.if_icmp .ge 27, 3) := by decide +kernel
theorem d_gd_sightingsOf_14 : decode (q_cc m_gd_sightingsOf) 14 = .ok (.aload_n 0, 1) := by decide +kernel
theorem d_gd_sightingsOf_15 : decode (q_cc m_gd_sightingsOf) 15 = .ok (.getfield 38, 3) := by decide +kernel
theorem d_gd_sightingsOf_18 : decode (q_cc m_gd_sightingsOf) 18 = .ok (.iload_n 3, 1) := by decide +kernel
theorem d_gd_sightingsOf_19 : decode (q_cc m_gd_sightingsOf) 19 = .ok (.aaload, 1) := by decide +kernel
theorem d_gd_sightingsOf_20 : decode (q_cc m_gd_sightingsOf) 20 = .ok (.iconst 0, 1) := by decide +kernel
theorem d_gd_sightingsOf_21 : decode (q_cc m_gd_sightingsOf) 21 = .ok (.iaload, 1) := by decide +kernel
theorem d_gd_sightingsOf_22 : decode (q_cc m_gd_sightingsOf) 22 = .ok (.iload_n 1, 1) := by decide +kernel
theorem d_gd_sightingsOf_23 : decode (q_cc m_gd_sightingsOf) 23 = .ok (.if_icmp .ne 9, 3) := by decide +kernel
theorem d_gd_sightingsOf_26 : decode (q_cc m_gd_sightingsOf) 26 = .ok (.iload_n 2, 1) := by decide +kernel
theorem d_gd_sightingsOf_27 : decode (q_cc m_gd_sightingsOf) 27 = .ok (.iconst 1, 1) := by decide +kernel
theorem d_gd_sightingsOf_28 : decode (q_cc m_gd_sightingsOf) 28 = .ok (.iload_n 3, 1) := by decide +kernel
theorem d_gd_sightingsOf_29 : decode (q_cc m_gd_sightingsOf) 29 = .ok (.ishl, 1) := by decide +kernel
theorem d_gd_sightingsOf_30 : decode (q_cc m_gd_sightingsOf) 30 = .ok (.ior, 1) := by decide +kernel
theorem d_gd_sightingsOf_31 : decode (q_cc m_gd_sightingsOf) 31 = .ok (.istore_n 2, 1) := by decide +kernel
theorem d_gd_sightingsOf_32 : decode (q_cc m_gd_sightingsOf) 32 = .ok (.iinc 3 1, 3) := by decide +kernel
theorem d_gd_sightingsOf_35 : decode (q_cc m_gd_sightingsOf) 35 = .ok (.goto (-31), 3) := by decide +kernel
theorem d_gd_sightingsOf_38 : decode (q_cc m_gd_sightingsOf) 38 = .ok (.iload_n 2, 1) := by decide +kernel
theorem d_gd_sightingsOf_39 : decode (q_cc m_gd_sightingsOf) 39 = .ok (.ireturn, 1) := by decide +kernel
theorem d_gd_firstByHour_0 : decode (q_cc m_gd_firstByHour) 0 = .ok (.iconst 0, 1) := by decide +kernel
theorem d_gd_firstByHour_1 : decode (q_cc m_gd_firstByHour) 1 = .ok (.istore_n 2, 1) := by decide +kernel
theorem d_gd_firstByHour_2 : decode (q_cc m_gd_firstByHour) 2 = .ok (.iload_n 2, 1) := by decide +kernel
theorem d_gd_firstByHour_3 : decode (q_cc m_gd_firstByHour) 3 = .ok (.aload_n 0, 1) := by decide +kernel
theorem d_gd_firstByHour_4 : decode (q_cc m_gd_firstByHour) 4 = .ok (.getfield 9, 3) := by decide +kernel
theorem d_gd_firstByHour_7 : decode (q_cc m_gd_firstByHour) 7 = .ok (.iconst 4, 1) := by decide +kernel
theorem d_gd_firstByHour_8 : decode (q_cc m_gd_firstByHour) 8 = .ok (.iaload, 1) := by decide +kernel
theorem d_gd_firstByHour_9 : decode (q_cc m_gd_firstByHour) 9 = .ok (.if_icmp .ge 30, 3) := by decide +kernel
theorem d_gd_firstByHour_12 : decode (q_cc m_gd_firstByHour) 12 = .ok (.iload_n 1, 1) := by decide +kernel
theorem d_gd_firstByHour_13 : decode (q_cc m_gd_firstByHour) 13 = .ok (.aload_n 0, 1) := by decide +kernel
theorem d_gd_firstByHour_14 : decode (q_cc m_gd_firstByHour) 14 = .ok (.getfield 50, 3) := by decide +kernel
theorem d_gd_firstByHour_17 : decode (q_cc m_gd_firstByHour) 17 = .ok (.iload_n 2, 1) := by decide +kernel
theorem d_gd_firstByHour_18 : decode (q_cc m_gd_firstByHour) 18 = .ok (.iaload, 1) := by decide +kernel
theorem d_gd_firstByHour_19 : decode (q_cc m_gd_firstByHour) 19 = .ok (.ishr, 1) := by decide +kernel
theorem d_gd_firstByHour_20 : decode (q_cc m_gd_firstByHour) 20 = .ok (.iconst 1, 1) := by decide +kernel
theorem d_gd_firstByHour_21 : decode (q_cc m_gd_firstByHour) 21 = .ok (.iand, 1) := by decide +kernel
theorem d_gd_firstByHour_22 : decode (q_cc m_gd_firstByHour) 22 = .ok (.iconst 1, 1) := by decide +kernel
theorem d_gd_firstByHour_23 : decode (q_cc m_gd_firstByHour) 23 = .ok (.if_icmp .ne 10, 3) := by decide +kernel
theorem d_gd_firstByHour_26 : decode (q_cc m_gd_firstByHour) 26 = .ok (.aload_n 0, 1) := by decide +kernel
theorem d_gd_firstByHour_27 : decode (q_cc m_gd_firstByHour) 27 = .ok (.getfield 50, 3) := by decide +kernel
theorem d_gd_firstByHour_30 : decode (q_cc m_gd_firstByHour) 30 = .ok (.iload_n 2, 1) := by decide +kernel
theorem d_gd_firstByHour_31 : decode (q_cc m_gd_firstByHour) 31 = .ok (.iaload, 1) := by decide +kernel
theorem d_gd_firstByHour_32 : decode (q_cc m_gd_firstByHour) 32 = .ok (.ireturn, 1) := by decide +kernel
theorem d_gd_firstByHour_33 : decode (q_cc m_gd_firstByHour) 33 = .ok (.iinc 2 1, 3) := by decide +kernel
theorem d_gd_firstByHour_36 : decode (q_cc m_gd_firstByHour) 36 = .ok (.goto (-34), 3) := by decide +kernel
theorem d_gd_firstByHour_39 : decode (q_cc m_gd_firstByHour) 39 = .ok (.iconst (-1), 1) := by decide +kernel
theorem d_gd_firstByHour_40 : decode (q_cc m_gd_firstByHour) 40 = .ok (.ireturn, 1) := by decide +kernel
theorem d_gd_hoursAlong_0 : decode (q_cc m_gd_hoursAlong) 0 = .ok (.aload_n 0, 1) := by decide +kernel
theorem d_gd_hoursAlong_1 : decode (q_cc m_gd_hoursAlong) 1 = .ok (.iload_n 1, 1) := by decide +kernel
theorem d_gd_hoursAlong_2 : decode (q_cc m_gd_hoursAlong) 2 = .ok (.invokevirtual 92, 3) := by decide +kernel
theorem d_gd_hoursAlong_5 : decode (q_cc m_gd_hoursAlong) 5 = .ok (.istore_n 2, 1) := by decide +kernel
theorem d_gd_hoursAlong_6 : decode (q_cc m_gd_hoursAlong) 6 = .ok (.iconst 0, 1) := by decide +kernel
theorem d_gd_hoursAlong_7 : decode (q_cc m_gd_hoursAlong) 7 = .ok (.istore_n 3, 1) := by decide +kernel
theorem d_gd_hoursAlong_8 : decode (q_cc m_gd_hoursAlong) 8 = .ok (.iconst 0, 1) := by decide +kernel
theorem d_gd_hoursAlong_9 : decode (q_cc m_gd_hoursAlong) 9 = .ok (.istore 4, 2) := by decide +kernel
theorem d_gd_hoursAlong_11 : decode (q_cc m_gd_hoursAlong) 11 = .ok (.iload 4, 2) := by decide +kernel
theorem d_gd_hoursAlong_13 : decode (q_cc m_gd_hoursAlong) 13 = .ok (.aload_n 0, 1) := by decide +kernel
theorem d_gd_hoursAlong_14 : decode (q_cc m_gd_hoursAlong) 14 = .ok (.getfield 9, 3) := by decide +kernel
theorem d_gd_hoursAlong_17 : decode (q_cc m_gd_hoursAlong) 17 = .ok (.iconst 4, 1) := by decide +kernel
theorem d_gd_hoursAlong_18 : decode (q_cc m_gd_hoursAlong) 18 = .ok (.iaload, 1) := by decide +kernel
theorem d_gd_hoursAlong_19 : decode (q_cc m_gd_hoursAlong) 19 = .ok (.if_icmp .ge 53, 3) := by decide +kernel
theorem d_gd_hoursAlong_22 : decode (q_cc m_gd_hoursAlong) 22 = .ok (.iload_n 2, 1) := by decide +kernel
theorem d_gd_hoursAlong_23 : decode (q_cc m_gd_hoursAlong) 23 = .ok (.iconst (-1), 1) := by decide +kernel
theorem d_gd_hoursAlong_24 : decode (q_cc m_gd_hoursAlong) 24 = .ok (.if_icmp .eq 48, 3) := by decide +kernel
theorem d_gd_hoursAlong_27 : decode (q_cc m_gd_hoursAlong) 27 = .ok (.iload_n 1, 1) := by decide +kernel
theorem d_gd_hoursAlong_28 : decode (q_cc m_gd_hoursAlong) 28 = .ok (.aload_n 0, 1) := by decide +kernel
theorem d_gd_hoursAlong_29 : decode (q_cc m_gd_hoursAlong) 29 = .ok (.getfield 50, 3) := by decide +kernel
theorem d_gd_hoursAlong_32 : decode (q_cc m_gd_hoursAlong) 32 = .ok (.iload 4, 2) := by decide +kernel
theorem d_gd_hoursAlong_34 : decode (q_cc m_gd_hoursAlong) 34 = .ok (.iaload, 1) := by decide +kernel
theorem d_gd_hoursAlong_35 : decode (q_cc m_gd_hoursAlong) 35 = .ok (.ishr, 1) := by decide +kernel
theorem d_gd_hoursAlong_36 : decode (q_cc m_gd_hoursAlong) 36 = .ok (.iconst 1, 1) := by decide +kernel
theorem d_gd_hoursAlong_37 : decode (q_cc m_gd_hoursAlong) 37 = .ok (.iand, 1) := by decide +kernel
theorem d_gd_hoursAlong_38 : decode (q_cc m_gd_hoursAlong) 38 = .ok (.iconst 1, 1) := by decide +kernel
theorem d_gd_hoursAlong_39 : decode (q_cc m_gd_hoursAlong) 39 = .ok (.if_icmp .ne 27, 3) := by decide +kernel
theorem d_gd_hoursAlong_42 : decode (q_cc m_gd_hoursAlong) 42 = .ok (.aload_n 0, 1) := by decide +kernel
theorem d_gd_hoursAlong_43 : decode (q_cc m_gd_hoursAlong) 43 = .ok (.getfield 38, 3) := by decide +kernel
theorem d_gd_hoursAlong_46 : decode (q_cc m_gd_hoursAlong) 46 = .ok (.aload_n 0, 1) := by decide +kernel
theorem d_gd_hoursAlong_47 : decode (q_cc m_gd_hoursAlong) 47 = .ok (.getfield 50, 3) := by decide +kernel
theorem d_gd_hoursAlong_50 : decode (q_cc m_gd_hoursAlong) 50 = .ok (.iload 4, 2) := by decide +kernel
theorem d_gd_hoursAlong_52 : decode (q_cc m_gd_hoursAlong) 52 = .ok (.iaload, 1) := by decide +kernel
theorem d_gd_hoursAlong_53 : decode (q_cc m_gd_hoursAlong) 53 = .ok (.aaload, 1) := by decide +kernel
theorem d_gd_hoursAlong_54 : decode (q_cc m_gd_hoursAlong) 54 = .ok (.iconst 2, 1) := by decide +kernel
theorem d_gd_hoursAlong_55 : decode (q_cc m_gd_hoursAlong) 55 = .ok (.iaload, 1) := by decide +kernel
theorem d_gd_hoursAlong_56 : decode (q_cc m_gd_hoursAlong) 56 = .ok (.aload_n 0, 1) := by decide +kernel
theorem d_gd_hoursAlong_57 : decode (q_cc m_gd_hoursAlong) 57 = .ok (.getfield 38, 3) := by decide +kernel
theorem d_gd_hoursAlong_60 : decode (q_cc m_gd_hoursAlong) 60 = .ok (.iload_n 2, 1) := by decide +kernel
theorem d_gd_hoursAlong_61 : decode (q_cc m_gd_hoursAlong) 61 = .ok (.aaload, 1) := by decide +kernel
theorem d_gd_hoursAlong_62 : decode (q_cc m_gd_hoursAlong) 62 = .ok (.iconst 2, 1) := by decide +kernel
theorem d_gd_hoursAlong_63 : decode (q_cc m_gd_hoursAlong) 63 = .ok (.iaload, 1) := by decide +kernel
theorem d_gd_hoursAlong_64 : decode (q_cc m_gd_hoursAlong) 64 = .ok (.isub, 1) := by decide +kernel
theorem d_gd_hoursAlong_65 : decode (q_cc m_gd_hoursAlong) 65 = .ok (.istore_n 3, 1) := by decide +kernel
theorem d_gd_hoursAlong_66 : decode (q_cc m_gd_hoursAlong) 66 = .ok (.iinc 4 1, 3) := by decide +kernel
theorem d_gd_hoursAlong_69 : decode (q_cc m_gd_hoursAlong) 69 = .ok (.goto (-58), 3) := by decide +kernel
theorem d_gd_hoursAlong_72 : decode (q_cc m_gd_hoursAlong) 72 = .ok (.iload_n 3, 1) := by decide +kernel
theorem d_gd_hoursAlong_73 : decode (q_cc m_gd_hoursAlong) 73 = .ok (.ireturn, 1) := by decide +kernel
theorem d_gr_init_0 : decode (q_cc m_gr_init) 0 = .ok (.aload_n 0, 1) := by decide +kernel
theorem d_gr_init_1 : decode (q_cc m_gr_init) 1 = .ok (.invokespecial 3, 3) := by decide +kernel
theorem d_gr_init_4 : decode (q_cc m_gr_init) 4 = .ok (.aload_n 0, 1) := by decide +kernel
theorem d_gr_init_5 : decode (q_cc m_gr_init) 5 = .ok (.aload_n 1, 1) := by decide +kernel
theorem d_gr_init_6 : decode (q_cc m_gr_init) 6 = .ok (.putfield 9, 3) := by decide +kernel
theorem d_gr_init_9 : decode (q_cc m_gr_init) 9 = .ok (.aload_n 0, 1) := by decide +kernel
theorem d_gr_init_10 : decode (q_cc m_gr_init) 10 = .ok (.new 15, 3) := by decide +kernel
theorem d_gr_init_13 : decode (q_cc m_gr_init) 13 = .ok (.dup, 1) := by decide +kernel
theorem d_gr_init_14 : decode (q_cc m_gr_init) 14 = .ok (.aload_n 1, 1) := by decide +kernel
theorem d_gr_init_15 : decode (q_cc m_gr_init) 15 = .ok (.invokespecial 17, 3) := by decide +kernel
theorem d_gr_init_18 : decode (q_cc m_gr_init) 18 = .ok (.putfield 20, 3) := by decide +kernel
theorem d_gr_init_21 : decode (q_cc m_gr_init) 21 = .ok (.return_, 1) := by decide +kernel
theorem d_gr_read_0 : decode (q_cc m_gr_read) 0 = .ok (.aload_n 0, 1) := by decide +kernel
theorem d_gr_read_1 : decode (q_cc m_gr_read) 1 = .ok (.aload_n 1, 1) := by decide +kernel
theorem d_gr_read_2 : decode (q_cc m_gr_read) 2 = .ok (.putfield 24, 3) := by decide +kernel
theorem d_gr_read_5 : decode (q_cc m_gr_read) 5 = .ok (.aload_n 0, 1) := by decide +kernel
theorem d_gr_read_6 : decode (q_cc m_gr_read) 6 = .ok (.getfield 24, 3) := by decide +kernel
theorem d_gr_read_9 : decode (q_cc m_gr_read) 9 = .ok (.invokevirtual 28, 3) := by decide +kernel
theorem d_gr_read_12 : decode (q_cc m_gr_read) 12 = .ok (.aload_n 0, 1) := by decide +kernel
theorem d_gr_read_13 : decode (q_cc m_gr_read) 13 = .ok (.getfield 20, 3) := by decide +kernel
theorem d_gr_read_16 : decode (q_cc m_gr_read) 16 = .ok (.invokevirtual 33, 3) := by decide +kernel
theorem d_gr_read_19 : decode (q_cc m_gr_read) 19 = .ok (.aload_n 0, 1) := by decide +kernel
theorem d_gr_read_20 : decode (q_cc m_gr_read) 20 = .ok (.getfield 9, 3) := by decide +kernel
theorem d_gr_read_23 : decode (q_cc m_gr_read) 23 = .ok (.invokevirtual 34, 3) := by decide +kernel
theorem d_gr_read_26 : decode (q_cc m_gr_read) 26 = .ok (.iconst 0, 1) := by decide +kernel
theorem d_gr_read_27 : decode (q_cc m_gr_read) 27 = .ok (.istore_n 2, 1) := by decide +kernel
theorem d_gr_read_28 : decode (q_cc m_gr_read) 28 = .ok (.iload_n 2, 1) := by decide +kernel
theorem d_gr_read_29 : decode (q_cc m_gr_read) 29 = .ok (.bipush 90, 2) := by decide +kernel
theorem d_gr_read_31 : decode (q_cc m_gr_read) 31 = .ok (.if_icmp .ge 69, 3) := by decide +kernel
theorem d_gr_read_34 : decode (q_cc m_gr_read) 34 = .ok (.iload_n 2, 1) := by decide +kernel
theorem d_gr_read_35 : decode (q_cc m_gr_read) 35 = .ok (.ifCond .le 16, 3) := by decide +kernel
theorem d_gr_read_38 : decode (q_cc m_gr_read) 38 = .ok (.aload_n 0, 1) := by decide +kernel
theorem d_gr_read_39 : decode (q_cc m_gr_read) 39 = .ok (.getfield 9, 3) := by decide +kernel
theorem d_gr_read_42 : decode (q_cc m_gr_read) 42 = .ok (.invokevirtual 39, 3) := by decide +kernel
theorem d_gr_read_45 : decode (q_cc m_gr_read) 45 = .ok (.iconst (-1), 1) := by decide +kernel
theorem d_gr_read_46 : decode (q_cc m_gr_read) 46 = .ok (.if_icmp .ne 5, 3) := by decide +kernel
theorem d_gr_read_49 : decode (q_cc m_gr_read) 49 = .ok (.iconst 1, 1) := by decide +kernel
theorem d_gr_read_50 : decode (q_cc m_gr_read) 50 = .ok (.ireturn, 1) := by decide +kernel
theorem d_gr_read_51 : decode (q_cc m_gr_read) 51 = .ok (.aload_n 0, 1) := by decide +kernel
theorem d_gr_read_52 : decode (q_cc m_gr_read) 52 = .ok (.iload_n 2, 1) := by decide +kernel
theorem d_gr_read_53 : decode (q_cc m_gr_read) 53 = .ok (.ifCond .ne 7, 3) := by decide +kernel
theorem d_gr_read_56 : decode (q_cc m_gr_read) 56 = .ok (.iconst 1, 1) := by decide +kernel
theorem d_gr_read_57 : decode (q_cc m_gr_read) 57 = .ok (.goto 4, 3) := by decide +kernel
theorem d_gr_read_60 : decode (q_cc m_gr_read) 60 = .ok (.iconst 0, 1) := by decide +kernel
theorem d_gr_read_61 : decode (q_cc m_gr_read) 61 = .ok (.invokevirtual 43, 3) := by decide +kernel
theorem d_gr_read_64 : decode (q_cc m_gr_read) 64 = .ok (.ifCond .eq 15, 3) := by decide +kernel
theorem d_gr_read_67 : decode (q_cc m_gr_read) 67 = .ok (.aload_n 0, 1) := by decide +kernel
theorem d_gr_read_68 : decode (q_cc m_gr_read) 68 = .ok (.getfield 9, 3) := by decide +kernel
theorem d_gr_read_71 : decode (q_cc m_gr_read) 71 = .ok (.bipush 59, 2) := by decide +kernel
theorem d_gr_read_73 : decode (q_cc m_gr_read) 73 = .ok (.invokevirtual 47, 3) := by decide +kernel
theorem d_gr_read_76 : decode (q_cc m_gr_read) 76 = .ok (.ifCond .ne 5, 3) := by decide +kernel
theorem d_gr_read_79 : decode (q_cc m_gr_read) 79 = .ok (.iconst 0, 1) := by decide +kernel
theorem d_gr_read_80 : decode (q_cc m_gr_read) 80 = .ok (.ireturn, 1) := by decide +kernel
theorem d_gr_read_81 : decode (q_cc m_gr_read) 81 = .ok (.aload_n 0, 1) := by decide +kernel
theorem d_gr_read_82 : decode (q_cc m_gr_read) 82 = .ok (.getfield 24, 3) := by decide +kernel
theorem d_gr_read_85 : decode (q_cc m_gr_read) 85 = .ok (.dup, 1) := by decide +kernel
theorem d_gr_read_86 : decode (q_cc m_gr_read) 86 = .ok (.getfield 51, 3) := by decide +kernel
theorem d_gr_read_89 : decode (q_cc m_gr_read) 89 = .ok (.iconst 1, 1) := by decide +kernel
theorem d_gr_read_90 : decode (q_cc m_gr_read) 90 = .ok (.iadd, 1) := by decide +kernel
theorem d_gr_read_91 : decode (q_cc m_gr_read) 91 = .ok (.putfield 51, 3) := by decide +kernel
theorem d_gr_read_94 : decode (q_cc m_gr_read) 94 = .ok (.iinc 2 1, 3) := by decide +kernel
theorem d_gr_read_97 : decode (q_cc m_gr_read) 97 = .ok (.goto (-69), 3) := by decide +kernel
theorem d_gr_read_100 : decode (q_cc m_gr_read) 100 = .ok (.aload_n 0, 1) := by decide +kernel
theorem d_gr_read_101 : decode (q_cc m_gr_read) 101 = .ok (.getfield 9, 3) := by decide +kernel
theorem d_gr_read_104 : decode (q_cc m_gr_read) 104 = .ok (.invokevirtual 39, 3) := by decide +kernel
theorem d_gr_read_107 : decode (q_cc m_gr_read) 107 = .ok (.iconst (-1), 1) := by decide +kernel
theorem d_gr_read_108 : decode (q_cc m_gr_read) 108 = .ok (.if_icmp .eq 21, 3) := by decide +kernel
theorem d_gr_read_111 : decode (q_cc m_gr_read) 111 = .ok (.aload_n 0, 1) := by decide +kernel
theorem d_gr_read_112 : decode (q_cc m_gr_read) 112 = .ok (.getfield 9, 3) := by decide +kernel
theorem d_gr_read_115 : decode (q_cc m_gr_read) 115 = .ok (.iconst 5, 1) := by decide +kernel
theorem d_gr_read_116 : decode (q_cc m_gr_read) 116 = .ok (.aload_n 0, 1) := by decide +kernel
theorem d_gr_read_117 : decode (q_cc m_gr_read) 117 = .ok (.getfield 9, 3) := by decide +kernel
theorem d_gr_read_120 : decode (q_cc m_gr_read) 120 = .ok (.getfield 55, 3) := by decide +kernel
theorem d_gr_read_123 : decode (q_cc m_gr_read) 123 = .ok (.invokevirtual 58, 3) := by decide +kernel
theorem d_gr_read_126 : decode (q_cc m_gr_read) 126 = .ok (.ifCond .eq 7, 3) := by decide +kernel
theorem d_gr_read_129 : decode (q_cc m_gr_read) 129 = .ok (.iconst 1, 1) := by decide +kernel
theorem d_gr_read_130 : decode (q_cc m_gr_read) 130 = .ok (.goto 4, 3) := by decide +kernel
theorem d_gr_read_133 : decode (q_cc m_gr_read) 133 = .ok (.iconst 0, 1) := by decide +kernel
theorem d_gr_read_134 : decode (q_cc m_gr_read) 134 = .ok (.ireturn, 1) := by decide +kernel
theorem d_gr_settle_0 : decode (q_cc m_gr_settle) 0 = .ok (.aload_n 0, 1) := by decide +kernel
theorem d_gr_settle_1 : decode (q_cc m_gr_settle) 1 = .ok (.getfield 24, 3) := by decide +kernel
theorem d_gr_settle_4 : decode (q_cc m_gr_settle) 4 = .ok (.invokevirtual 62, 3) := by decide +kernel
theorem d_gr_settle_7 : decode (q_cc m_gr_settle) 7 = .ok (.aload_n 0, 1) := by decide +kernel
theorem d_gr_settle_8 : decode (q_cc m_gr_settle) 8 = .ok (.getfield 20, 3) := by decide +kernel
theorem d_gr_settle_11 : decode (q_cc m_gr_settle) 11 = .ok (.aload_n 0, 1) := by decide +kernel
theorem d_gr_settle_12 : decode (q_cc m_gr_settle) 12 = .ok (.getfield 24, 3) := by decide +kernel
theorem d_gr_settle_15 : decode (q_cc m_gr_settle) 15 = .ok (.invokevirtual 65, 3) := by decide +kernel
theorem d_gr_settle_18 : decode (q_cc m_gr_settle) 18 = .ok (.return_, 1) := by decide +kernel
theorem d_gr_readStatement_0 : decode (q_cc m_gr_readStatement) 0 = .ok (.aload_n 0, 1) := by decide +kernel
theorem d_gr_readStatement_1 : decode (q_cc m_gr_readStatement) 1 = .ok (.getfield 9, 3) := by decide +kernel
theorem d_gr_readStatement_4 : decode (q_cc m_gr_readStatement) 4 = .ok (.invokevirtual 69, 3) := by decide +kernel
theorem d_gr_readStatement_7 : decode (q_cc m_gr_readStatement) 7 = .ok (.istore_n 2, 1) := by decide +kernel
theorem d_gr_readStatement_8 : decode (q_cc m_gr_readStatement) 8 = .ok (.iload_n 1, 1) := by decide +kernel
theorem d_gr_readStatement_9 : decode (q_cc m_gr_readStatement) 9 = .ok (.iload_n 2, 1) := by decide +kernel
theorem d_gr_readStatement_10 : decode (q_cc m_gr_readStatement) 10 = .ok (.ifCond .ne 7, 3) := by decide +kernel
theorem d_gr_readStatement_13 : decode (q_cc m_gr_readStatement) 13 = .ok (.iconst 1, 1) := by decide +kernel
theorem d_gr_readStatement_14 : decode (q_cc m_gr_readStatement) 14 = .ok (.goto 4, 3) := by decide +kernel
theorem d_gr_readStatement_17 : decode (q_cc m_gr_readStatement) 17 = .ok (.iconst 0, 1) := by decide +kernel
theorem d_gr_readStatement_18 : decode (q_cc m_gr_readStatement) 18 = .ok (.if_icmp .eq 11, 3) := by decide +kernel
theorem d_gr_readStatement_21 : decode (q_cc m_gr_readStatement) 21 = .ok (.aload_n 0, 1) := by decide +kernel
theorem d_gr_readStatement_22 : decode (q_cc m_gr_readStatement) 22 = .ok (.getfield 9, 3) := by decide +kernel
theorem d_gr_readStatement_25 : decode (q_cc m_gr_readStatement) 25 = .ok (.invokevirtual 72, 3) := by decide +kernel
theorem d_gr_readStatement_28 : decode (q_cc m_gr_readStatement) 28 = .ok (.ireturn, 1) := by decide +kernel
theorem d_gr_readStatement_29 : decode (q_cc m_gr_readStatement) 29 = .ok (.iload_n 2, 1) := by decide +kernel
theorem d_gr_readStatement_30 : decode (q_cc m_gr_readStatement) 30 = .ok (.tableswitch 259 0 15 #[78, 101, 122, 259, 259, 143, 165, 187, 259, 259, 259, 259, 259, 208, 259, 236], 78) := by decide +kernel
theorem d_gr_readStatement_108 : decode (q_cc m_gr_readStatement) 108 = .ok (.aload_n 0, 1) := by decide +kernel
theorem d_gr_readStatement_109 : decode (q_cc m_gr_readStatement) 109 = .ok (.getfield 9, 3) := by decide +kernel
theorem d_gr_readStatement_112 : decode (q_cc m_gr_readStatement) 112 = .ok (.invokevirtual 76, 3) := by decide +kernel
theorem d_gr_readStatement_115 : decode (q_cc m_gr_readStatement) 115 = .ok (.ifCond .eq 14, 3) := by decide +kernel
theorem d_gr_readStatement_118 : decode (q_cc m_gr_readStatement) 118 = .ok (.aload_n 0, 1) := by decide +kernel
theorem d_gr_readStatement_119 : decode (q_cc m_gr_readStatement) 119 = .ok (.invokevirtual 79, 3) := by decide +kernel
theorem d_gr_readStatement_122 : decode (q_cc m_gr_readStatement) 122 = .ok (.ifCond .eq 7, 3) := by decide +kernel
theorem d_gr_readStatement_125 : decode (q_cc m_gr_readStatement) 125 = .ok (.iconst 1, 1) := by decide +kernel
theorem d_gr_readStatement_126 : decode (q_cc m_gr_readStatement) 126 = .ok (.goto 4, 3) := by decide +kernel
theorem d_gr_readStatement_129 : decode (q_cc m_gr_readStatement) 129 = .ok (.iconst 0, 1) := by decide +kernel
theorem d_gr_readStatement_130 : decode (q_cc m_gr_readStatement) 130 = .ok (.ireturn, 1) := by decide +kernel
theorem d_gr_readStatement_131 : decode (q_cc m_gr_readStatement) 131 = .ok (.aload_n 0, 1) := by decide +kernel
theorem d_gr_readStatement_132 : decode (q_cc m_gr_readStatement) 132 = .ok (.iconst 1, 1) := by decide +kernel
theorem d_gr_readStatement_133 : decode (q_cc m_gr_readStatement) 133 = .ok (.invokevirtual 82, 3) := by decide +kernel
theorem d_gr_readStatement_136 : decode (q_cc m_gr_readStatement) 136 = .ok (.ifCond .eq 14, 3) := by decide +kernel
theorem d_gr_readStatement_139 : decode (q_cc m_gr_readStatement) 139 = .ok (.aload_n 0, 1) := by decide +kernel
theorem d_gr_readStatement_140 : decode (q_cc m_gr_readStatement) 140 = .ok (.invokevirtual 85, 3) := by decide +kernel
theorem d_gr_readStatement_143 : decode (q_cc m_gr_readStatement) 143 = .ok (.ifCond .eq 7, 3) := by decide +kernel
theorem d_gr_readStatement_146 : decode (q_cc m_gr_readStatement) 146 = .ok (.iconst 1, 1) := by decide +kernel
theorem d_gr_readStatement_147 : decode (q_cc m_gr_readStatement) 147 = .ok (.goto 4, 3) := by decide +kernel
theorem d_gr_readStatement_150 : decode (q_cc m_gr_readStatement) 150 = .ok (.iconst 0, 1) := by decide +kernel
theorem d_gr_readStatement_151 : decode (q_cc m_gr_readStatement) 151 = .ok (.ireturn, 1) := by decide +kernel
theorem d_gr_readStatement_152 : decode (q_cc m_gr_readStatement) 152 = .ok (.aload_n 0, 1) := by decide +kernel
theorem d_gr_readStatement_153 : decode (q_cc m_gr_readStatement) 153 = .ok (.iconst 2, 1) := by decide +kernel
theorem d_gr_readStatement_154 : decode (q_cc m_gr_readStatement) 154 = .ok (.invokevirtual 82, 3) := by decide +kernel
theorem d_gr_readStatement_157 : decode (q_cc m_gr_readStatement) 157 = .ok (.ifCond .eq 14, 3) := by decide +kernel
theorem d_gr_readStatement_160 : decode (q_cc m_gr_readStatement) 160 = .ok (.aload_n 0, 1) := by decide +kernel
theorem d_gr_readStatement_161 : decode (q_cc m_gr_readStatement) 161 = .ok (.invokevirtual 88, 3) := by decide +kernel
theorem d_gr_readStatement_164 : decode (q_cc m_gr_readStatement) 164 = .ok (.ifCond .eq 7, 3) := by decide +kernel
theorem d_gr_readStatement_167 : decode (q_cc m_gr_readStatement) 167 = .ok (.iconst 1, 1) := by decide +kernel
theorem d_gr_readStatement_168 : decode (q_cc m_gr_readStatement) 168 = .ok (.goto 4, 3) := by decide +kernel
theorem d_gr_readStatement_171 : decode (q_cc m_gr_readStatement) 171 = .ok (.iconst 0, 1) := by decide +kernel
theorem d_gr_readStatement_172 : decode (q_cc m_gr_readStatement) 172 = .ok (.ireturn, 1) := by decide +kernel
theorem d_gr_readStatement_173 : decode (q_cc m_gr_readStatement) 173 = .ok (.aload_n 0, 1) := by decide +kernel
theorem d_gr_readStatement_174 : decode (q_cc m_gr_readStatement) 174 = .ok (.iconst 3, 1) := by decide +kernel
theorem d_gr_readStatement_175 : decode (q_cc m_gr_readStatement) 175 = .ok (.invokevirtual 82, 3) := by decide +kernel
theorem d_gr_readStatement_178 : decode (q_cc m_gr_readStatement) 178 = .ok (.ifCond .eq 15, 3) := by decide +kernel
theorem d_gr_readStatement_181 : decode (q_cc m_gr_readStatement) 181 = .ok (.aload_n 0, 1) := by decide +kernel
theorem d_gr_readStatement_182 : decode (q_cc m_gr_readStatement) 182 = .ok (.iconst 3, 1) := by decide +kernel
theorem d_gr_readStatement_183 : decode (q_cc m_gr_readStatement) 183 = .ok (.invokevirtual 91, 3) := by decide +kernel
theorem d_gr_readStatement_186 : decode (q_cc m_gr_readStatement) 186 = .ok (.ifCond .eq 7, 3) := by decide +kernel
theorem d_gr_readStatement_189 : decode (q_cc m_gr_readStatement) 189 = .ok (.iconst 1, 1) := by decide +kernel
theorem d_gr_readStatement_190 : decode (q_cc m_gr_readStatement) 190 = .ok (.goto 4, 3) := by decide +kernel
theorem d_gr_readStatement_193 : decode (q_cc m_gr_readStatement) 193 = .ok (.iconst 0, 1) := by decide +kernel
theorem d_gr_readStatement_194 : decode (q_cc m_gr_readStatement) 194 = .ok (.ireturn, 1) := by decide +kernel
theorem d_gr_readStatement_195 : decode (q_cc m_gr_readStatement) 195 = .ok (.aload_n 0, 1) := by decide +kernel
theorem d_gr_readStatement_196 : decode (q_cc m_gr_readStatement) 196 = .ok (.bipush 6, 2) := by decide +kernel
theorem d_gr_readStatement_198 : decode (q_cc m_gr_readStatement) 198 = .ok (.invokevirtual 82, 3) := by decide +kernel
theorem d_gr_readStatement_201 : decode (q_cc m_gr_readStatement) 201 = .ok (.ifCond .eq 14, 3) := by decide +kernel
theorem d_gr_readStatement_204 : decode (q_cc m_gr_readStatement) 204 = .ok (.aload_n 0, 1) := by decide +kernel
theorem d_gr_readStatement_205 : decode (q_cc m_gr_readStatement) 205 = .ok (.invokevirtual 94, 3) := by decide +kernel
theorem d_gr_readStatement_208 : decode (q_cc m_gr_readStatement) 208 = .ok (.ifCond .eq 7, 3) := by decide +kernel
theorem d_gr_readStatement_211 : decode (q_cc m_gr_readStatement) 211 = .ok (.iconst 1, 1) := by decide +kernel
theorem d_gr_readStatement_212 : decode (q_cc m_gr_readStatement) 212 = .ok (.goto 4, 3) := by decide +kernel
theorem d_gr_readStatement_215 : decode (q_cc m_gr_readStatement) 215 = .ok (.iconst 0, 1) := by decide +kernel
theorem d_gr_readStatement_216 : decode (q_cc m_gr_readStatement) 216 = .ok (.ireturn, 1) := by decide +kernel
theorem d_gr_readStatement_217 : decode (q_cc m_gr_readStatement) 217 = .ok (.aload_n 0, 1) := by decide +kernel
theorem d_gr_readStatement_218 : decode (q_cc m_gr_readStatement) 218 = .ok (.iconst 4, 1) := by decide +kernel
theorem d_gr_readStatement_219 : decode (q_cc m_gr_readStatement) 219 = .ok (.invokevirtual 82, 3) := by decide +kernel
theorem d_gr_readStatement_222 : decode (q_cc m_gr_readStatement) 222 = .ok (.ifCond .eq 14, 3) := by decide +kernel
theorem d_gr_readStatement_225 : decode (q_cc m_gr_readStatement) 225 = .ok (.aload_n 0, 1) := by decide +kernel
theorem d_gr_readStatement_226 : decode (q_cc m_gr_readStatement) 226 = .ok (.invokevirtual 97, 3) := by decide +kernel
theorem d_gr_readStatement_229 : decode (q_cc m_gr_readStatement) 229 = .ok (.ifCond .eq 7, 3) := by decide +kernel
theorem d_gr_readStatement_232 : decode (q_cc m_gr_readStatement) 232 = .ok (.iconst 1, 1) := by decide +kernel
theorem d_gr_readStatement_233 : decode (q_cc m_gr_readStatement) 233 = .ok (.goto 4, 3) := by decide +kernel
theorem d_gr_readStatement_236 : decode (q_cc m_gr_readStatement) 236 = .ok (.iconst 0, 1) := by decide +kernel
theorem d_gr_readStatement_237 : decode (q_cc m_gr_readStatement) 237 = .ok (.ireturn, 1) := by decide +kernel
theorem d_gr_readStatement_238 : decode (q_cc m_gr_readStatement) 238 = .ok (.aload_n 0, 1) := by decide +kernel
theorem d_gr_readStatement_239 : decode (q_cc m_gr_readStatement) 239 = .ok (.iconst 5, 1) := by decide +kernel
theorem d_gr_readStatement_240 : decode (q_cc m_gr_readStatement) 240 = .ok (.invokevirtual 82, 3) := by decide +kernel
theorem d_gr_readStatement_243 : decode (q_cc m_gr_readStatement) 243 = .ok (.ifCond .eq 21, 3) := by decide +kernel
theorem d_gr_readStatement_246 : decode (q_cc m_gr_readStatement) 246 = .ok (.aload_n 0, 1) := by decide +kernel
theorem d_gr_readStatement_247 : decode (q_cc m_gr_readStatement) 247 = .ok (.getfield 20, 3) := by decide +kernel
theorem d_gr_readStatement_250 : decode (q_cc m_gr_readStatement) 250 = .ok (.aload_n 0, 1) := by decide +kernel
theorem d_gr_readStatement_251 : decode (q_cc m_gr_readStatement) 251 = .ok (.getfield 24, 3) := by decide +kernel
theorem d_gr_readStatement_254 : decode (q_cc m_gr_readStatement) 254 = .ok (.invokevirtual 100, 3) := by decide +kernel
theorem d_gr_readStatement_257 : decode (q_cc m_gr_readStatement) 257 = .ok (.ifCond .eq 7, 3) := by decide +kernel
theorem d_gr_readStatement_260 : decode (q_cc m_gr_readStatement) 260 = .ok (.iconst 1, 1) := by decide +kernel
theorem d_gr_readStatement_261 : decode (q_cc m_gr_readStatement) 261 = .ok (.goto 4, 3) := by decide +kernel
theorem d_gr_readStatement_264 : decode (q_cc m_gr_readStatement) 264 = .ok (.iconst 0, 1) := by decide +kernel
theorem d_gr_readStatement_265 : decode (q_cc m_gr_readStatement) 265 = .ok (.ireturn, 1) := by decide +kernel
theorem d_gr_readStatement_266 : decode (q_cc m_gr_readStatement) 266 = .ok (.aload_n 0, 1) := by decide +kernel
theorem d_gr_readStatement_267 : decode (q_cc m_gr_readStatement) 267 = .ok (.getfield 9, 3) := by decide +kernel
theorem d_gr_readStatement_270 : decode (q_cc m_gr_readStatement) 270 = .ok (.invokevirtual 76, 3) := by decide +kernel
theorem d_gr_readStatement_273 : decode (q_cc m_gr_readStatement) 273 = .ok (.ifCond .eq 14, 3) := by decide +kernel
theorem d_gr_readStatement_276 : decode (q_cc m_gr_readStatement) 276 = .ok (.aload_n 0, 1) := by decide +kernel
theorem d_gr_readStatement_277 : decode (q_cc m_gr_readStatement) 277 = .ok (.invokevirtual 104, 3) := by decide +kernel
theorem d_gr_readStatement_280 : decode (q_cc m_gr_readStatement) 280 = .ok (.ifCond .eq 7, 3) := by decide +kernel
theorem d_gr_readStatement_283 : decode (q_cc m_gr_readStatement) 283 = .ok (.iconst 1, 1) := by decide +kernel
theorem d_gr_readStatement_284 : decode (q_cc m_gr_readStatement) 284 = .ok (.goto 4, 3) := by decide +kernel
theorem d_gr_readStatement_287 : decode (q_cc m_gr_readStatement) 287 = .ok (.iconst 0, 1) := by decide +kernel
theorem d_gr_readStatement_288 : decode (q_cc m_gr_readStatement) 288 = .ok (.ireturn, 1) := by decide +kernel
theorem d_gr_readStatement_289 : decode (q_cc m_gr_readStatement) 289 = .ok (.aload_n 0, 1) := by decide +kernel
theorem d_gr_readStatement_290 : decode (q_cc m_gr_readStatement) 290 = .ok (.getfield 9, 3) := by decide +kernel
theorem d_gr_readStatement_293 : decode (q_cc m_gr_readStatement) 293 = .ok (.invokevirtual 72, 3) := by decide +kernel
theorem d_gr_readStatement_296 : decode (q_cc m_gr_readStatement) 296 = .ok (.ireturn, 1) := by decide +kernel
theorem d_gr_begin_0 : decode (q_cc m_gr_begin) 0 = .ok (.aload_n 0, 1) := by decide +kernel
theorem d_gr_begin_1 : decode (q_cc m_gr_begin) 1 = .ok (.getfield 24, 3) := by decide +kernel
theorem d_gr_begin_4 : decode (q_cc m_gr_begin) 4 = .ok (.iload_n 1, 1) := by decide +kernel
theorem d_gr_begin_5 : decode (q_cc m_gr_begin) 5 = .ok (.invokevirtual 107, 3) := by decide +kernel
theorem d_gr_begin_8 : decode (q_cc m_gr_begin) 8 = .ok (.ifCond .eq 13, 3) := by decide +kernel
theorem d_gr_begin_11 : decode (q_cc m_gr_begin) 11 = .ok (.aload_n 0, 1) := by decide +kernel
theorem d_gr_begin_12 : decode (q_cc m_gr_begin) 12 = .ok (.getfield 9, 3) := by decide +kernel
theorem d_gr_begin_15 : decode (q_cc m_gr_begin) 15 = .ok (.invokevirtual 76, 3) := by decide +kernel
theorem d_gr_begin_18 : decode (q_cc m_gr_begin) 18 = .ok (.goto 18, 3) := by decide +kernel
theorem d_gr_begin_21 : decode (q_cc m_gr_begin) 21 = .ok (.aload_n 0, 1) := by decide +kernel
theorem d_gr_begin_22 : decode (q_cc m_gr_begin) 22 = .ok (.getfield 9, 3) := by decide +kernel
theorem d_gr_begin_25 : decode (q_cc m_gr_begin) 25 = .ok (.iconst 5, 1) := by decide +kernel
theorem d_gr_begin_26 : decode (q_cc m_gr_begin) 26 = .ok (.aload_n 0, 1) := by decide +kernel
theorem d_gr_begin_27 : decode (q_cc m_gr_begin) 27 = .ok (.getfield 9, 3) := by decide +kernel
theorem d_gr_begin_30 : decode (q_cc m_gr_begin) 30 = .ok (.getfield 55, 3) := by decide +kernel
theorem d_gr_begin_33 : decode (q_cc m_gr_begin) 33 = .ok (.invokevirtual 58, 3) := by decide +kernel
theorem d_gr_begin_36 : decode (q_cc m_gr_begin) 36 = .ok (.ireturn, 1) := by decide +kernel
theorem d_gr_readTraits_0 : decode (q_cc m_gr_readTraits) 0 = .ok (.iconst 1, 1) := by decide +kernel
theorem d_gr_readTraits_1 : decode (q_cc m_gr_readTraits) 1 = .ok (.istore_n 1, 1) := by decide +kernel
theorem d_gr_readTraits_2 : decode (q_cc m_gr_readTraits) 2 = .ok (.iconst 0, 1) := by decide +kernel
theorem d_gr_readTraits_3 : decode (q_cc m_gr_readTraits) 3 = .ok (.istore_n 2, 1) := by decide +kernel
theorem d_gr_readTraits_4 : decode (q_cc m_gr_readTraits) 4 = .ok (.iload_n 2, 1) := by decide +kernel
theorem d_gr_readTraits_5 : decode (q_cc m_gr_readTraits) 5 = .ok (.bipush 6, 2) := by decide +kernel
theorem d_gr_readTraits_7 : decode (q_cc m_gr_readTraits) 7 = .ok (.if_icmp .ge 96, 3) := by decide +kernel
theorem d_gr_readTraits_10 : decode (q_cc m_gr_readTraits) 10 = .ok (.iload_n 1, 1) := by decide +kernel
theorem d_gr_readTraits_11 : decode (q_cc m_gr_readTraits) 11 = .ok (.ifCond .eq 92, 3) := by decide +kernel
theorem d_gr_readTraits_14 : decode (q_cc m_gr_readTraits) 14 = .ok (.aload_n 0, 1) := by decide +kernel
theorem d_gr_readTraits_15 : decode (q_cc m_gr_readTraits) 15 = .ok (.iconst 0, 1) := by decide +kernel
theorem d_gr_readTraits_16 : decode (q_cc m_gr_readTraits) 16 = .ok (.invokevirtual 91, 3) := by decide +kernel
theorem d_gr_readTraits_19 : decode (q_cc m_gr_readTraits) 19 = .ok (.ifCond .eq 47, 3) := by decide +kernel
theorem d_gr_readTraits_22 : decode (q_cc m_gr_readTraits) 22 = .ok (.aload_n 0, 1) := by decide +kernel
theorem d_gr_readTraits_23 : decode (q_cc m_gr_readTraits) 23 = .ok (.aload_n 0, 1) := by decide +kernel
theorem d_gr_readTraits_24 : decode (q_cc m_gr_readTraits) 24 = .ok (.getfield 24, 3) := by decide +kernel
theorem d_gr_readTraits_27 : decode (q_cc m_gr_readTraits) 27 = .ok (.getfield 110, 3) := by decide +kernel
theorem d_gr_readTraits_30 : decode (q_cc m_gr_readTraits) 30 = .ok (.iload_n 2, 1) := by decide +kernel
theorem d_gr_readTraits_31 : decode (q_cc m_gr_readTraits) 31 = .ok (.aaload, 1) := by decide +kernel
theorem d_gr_readTraits_32 : decode (q_cc m_gr_readTraits) 32 = .ok (.iconst 0, 1) := by decide +kernel
theorem d_gr_readTraits_33 : decode (q_cc m_gr_readTraits) 33 = .ok (.iconst 0, 1) := by decide +kernel
theorem d_gr_readTraits_34 : decode (q_cc m_gr_readTraits) 34 = .ok (.bipush 100, 2) := by decide +kernel
theorem d_gr_readTraits_36 : decode (q_cc m_gr_readTraits) 36 = .ok (.invokevirtual 114, 3) := by decide +kernel
theorem d_gr_readTraits_39 : decode (q_cc m_gr_readTraits) 39 = .ok (.ifCond .eq 27, 3) := by decide +kernel
theorem d_gr_readTraits_42 : decode (q_cc m_gr_readTraits) 42 = .ok (.aload_n 0, 1) := by decide +kernel
theorem d_gr_readTraits_43 : decode (q_cc m_gr_readTraits) 43 = .ok (.aload_n 0, 1) := by decide +kernel
theorem d_gr_readTraits_44 : decode (q_cc m_gr_readTraits) 44 = .ok (.getfield 24, 3) := by decide +kernel
theorem d_gr_readTraits_47 : decode (q_cc m_gr_readTraits) 47 = .ok (.getfield 110, 3) := by decide +kernel
theorem d_gr_readTraits_50 : decode (q_cc m_gr_readTraits) 50 = .ok (.iload_n 2, 1) := by decide +kernel
theorem d_gr_readTraits_51 : decode (q_cc m_gr_readTraits) 51 = .ok (.aaload, 1) := by decide +kernel
theorem d_gr_readTraits_52 : decode (q_cc m_gr_readTraits) 52 = .ok (.iconst 1, 1) := by decide +kernel
theorem d_gr_readTraits_53 : decode (q_cc m_gr_readTraits) 53 = .ok (.iconst 0, 1) := by decide +kernel
theorem d_gr_readTraits_54 : decode (q_cc m_gr_readTraits) 54 = .ok (.bipush 100, 2) := by decide +kernel
theorem d_gr_readTraits_56 : decode (q_cc m_gr_readTraits) 56 = .ok (.invokevirtual 114, 3) := by decide +kernel
theorem d_gr_readTraits_59 : decode (q_cc m_gr_readTraits) 59 = .ok (.ifCond .eq 7, 3) := by decide +kernel
theorem d_gr_readTraits_62 : decode (q_cc m_gr_readTraits) 62 = .ok (.iconst 1, 1) := by decide +kernel
theorem d_gr_readTraits_63 : decode (q_cc m_gr_readTraits) 63 = .ok (.goto 4, 3) := by decide +kernel
theorem d_gr_readTraits_66 : decode (q_cc m_gr_readTraits) 66 = .ok (.iconst 0, 1) := by decide +kernel
theorem d_gr_readTraits_67 : decode (q_cc m_gr_readTraits) 67 = .ok (.istore_n 3, 1) := by decide +kernel
theorem d_gr_readTraits_68 : decode (q_cc m_gr_readTraits) 68 = .ok (.iload_n 3, 1) := by decide +kernel
theorem d_gr_readTraits_69 : decode (q_cc m_gr_readTraits) 69 = .ok (.ifCond .ne 5, 3) := by decide +kernel
theorem d_gr_readTraits_72 : decode (q_cc m_gr_readTraits) 72 = .ok (.iconst 0, 1) := by decide +kernel
theorem d_gr_readTraits_73 : decode (q_cc m_gr_readTraits) 73 = .ok (.ireturn, 1) := by decide +kernel
theorem d_gr_readTraits_74 : decode (q_cc m_gr_readTraits) 74 = .ok (.iload_n 2, 1) := by decide +kernel
theorem d_gr_readTraits_75 : decode (q_cc m_gr_readTraits) 75 = .ok (.iconst 5, 1) := by decide +kernel
theorem d_gr_readTraits_76 : decode (q_cc m_gr_readTraits) 76 = .ok (.if_icmp .ge 19, 3) := by decide +kernel
theorem d_gr_readTraits_79 : decode (q_cc m_gr_readTraits) 79 = .ok (.aload_n 0, 1) := by decide +kernel
theorem d_gr_readTraits_80 : decode (q_cc m_gr_readTraits) 80 = .ok (.getfield 9, 3) := by decide +kernel
theorem d_gr_readTraits_83 : decode (q_cc m_gr_readTraits) 83 = .ok (.bipush 44, 2) := by decide +kernel
theorem d_gr_readTraits_85 : decode (q_cc m_gr_readTraits) 85 = .ok (.invokevirtual 118, 3) := by decide +kernel
theorem d_gr_readTraits_88 : decode (q_cc m_gr_readTraits) 88 = .ok (.ifCond .eq 7, 3) := by decide +kernel
theorem d_gr_readTraits_91 : decode (q_cc m_gr_readTraits) 91 = .ok (.iconst 1, 1) := by decide +kernel
theorem d_gr_readTraits_92 : decode (q_cc m_gr_readTraits) 92 = .ok (.goto 4, 3) := by decide +kernel
theorem d_gr_readTraits_95 : decode (q_cc m_gr_readTraits) 95 = .ok (.iconst 0, 1) := by decide +kernel
theorem d_gr_readTraits_96 : decode (q_cc m_gr_readTraits) 96 = .ok (.istore_n 1, 1) := by decide +kernel
theorem d_gr_readTraits_97 : decode (q_cc m_gr_readTraits) 97 = .ok (.iinc 2 1, 3) := by decide +kernel
theorem d_gr_readTraits_100 : decode (q_cc m_gr_readTraits) 100 = .ok (.goto (-96), 3) := by decide +kernel
theorem d_gr_readTraits_103 : decode (q_cc m_gr_readTraits) 103 = .ok (.iconst 1, 1) := by decide +kernel
theorem d_gr_readTraits_104 : decode (q_cc m_gr_readTraits) 104 = .ok (.ireturn, 1) := by decide +kernel
theorem d_gr_readPerson_0 : decode (q_cc m_gr_readPerson) 0 = .ok (.aload_n 0, 1) := by decide +kernel
theorem d_gr_readPerson_1 : decode (q_cc m_gr_readPerson) 1 = .ok (.getfield 24, 3) := by decide +kernel
theorem d_gr_readPerson_4 : decode (q_cc m_gr_readPerson) 4 = .ok (.getfield 121, 3) := by decide +kernel
theorem d_gr_readPerson_7 : decode (q_cc m_gr_readPerson) 7 = .ok (.iconst 1, 1) := by decide +kernel
theorem d_gr_readPerson_8 : decode (q_cc m_gr_readPerson) 8 = .ok (.iaload, 1) := by decide +kernel
theorem d_gr_readPerson_9 : decode (q_cc m_gr_readPerson) 9 = .ok (.istore_n 1, 1) := by decide +kernel
theorem d_gr_readPerson_10 : decode (q_cc m_gr_readPerson) 10 = .ok (.aload_n 0, 1) := by decide +kernel
theorem d_gr_readPerson_11 : decode (q_cc m_gr_readPerson) 11 = .ok (.iconst 1, 1) := by decide +kernel
theorem d_gr_readPerson_12 : decode (q_cc m_gr_readPerson) 12 = .ok (.invokevirtual 91, 3) := by decide +kernel
theorem d_gr_readPerson_15 : decode (q_cc m_gr_readPerson) 15 = .ok (.ifCond .eq 25, 3) := by decide +kernel
theorem d_gr_readPerson_18 : decode (q_cc m_gr_readPerson) 18 = .ok (.aload_n 0, 1) := by decide +kernel
theorem d_gr_readPerson_19 : decode (q_cc m_gr_readPerson) 19 = .ok (.aload_n 0, 1) := by decide +kernel
theorem d_gr_readPerson_20 : decode (q_cc m_gr_readPerson) 20 = .ok (.getfield 24, 3) := by decide +kernel
theorem d_gr_readPerson_23 : decode (q_cc m_gr_readPerson) 23 = .ok (.getfield 125, 3) := by decide +kernel
theorem d_gr_readPerson_26 : decode (q_cc m_gr_readPerson) 26 = .ok (.iload_n 1, 1) := by decide +kernel
theorem d_gr_readPerson_27 : decode (q_cc m_gr_readPerson) 27 = .ok (.aaload, 1) := by decide +kernel
theorem d_gr_readPerson_28 : decode (q_cc m_gr_readPerson) 28 = .ok (.bipush 9, 2) := by decide +kernel
theorem d_gr_readPerson_30 : decode (q_cc m_gr_readPerson) 30 = .ok (.invokevirtual 128, 3) := by decide +kernel
theorem d_gr_readPerson_33 : decode (q_cc m_gr_readPerson) 33 = .ok (.ifCond .eq 7, 3) := by decide +kernel
theorem d_gr_readPerson_36 : decode (q_cc m_gr_readPerson) 36 = .ok (.iconst 1, 1) := by decide +kernel
theorem d_gr_readPerson_37 : decode (q_cc m_gr_readPerson) 37 = .ok (.goto 4, 3) := by decide +kernel
theorem d_gr_readPerson_40 : decode (q_cc m_gr_readPerson) 40 = .ok (.iconst 0, 1) := by decide +kernel
theorem d_gr_readPerson_41 : decode (q_cc m_gr_readPerson) 41 = .ok (.ireturn, 1) := by decide +kernel
theorem d_gr_readShade_0 : decode (q_cc m_gr_readShade) 0 = .ok (.aload_n 0, 1) := by decide +kernel
theorem d_gr_readShade_1 : decode (q_cc m_gr_readShade) 1 = .ok (.getfield 24, 3) := by decide +kernel
theorem d_gr_readShade_4 : decode (q_cc m_gr_readShade) 4 = .ok (.getfield 121, 3) := by decide +kernel
theorem d_gr_readShade_7 : decode (q_cc m_gr_readShade) 7 = .ok (.iconst 2, 1) := by decide +kernel
theorem d_gr_readShade_8 : decode (q_cc m_gr_readShade) 8 = .ok (.iaload, 1) := by decide +kernel
theorem d_gr_readShade_9 : decode (q_cc m_gr_readShade) 9 = .ok (.istore_n 1, 1) := by decide +kernel
theorem d_gr_readShade_10 : decode (q_cc m_gr_readShade) 10 = .ok (.aload_n 0, 1) := by decide +kernel
theorem d_gr_readShade_11 : decode (q_cc m_gr_readShade) 11 = .ok (.iconst 2, 1) := by decide +kernel
theorem d_gr_readShade_12 : decode (q_cc m_gr_readShade) 12 = .ok (.invokevirtual 91, 3) := by decide +kernel
theorem d_gr_readShade_15 : decode (q_cc m_gr_readShade) 15 = .ok (.ifCond .eq 82, 3) := by decide +kernel
theorem d_gr_readShade_18 : decode (q_cc m_gr_readShade) 18 = .ok (.aload_n 0, 1) := by decide +kernel
theorem d_gr_readShade_19 : decode (q_cc m_gr_readShade) 19 = .ok (.getfield 9, 3) := by decide +kernel
theorem d_gr_readShade_22 : decode (q_cc m_gr_readShade) 22 = .ok (.iconst 3, 1) := by decide +kernel
theorem d_gr_readShade_23 : decode (q_cc m_gr_readShade) 23 = .ok (.invokevirtual 134, 3) := by decide +kernel
theorem d_gr_readShade_26 : decode (q_cc m_gr_readShade) 26 = .ok (.ifCond .eq 71, 3) := by decide +kernel
theorem d_gr_readShade_29 : decode (q_cc m_gr_readShade) 29 = .ok (.aload_n 0, 1) := by decide +kernel
theorem d_gr_readShade_30 : decode (q_cc m_gr_readShade) 30 = .ok (.aload_n 0, 1) := by decide +kernel
theorem d_gr_readShade_31 : decode (q_cc m_gr_readShade) 31 = .ok (.getfield 24, 3) := by decide +kernel
theorem d_gr_readShade_34 : decode (q_cc m_gr_readShade) 34 = .ok (.getfield 137, 3) := by decide +kernel
theorem d_gr_readShade_37 : decode (q_cc m_gr_readShade) 37 = .ok (.iload_n 1, 1) := by decide +kernel
theorem d_gr_readShade_38 : decode (q_cc m_gr_readShade) 38 = .ok (.iconst 1, 1) := by decide +kernel
theorem d_gr_readShade_39 : decode (q_cc m_gr_readShade) 39 = .ok (.bipush 99, 2) := by decide +kernel
theorem d_gr_readShade_41 : decode (q_cc m_gr_readShade) 41 = .ok (.invokevirtual 114, 3) := by decide +kernel
theorem d_gr_readShade_44 : decode (q_cc m_gr_readShade) 44 = .ok (.ifCond .eq 53, 3) := by decide +kernel
theorem d_gr_readShade_47 : decode (q_cc m_gr_readShade) 47 = .ok (.aload_n 0, 1) := by decide +kernel
theorem d_gr_readShade_48 : decode (q_cc m_gr_readShade) 48 = .ok (.aload_n 0, 1) := by decide +kernel
theorem d_gr_readShade_49 : decode (q_cc m_gr_readShade) 49 = .ok (.getfield 24, 3) := by decide +kernel
theorem d_gr_readShade_52 : decode (q_cc m_gr_readShade) 52 = .ok (.getfield 140, 3) := by decide +kernel
theorem d_gr_readShade_55 : decode (q_cc m_gr_readShade) 55 = .ok (.iload_n 1, 1) := by decide +kernel
theorem d_gr_readShade_56 : decode (q_cc m_gr_readShade) 56 = .ok (.aaload, 1) := by decide +kernel
theorem d_gr_readShade_57 : decode (q_cc m_gr_readShade) 57 = .ok (.bipush 9, 2) := by decide +kernel
theorem d_gr_readShade_59 : decode (q_cc m_gr_readShade) 59 = .ok (.invokevirtual 128, 3) := by decide +kernel
theorem d_gr_readShade_62 : decode (q_cc m_gr_readShade) 62 = .ok (.ifCond .eq 35, 3) := by decide +kernel
theorem d_gr_readShade_65 : decode (q_cc m_gr_readShade) 65 = .ok (.aload_n 0, 1) := by decide +kernel
theorem d_gr_readShade_66 : decode (q_cc m_gr_readShade) 66 = .ok (.getfield 9, 3) := by decide +kernel
theorem d_gr_readShade_69 : decode (q_cc m_gr_readShade) 69 = .ok (.iconst 4, 1) := by decide +kernel
theorem d_gr_readShade_70 : decode (q_cc m_gr_readShade) 70 = .ok (.invokevirtual 134, 3) := by decide +kernel
theorem d_gr_readShade_73 : decode (q_cc m_gr_readShade) 73 = .ok (.ifCond .eq 24, 3) := by decide +kernel
theorem d_gr_readShade_76 : decode (q_cc m_gr_readShade) 76 = .ok (.aload_n 0, 1) := by decide +kernel
theorem d_gr_readShade_77 : decode (q_cc m_gr_readShade) 77 = .ok (.aload_n 0, 1) := by decide +kernel
theorem d_gr_readShade_78 : decode (q_cc m_gr_readShade) 78 = .ok (.getfield 24, 3) := by decide +kernel
theorem d_gr_readShade_81 : decode (q_cc m_gr_readShade) 81 = .ok (.getfield 143, 3) := by decide +kernel
theorem d_gr_readShade_84 : decode (q_cc m_gr_readShade) 84 = .ok (.iload_n 1, 1) := by decide +kernel
theorem d_gr_readShade_85 : decode (q_cc m_gr_readShade) 85 = .ok (.aaload, 1) := by decide +kernel
theorem d_gr_readShade_86 : decode (q_cc m_gr_readShade) 86 = .ok (.iconst 1, 1) := by decide +kernel
theorem d_gr_readShade_87 : decode (q_cc m_gr_readShade) 87 = .ok (.invokevirtual 128, 3) := by decide +kernel
theorem d_gr_readShade_90 : decode (q_cc m_gr_readShade) 90 = .ok (.ifCond .eq 7, 3) := by decide +kernel
theorem d_gr_readShade_93 : decode (q_cc m_gr_readShade) 93 = .ok (.iconst 1, 1) := by decide +kernel
theorem d_gr_readShade_94 : decode (q_cc m_gr_readShade) 94 = .ok (.goto 4, 3) := by decide +kernel
theorem d_gr_readShade_97 : decode (q_cc m_gr_readShade) 97 = .ok (.iconst 0, 1) := by decide +kernel
theorem d_gr_readShade_98 : decode (q_cc m_gr_readShade) 98 = .ok (.ireturn, 1) := by decide +kernel
theorem d_gr_readRoad_0 : decode (q_cc m_gr_readRoad) 0 = .ok (.aload_n 0, 1) := by decide +kernel
theorem d_gr_readRoad_1 : decode (q_cc m_gr_readRoad) 1 = .ok (.iconst 3, 1) := by decide +kernel
theorem d_gr_readRoad_2 : decode (q_cc m_gr_readRoad) 2 = .ok (.invokevirtual 146, 3) := by decide +kernel
theorem d_gr_readRoad_5 : decode (q_cc m_gr_readRoad) 5 = .ok (.ifCond .ne 5, 3) := by decide +kernel
theorem d_gr_readRoad_8 : decode (q_cc m_gr_readRoad) 8 = .ok (.iconst 0, 1) := by decide +kernel
theorem d_gr_readRoad_9 : decode (q_cc m_gr_readRoad) 9 = .ok (.ireturn, 1) := by decide +kernel
theorem d_gr_readRoad_10 : decode (q_cc m_gr_readRoad) 10 = .ok (.aload_n 0, 1) := by decide +kernel
theorem d_gr_readRoad_11 : decode (q_cc m_gr_readRoad) 11 = .ok (.getfield 9, 3) := by decide +kernel
theorem d_gr_readRoad_14 : decode (q_cc m_gr_readRoad) 14 = .ok (.getfield 149, 3) := by decide +kernel
theorem d_gr_readRoad_17 : decode (q_cc m_gr_readRoad) 17 = .ok (.istore_n 1, 1) := by decide +kernel
theorem d_gr_readRoad_18 : decode (q_cc m_gr_readRoad) 18 = .ok (.aload_n 0, 1) := by decide +kernel
theorem d_gr_readRoad_19 : decode (q_cc m_gr_readRoad) 19 = .ok (.iconst 3, 1) := by decide +kernel
theorem d_gr_readRoad_20 : decode (q_cc m_gr_readRoad) 20 = .ok (.invokevirtual 146, 3) := by decide +kernel
theorem d_gr_readRoad_23 : decode (q_cc m_gr_readRoad) 23 = .ok (.ifCond .ne 5, 3) := by decide +kernel
theorem d_gr_readRoad_26 : decode (q_cc m_gr_readRoad) 26 = .ok (.iconst 0, 1) := by decide +kernel
theorem d_gr_readRoad_27 : decode (q_cc m_gr_readRoad) 27 = .ok (.ireturn, 1) := by decide +kernel
theorem d_gr_readRoad_28 : decode (q_cc m_gr_readRoad) 28 = .ok (.aload_n 0, 1) := by decide +kernel
theorem d_gr_readRoad_29 : decode (q_cc m_gr_readRoad) 29 = .ok (.getfield 9, 3) := by decide +kernel
theorem d_gr_readRoad_32 : decode (q_cc m_gr_readRoad) 32 = .ok (.getfield 149, 3) := by decide +kernel
theorem d_gr_readRoad_35 : decode (q_cc m_gr_readRoad) 35 = .ok (.istore_n 2, 1) := by decide +kernel
theorem d_gr_readRoad_36 : decode (q_cc m_gr_readRoad) 36 = .ok (.iload_n 1, 1) := by decide +kernel
theorem d_gr_readRoad_37 : decode (q_cc m_gr_readRoad) 37 = .ok (.iload_n 2, 1) := by decide +kernel
theorem d_gr_readRoad_38 : decode (q_cc m_gr_readRoad) 38 = .ok (.if_icmp .ne 19, 3) := by decide +kernel
theorem d_gr_readRoad_41 : decode (q_cc m_gr_readRoad) 41 = .ok (.aload_n 0, 1) := by decide +kernel
theorem d_gr_readRoad_42 : decode (q_cc m_gr_readRoad) 42 = .ok (.getfield 9, 3) := by decide +kernel
theorem d_gr_readRoad_45 : decode (q_cc m_gr_readRoad) 45 = .ok (.iconst 3, 1) := by decide +kernel
theorem d_gr_readRoad_46 : decode (q_cc m_gr_readRoad) 46 = .ok (.aload_n 0, 1) := by decide +kernel
theorem d_gr_readRoad_47 : decode (q_cc m_gr_readRoad) 47 = .ok (.getfield 9, 3) := by decide +kernel
theorem d_gr_readRoad_50 : decode (q_cc m_gr_readRoad) 50 = .ok (.getfield 152, 3) := by decide +kernel
theorem d_gr_readRoad_53 : decode (q_cc m_gr_readRoad) 53 = .ok (.invokevirtual 58, 3) := by decide +kernel
theorem d_gr_readRoad_56 : decode (q_cc m_gr_readRoad) 56 = .ok (.ireturn, 1) := by decide +kernel
theorem d_gr_readRoad_57 : decode (q_cc m_gr_readRoad) 57 = .ok (.aload_n 0, 1) := by decide +kernel
theorem d_gr_readRoad_58 : decode (q_cc m_gr_readRoad) 58 = .ok (.getfield 9, 3) := by decide +kernel
theorem d_gr_readRoad_61 : decode (q_cc m_gr_readRoad) 61 = .ok (.iconst 1, 1) := by decide +kernel
theorem d_gr_readRoad_62 : decode (q_cc m_gr_readRoad) 62 = .ok (.bipush 9, 2) := by decide +kernel
theorem d_gr_readRoad_64 : decode (q_cc m_gr_readRoad) 64 = .ok (.invokevirtual 155, 3) := by decide +kernel
theorem d_gr_readRoad_67 : decode (q_cc m_gr_readRoad) 67 = .ok (.ifCond .ne 5, 3) := by decide +kernel
theorem d_gr_readRoad_70 : decode (q_cc m_gr_readRoad) 70 = .ok (.iconst 0, 1) := by decide +kernel
theorem d_gr_readRoad_71 : decode (q_cc m_gr_readRoad) 71 = .ok (.ireturn, 1) := by decide +kernel
theorem d_gr_readRoad_72 : decode (q_cc m_gr_readRoad) 72 = .ok (.aload_n 0, 1) := by decide +kernel
theorem d_gr_readRoad_73 : decode (q_cc m_gr_readRoad) 73 = .ok (.getfield 24, 3) := by decide +kernel
theorem d_gr_readRoad_76 : decode (q_cc m_gr_readRoad) 76 = .ok (.iload_n 1, 1) := by decide +kernel
theorem d_gr_readRoad_77 : decode (q_cc m_gr_readRoad) 77 = .ok (.iload_n 2, 1) := by decide +kernel
theorem d_gr_readRoad_78 : decode (q_cc m_gr_readRoad) 78 = .ok (.aload_n 0, 1) := by decide +kernel
theorem d_gr_readRoad_79 : decode (q_cc m_gr_readRoad) 79 = .ok (.getfield 9, 3) := by decide +kernel
theorem d_gr_readRoad_82 : decode (q_cc m_gr_readRoad) 82 = .ok (.getfield 149, 3) := by decide +kernel
theorem d_gr_readRoad_85 : decode (q_cc m_gr_readRoad) 85 = .ok (.invokevirtual 158, 3) := by decide +kernel
theorem d_gr_readRoad_88 : decode (q_cc m_gr_readRoad) 88 = .ok (.iconst 1, 1) := by decide +kernel
theorem d_gr_readRoad_89 : decode (q_cc m_gr_readRoad) 89 = .ok (.ireturn, 1) := by decide +kernel
theorem d_gr_readSeen_0 : decode (q_cc m_gr_readSeen) 0 = .ok (.aload_n 0, 1) := by decide +kernel
theorem d_gr_readSeen_1 : decode (q_cc m_gr_readSeen) 1 = .ok (.getfield 24, 3) := by decide +kernel
theorem d_gr_readSeen_4 : decode (q_cc m_gr_readSeen) 4 = .ok (.getfield 162, 3) := by decide +kernel
theorem d_gr_readSeen_7 : decode (q_cc m_gr_readSeen) 7 = .ok (.aload_n 0, 1) := by decide +kernel
theorem d_gr_readSeen_8 : decode (q_cc m_gr_readSeen) 8 = .ok (.getfield 24, 3) := by decide +kernel
theorem d_gr_readSeen_11 : decode (q_cc m_gr_readSeen) 11 = .ok (.getfield 121, 3) := by decide +kernel
theorem d_gr_readSeen_14 : decode (q_cc m_gr_readSeen) 14 = .ok (.iconst 4, 1) := by decide +kernel
theorem d_gr_readSeen_15 : decode (q_cc m_gr_readSeen) 15 = .ok (.iaload, 1) := by decide +kernel
theorem d_gr_readSeen_16 : decode (q_cc m_gr_readSeen) 16 = .ok (.aaload, 1) := by decide +kernel
theorem d_gr_readSeen_17 : decode (q_cc m_gr_readSeen) 17 = .ok (.astore_n 1, 1) := by decide +kernel
theorem d_gr_readSeen_18 : decode (q_cc m_gr_readSeen) 18 = .ok (.aload_n 0, 1) := by decide +kernel
theorem d_gr_readSeen_19 : decode (q_cc m_gr_readSeen) 19 = .ok (.iconst 1, 1) := by decide +kernel
theorem d_gr_readSeen_20 : decode (q_cc m_gr_readSeen) 20 = .ok (.invokevirtual 146, 3) := by decide +kernel
theorem d_gr_readSeen_23 : decode (q_cc m_gr_readSeen) 23 = .ok (.ifCond .ne 5, 3) := by decide +kernel
theorem d_gr_readSeen_26 : decode (q_cc m_gr_readSeen) 26 = .ok (.iconst 0, 1) := by decide +kernel
theorem d_gr_readSeen_27 : decode (q_cc m_gr_readSeen) 27 = .ok (.ireturn, 1) := by decide +kernel
theorem d_gr_readSeen_28 : decode (q_cc m_gr_readSeen) 28 = .ok (.aload_n 1, 1) := by decide +kernel
theorem d_gr_readSeen_29 : decode (q_cc m_gr_readSeen) 29 = .ok (.iconst 0, 1) := by decide +kernel
theorem d_gr_readSeen_30 : decode (q_cc m_gr_readSeen) 30 = .ok (.aload_n 0, 1) := by decide +kernel
theorem d_gr_readSeen_31 : decode (q_cc m_gr_readSeen) 31 = .ok (.getfield 9, 3) := by decide +kernel
theorem d_gr_readSeen_34 : decode (q_cc m_gr_readSeen) 34 = .ok (.getfield 149, 3) := by decide +kernel
theorem d_gr_readSeen_37 : decode (q_cc m_gr_readSeen) 37 = .ok (.iastore, 1) := by decide +kernel
theorem d_gr_readSeen_38 : decode (q_cc m_gr_readSeen) 38 = .ok (.aload_n 0, 1) := by decide +kernel
theorem d_gr_readSeen_39 : decode (q_cc m_gr_readSeen) 39 = .ok (.getfield 9, 3) := by decide +kernel
theorem d_gr_readSeen_42 : decode (q_cc m_gr_readSeen) 42 = .ok (.bipush 8, 2) := by decide +kernel
theorem d_gr_readSeen_44 : decode (q_cc m_gr_readSeen) 44 = .ok (.invokevirtual 134, 3) := by decide +kernel
theorem d_gr_readSeen_47 : decode (q_cc m_gr_readSeen) 47 = .ok (.ifCond .eq 11, 3) := by decide +kernel
theorem d_gr_readSeen_50 : decode (q_cc m_gr_readSeen) 50 = .ok (.aload_n 0, 1) := by decide +kernel
theorem d_gr_readSeen_51 : decode (q_cc m_gr_readSeen) 51 = .ok (.iconst 3, 1) := by decide +kernel
theorem d_gr_readSeen_52 : decode (q_cc m_gr_readSeen) 52 = .ok (.invokevirtual 146, 3) := by decide +kernel
theorem d_gr_readSeen_55 : decode (q_cc m_gr_readSeen) 55 = .ok (.ifCond .ne 5, 3) := by decide +kernel
theorem d_gr_readSeen_58 : decode (q_cc m_gr_readSeen) 58 = .ok (.iconst 0, 1) := by decide +kernel
theorem d_gr_readSeen_59 : decode (q_cc m_gr_readSeen) 59 = .ok (.ireturn, 1) := by decide +kernel
theorem d_gr_readSeen_60 : decode (q_cc m_gr_readSeen) 60 = .ok (.aload_n 1, 1) := by decide +kernel
theorem d_gr_readSeen_61 : decode (q_cc m_gr_readSeen) 61 = .ok (.iconst 1, 1) := by decide +kernel
theorem d_gr_readSeen_62 : decode (q_cc m_gr_readSeen) 62 = .ok (.aload_n 0, 1) := by decide +kernel
theorem d_gr_readSeen_63 : decode (q_cc m_gr_readSeen) 63 = .ok (.getfield 9, 3) := by decide +kernel
theorem d_gr_readSeen_66 : decode (q_cc m_gr_readSeen) 66 = .ok (.getfield 149, 3) := by decide +kernel
theorem d_gr_readSeen_69 : decode (q_cc m_gr_readSeen) 69 = .ok (.iastore, 1) := by decide +kernel
theorem d_gr_readSeen_70 : decode (q_cc m_gr_readSeen) 70 = .ok (.aload_n 0, 1) := by decide +kernel
theorem d_gr_readSeen_71 : decode (q_cc m_gr_readSeen) 71 = .ok (.getfield 9, 3) := by decide +kernel
theorem d_gr_readSeen_74 : decode (q_cc m_gr_readSeen) 74 = .ok (.bipush 9, 2) := by decide +kernel
theorem d_gr_readSeen_76 : decode (q_cc m_gr_readSeen) 76 = .ok (.invokevirtual 134, 3) := by decide +kernel
theorem d_gr_readSeen_79 : decode (q_cc m_gr_readSeen) 79 = .ok (.ifCond .eq 43, 3) := by decide +kernel
theorem d_gr_readSeen_82 : decode (q_cc m_gr_readSeen) 82 = .ok (.aload_n 0, 1) := by decide +kernel
theorem d_gr_readSeen_83 : decode (q_cc m_gr_readSeen) 83 = .ok (.aload_n 1, 1) := by decide +kernel
theorem d_gr_readSeen_84 : decode (q_cc m_gr_readSeen) 84 = .ok (.iconst 2, 1) := by decide +kernel
theorem d_gr_readSeen_85 : decode (q_cc m_gr_readSeen) 85 = .ok (.iconst 0, 1) := by decide +kernel
theorem d_gr_readSeen_86 : decode (q_cc m_gr_readSeen) 86 = .ok (.bipush 99, 2) := by decide +kernel
theorem d_gr_readSeen_88 : decode (q_cc m_gr_readSeen) 88 = .ok (.invokevirtual 114, 3) := by decide +kernel
theorem d_gr_readSeen_91 : decode (q_cc m_gr_readSeen) 91 = .ok (.ifCond .eq 31, 3) := by decide +kernel
theorem d_gr_readSeen_94 : decode (q_cc m_gr_readSeen) 94 = .ok (.aload_n 0, 1) := by decide +kernel
theorem d_gr_readSeen_95 : decode (q_cc m_gr_readSeen) 95 = .ok (.getfield 9, 3) := by decide +kernel
theorem d_gr_readSeen_98 : decode (q_cc m_gr_readSeen) 98 = .ok (.bipush 10, 2) := by decide +kernel
theorem d_gr_readSeen_100 : decode (q_cc m_gr_readSeen) 100 = .ok (.invokevirtual 134, 3) := by decide +kernel
theorem d_gr_readSeen_103 : decode (q_cc m_gr_readSeen) 103 = .ok (.ifCond .eq 19, 3) := by decide +kernel
theorem d_gr_readSeen_106 : decode (q_cc m_gr_readSeen) 106 = .ok (.aload_n 0, 1) := by decide +kernel
theorem d_gr_readSeen_107 : decode (q_cc m_gr_readSeen) 107 = .ok (.aload_n 1, 1) := by decide +kernel
theorem d_gr_readSeen_108 : decode (q_cc m_gr_readSeen) 108 = .ok (.iconst 3, 1) := by decide +kernel
theorem d_gr_readSeen_109 : decode (q_cc m_gr_readSeen) 109 = .ok (.iconst 0, 1) := by decide +kernel
theorem d_gr_readSeen_110 : decode (q_cc m_gr_readSeen) 110 = .ok (.bipush 100, 2) := by decide +kernel
theorem d_gr_readSeen_112 : decode (q_cc m_gr_readSeen) 112 = .ok (.invokevirtual 114, 3) := by decide +kernel
theorem d_gr_readSeen_115 : decode (q_cc m_gr_readSeen) 115 = .ok (.ifCond .eq 7, 3) := by decide +kernel
theorem d_gr_readSeen_118 : decode (q_cc m_gr_readSeen) 118 = .ok (.iconst 1, 1) := by decide +kernel
theorem d_gr_readSeen_119 : decode (q_cc m_gr_readSeen) 119 = .ok (.goto 4, 3) := by decide +kernel
theorem d_gr_readSeen_122 : decode (q_cc m_gr_readSeen) 122 = .ok (.iconst 0, 1) := by decide +kernel
theorem d_gr_readSeen_123 : decode (q_cc m_gr_readSeen) 123 = .ok (.istore_n 2, 1) := by decide +kernel
theorem d_gr_readSeen_124 : decode (q_cc m_gr_readSeen) 124 = .ok (.iload_n 2, 1) := by decide +kernel
theorem d_gr_readSeen_125 : decode (q_cc m_gr_readSeen) 125 = .ok (.ifCond .ne 5, 3) := by decide +kernel
theorem d_gr_readSeen_128 : decode (q_cc m_gr_readSeen) 128 = .ok (.iconst 0, 1) := by decide +kernel
theorem d_gr_readSeen_129 : decode (q_cc m_gr_readSeen) 129 = .ok (.ireturn, 1) := by decide +kernel
theorem d_gr_readSeen_130 : decode (q_cc m_gr_readSeen) 130 = .ok (.aload_n 1, 1) := by decide +kernel
theorem d_gr_readSeen_131 : decode (q_cc m_gr_readSeen) 131 = .ok (.iconst 4, 1) := by decide +kernel
theorem d_gr_readSeen_132 : decode (q_cc m_gr_readSeen) 132 = .ok (.aload_n 0, 1) := by decide +kernel
theorem d_gr_readSeen_133 : decode (q_cc m_gr_readSeen) 133 = .ok (.getfield 9, 3) := by decide +kernel
theorem d_gr_readSeen_136 : decode (q_cc m_gr_readSeen) 136 = .ok (.bipush 11, 2) := by decide +kernel
theorem d_gr_readSeen_138 : decode (q_cc m_gr_readSeen) 138 = .ok (.invokevirtual 165, 3) := by decide +kernel
theorem d_gr_readSeen_141 : decode (q_cc m_gr_readSeen) 141 = .ok (.ifCond .eq 7, 3) := by decide +kernel
theorem d_gr_readSeen_144 : decode (q_cc m_gr_readSeen) 144 = .ok (.iconst 1, 1) := by decide +kernel
theorem d_gr_readSeen_145 : decode (q_cc m_gr_readSeen) 145 = .ok (.goto 4, 3) := by decide +kernel
theorem d_gr_readSeen_148 : decode (q_cc m_gr_readSeen) 148 = .ok (.iconst 0, 1) := by decide +kernel
theorem d_gr_readSeen_149 : decode (q_cc m_gr_readSeen) 149 = .ok (.iastore, 1) := by decide +kernel
theorem d_gr_readSeen_150 : decode (q_cc m_gr_readSeen) 150 = .ok (.aload_n 1, 1) := by decide +kernel
theorem d_gr_readSeen_151 : decode (q_cc m_gr_readSeen) 151 = .ok (.iconst 4, 1) := by decide +kernel
theorem d_gr_readSeen_152 : decode (q_cc m_gr_readSeen) 152 = .ok (.iaload, 1) := by decide +kernel
theorem d_gr_readSeen_153 : decode (q_cc m_gr_readSeen) 153 = .ok (.ifCond .ne 17, 3) := by decide +kernel
theorem d_gr_readSeen_156 : decode (q_cc m_gr_readSeen) 156 = .ok (.aload_n 0, 1) := by decide +kernel
theorem d_gr_readSeen_157 : decode (q_cc m_gr_readSeen) 157 = .ok (.getfield 9, 3) := by decide +kernel
theorem d_gr_readSeen_160 : decode (q_cc m_gr_readSeen) 160 = .ok (.bipush 12, 2) := by decide +kernel
theorem d_gr_readSeen_162 : decode (q_cc m_gr_readSeen) 162 = .ok (.invokevirtual 134, 3) := by decide +kernel
theorem d_gr_readSeen_165 : decode (q_cc m_gr_readSeen) 165 = .ok (.ifCond .ne 5, 3) := by decide +kernel
theorem d_gr_readSeen_168 : decode (q_cc m_gr_readSeen) 168 = .ok (.iconst 0, 1) := by decide +kernel
theorem d_gr_readSeen_169 : decode (q_cc m_gr_readSeen) 169 = .ok (.ireturn, 1) := by decide +kernel
theorem d_gr_readSeen_170 : decode (q_cc m_gr_readSeen) 170 = .ok (.aload_n 0, 1) := by decide +kernel
theorem d_gr_readSeen_171 : decode (q_cc m_gr_readSeen) 171 = .ok (.getfield 24, 3) := by decide +kernel
theorem d_gr_readSeen_174 : decode (q_cc m_gr_readSeen) 174 = .ok (.getfield 121, 3) := by decide +kernel
theorem d_gr_readSeen_177 : decode (q_cc m_gr_readSeen) 177 = .ok (.iconst 4, 1) := by decide +kernel
theorem d_gr_readSeen_178 : decode (q_cc m_gr_readSeen) 178 = .ok (.dup2, 1) := by decide +kernel
theorem d_gr_readSeen_179 : decode (q_cc m_gr_readSeen) 179 = .ok (.iaload, 1) := by decide +kernel
theorem d_gr_readSeen_180 : decode (q_cc m_gr_readSeen) 180 = .ok (.iconst 1, 1) := by decide +kernel
theorem d_gr_readSeen_181 : decode (q_cc m_gr_readSeen) 181 = .ok (.iadd, 1) := by decide +kernel
theorem d_gr_readSeen_182 : decode (q_cc m_gr_readSeen) 182 = .ok (.iastore, 1) := by decide +kernel
theorem d_gr_readSeen_183 : decode (q_cc m_gr_readSeen) 183 = .ok (.iconst 1, 1) := by decide +kernel
theorem d_gr_readSeen_184 : decode (q_cc m_gr_readSeen) 184 = .ok (.ireturn, 1) := by decide +kernel
theorem d_gr_readTithe_0 : decode (q_cc m_gr_readTithe) 0 = .ok (.aload_n 0, 1) := by decide +kernel
theorem d_gr_readTithe_1 : decode (q_cc m_gr_readTithe) 1 = .ok (.getfield 9, 3) := by decide +kernel
theorem d_gr_readTithe_4 : decode (q_cc m_gr_readTithe) 4 = .ok (.iconst 0, 1) := by decide +kernel
theorem d_gr_readTithe_5 : decode (q_cc m_gr_readTithe) 5 = .ok (.bipush 100, 2) := by decide +kernel
theorem d_gr_readTithe_7 : decode (q_cc m_gr_readTithe) 7 = .ok (.invokevirtual 155, 3) := by decide +kernel
theorem d_gr_readTithe_10 : decode (q_cc m_gr_readTithe) 10 = .ok (.ifCond .ne 5, 3) := by decide +kernel
theorem d_gr_readTithe_13 : decode (q_cc m_gr_readTithe) 13 = .ok (.iconst 0, 1) := by decide +kernel
theorem d_gr_readTithe_14 : decode (q_cc m_gr_readTithe) 14 = .ok (.ireturn, 1) := by decide +kernel
theorem d_gr_readTithe_15 : decode (q_cc m_gr_readTithe) 15 = .ok (.aload_n 0, 1) := by decide +kernel
theorem d_gr_readTithe_16 : decode (q_cc m_gr_readTithe) 16 = .ok (.getfield 24, 3) := by decide +kernel
theorem d_gr_readTithe_19 : decode (q_cc m_gr_readTithe) 19 = .ok (.aload_n 0, 1) := by decide +kernel
theorem d_gr_readTithe_20 : decode (q_cc m_gr_readTithe) 20 = .ok (.getfield 9, 3) := by decide +kernel
theorem d_gr_readTithe_23 : decode (q_cc m_gr_readTithe) 23 = .ok (.getfield 149, 3) := by decide +kernel
theorem d_gr_readTithe_26 : decode (q_cc m_gr_readTithe) 26 = .ok (.putfield 168, 3) := by decide +kernel
theorem d_gr_readTithe_29 : decode (q_cc m_gr_readTithe) 29 = .ok (.iconst 1, 1) := by decide +kernel
theorem d_gr_readTithe_30 : decode (q_cc m_gr_readTithe) 30 = .ok (.ireturn, 1) := by decide +kernel
theorem d_gr_readNumber_0 : decode (q_cc m_gr_readNumber) 0 = .ok (.aload_n 0, 1) := by decide +kernel
theorem d_gr_readNumber_1 : decode (q_cc m_gr_readNumber) 1 = .ok (.getfield 9, 3) := by decide +kernel
theorem d_gr_readNumber_4 : decode (q_cc m_gr_readNumber) 4 = .ok (.iload_n 3, 1) := by decide +kernel
theorem d_gr_readNumber_5 : decode (q_cc m_gr_readNumber) 5 = .ok (.iload 4, 2) := by decide +kernel
theorem d_gr_readNumber_7 : decode (q_cc m_gr_readNumber) 7 = .ok (.invokevirtual 155, 3) := by decide +kernel
theorem d_gr_readNumber_10 : decode (q_cc m_gr_readNumber) 10 = .ok (.ifCond .ne 5, 3) := by decide +kernel
theorem d_gr_readNumber_13 : decode (q_cc m_gr_readNumber) 13 = .ok (.iconst 0, 1) := by decide +kernel
theorem d_gr_readNumber_14 : decode (q_cc m_gr_readNumber) 14 = .ok (.ireturn, 1) := by decide +kernel
theorem d_gr_readNumber_15 : decode (q_cc m_gr_readNumber) 15 = .ok (.aload_n 1, 1) := by decide +kernel
theorem d_gr_readNumber_16 : decode (q_cc m_gr_readNumber) 16 = .ok (.iload_n 2, 1) := by decide +kernel
theorem d_gr_readNumber_17 : decode (q_cc m_gr_readNumber) 17 = .ok (.aload_n 0, 1) := by decide +kernel
theorem d_gr_readNumber_18 : decode (q_cc m_gr_readNumber) 18 = .ok (.getfield 9, 3) := by decide +kernel
theorem d_gr_readNumber_21 : decode (q_cc m_gr_readNumber) 21 = .ok (.getfield 149, 3) := by decide +kernel
theorem d_gr_readNumber_24 : decode (q_cc m_gr_readNumber) 24 = .ok (.iastore, 1) := by decide +kernel
theorem d_gr_readNumber_25 : decode (q_cc m_gr_readNumber) 25 = .ok (.iconst 1, 1) := by decide +kernel
theorem d_gr_readNumber_26 : decode (q_cc m_gr_readNumber) 26 = .ok (.ireturn, 1) := by decide +kernel
theorem d_gr_readForTraits_0 : decode (q_cc m_gr_readForTraits) 0 = .ok (.iconst 0, 1) := by decide +kernel
theorem d_gr_readForTraits_1 : decode (q_cc m_gr_readForTraits) 1 = .ok (.istore_n 3, 1) := by decide +kernel
theorem d_gr_readForTraits_2 : decode (q_cc m_gr_readForTraits) 2 = .ok (.iload_n 3, 1) := by decide +kernel
theorem d_gr_readForTraits_3 : decode (q_cc m_gr_readForTraits) 3 = .ok (.aload_n 0, 1) := by decide +kernel
theorem d_gr_readForTraits_4 : decode (q_cc m_gr_readForTraits) 4 = .ok (.getfield 24, 3) := by decide +kernel
theorem d_gr_readForTraits_7 : decode (q_cc m_gr_readForTraits) 7 = .ok (.getfield 121, 3) := by decide +kernel
theorem d_gr_readForTraits_10 : decode (q_cc m_gr_readForTraits) 10 = .ok (.iconst 0, 1) := by decide +kernel
theorem d_gr_readForTraits_11 : decode (q_cc m_gr_readForTraits) 11 = .ok (.iaload, 1) := by decide +kernel
theorem d_gr_readForTraits_12 : decode (q_cc m_gr_readForTraits) 12 = .ok (.if_icmp .ge 22, 3) := by decide +kernel
theorem d_gr_readForTraits_15 : decode (q_cc m_gr_readForTraits) 15 = .ok (.aload_n 0, 1) := by decide +kernel
theorem d_gr_readForTraits_16 : decode (q_cc m_gr_readForTraits) 16 = .ok (.aload_n 1, 1) := by decide +kernel
theorem d_gr_readForTraits_17 : decode (q_cc m_gr_readForTraits) 17 = .ok (.iload_n 3, 1) := by decide +kernel
theorem d_gr_readForTraits_18 : decode (q_cc m_gr_readForTraits) 18 = .ok (.iconst 0, 1) := by decide +kernel
theorem d_gr_readForTraits_19 : decode (q_cc m_gr_readForTraits) 19 = .ok (.iload_n 2, 1) := by decide +kernel
theorem d_gr_readForTraits_20 : decode (q_cc m_gr_readForTraits) 20 = .ok (.invokevirtual 114, 3) := by decide +kernel
theorem d_gr_readForTraits_23 : decode (q_cc m_gr_readForTraits) 23 = .ok (.ifCond .ne 5, 3) := by decide +kernel
theorem d_gr_readForTraits_26 : decode (q_cc m_gr_readForTraits) 26 = .ok (.iconst 0, 1) := by decide +kernel
theorem d_gr_readForTraits_27 : decode (q_cc m_gr_readForTraits) 27 = .ok (.ireturn, 1) := by decide +kernel
theorem d_gr_readForTraits_28 : decode (q_cc m_gr_readForTraits) 28 = .ok (.iinc 3 1, 3) := by decide +kernel
theorem d_gr_readForTraits_31 : decode (q_cc m_gr_readForTraits) 31 = .ok (.goto (-29), 3) := by decide +kernel
theorem d_gr_readForTraits_34 : decode (q_cc m_gr_readForTraits) 34 = .ok (.iconst 1, 1) := by decide +kernel
theorem d_gr_readForTraits_35 : decode (q_cc m_gr_readForTraits) 35 = .ok (.ireturn, 1) := by decide +kernel
theorem d_gr_readNewName_0 : decode (q_cc m_gr_readNewName) 0 = .ok (.aload_n 0, 1) := by decide +kernel
theorem d_gr_readNewName_1 : decode (q_cc m_gr_readNewName) 1 = .ok (.getfield 9, 3) := by decide +kernel
theorem d_gr_readNewName_4 : decode (q_cc m_gr_readNewName) 4 = .ok (.invokevirtual 171, 3) := by decide +kernel
theorem d_gr_readNewName_7 : decode (q_cc m_gr_readNewName) 7 = .ok (.ifCond .ne 5, 3) := by decide +kernel
theorem d_gr_readNewName_10 : decode (q_cc m_gr_readNewName) 10 = .ok (.iconst 0, 1) := by decide +kernel
theorem d_gr_readNewName_11 : decode (q_cc m_gr_readNewName) 11 = .ok (.ireturn, 1) := by decide +kernel
theorem d_gr_readNewName_12 : decode (q_cc m_gr_readNewName) 12 = .ok (.aload_n 0, 1) := by decide +kernel
theorem d_gr_readNewName_13 : decode (q_cc m_gr_readNewName) 13 = .ok (.getfield 24, 3) := by decide +kernel
theorem d_gr_readNewName_16 : decode (q_cc m_gr_readNewName) 16 = .ok (.aload_n 0, 1) := by decide +kernel
theorem d_gr_readNewName_17 : decode (q_cc m_gr_readNewName) 17 = .ok (.getfield 9, 3) := by decide +kernel
theorem d_gr_readNewName_20 : decode (q_cc m_gr_readNewName) 20 = .ok (.getfield 149, 3) := by decide +kernel
theorem d_gr_readNewName_23 : decode (q_cc m_gr_readNewName) 23 = .ok (.invokevirtual 174, 3) := by decide +kernel
theorem d_gr_readNewName_26 : decode (q_cc m_gr_readNewName) 26 = .ok (.ifCond .eq 19, 3) := by decide +kernel
theorem d_gr_readNewName_29 : decode (q_cc m_gr_readNewName) 29 = .ok (.aload_n 0, 1) := by decide +kernel
theorem d_gr_readNewName_30 : decode (q_cc m_gr_readNewName) 30 = .ok (.getfield 9, 3) := by decide +kernel
theorem d_gr_readNewName_33 : decode (q_cc m_gr_readNewName) 33 = .ok (.iconst 3, 1) := by decide +kernel
theorem d_gr_readNewName_34 : decode (q_cc m_gr_readNewName) 34 = .ok (.aload_n 0, 1) := by decide +kernel
theorem d_gr_readNewName_35 : decode (q_cc m_gr_readNewName) 35 = .ok (.getfield 9, 3) := by decide +kernel
theorem d_gr_readNewName_38 : decode (q_cc m_gr_readNewName) 38 = .ok (.getfield 152, 3) := by decide +kernel
theorem d_gr_readNewName_41 : decode (q_cc m_gr_readNewName) 41 = .ok (.invokevirtual 58, 3) := by decide +kernel
theorem d_gr_readNewName_44 : decode (q_cc m_gr_readNewName) 44 = .ok (.ireturn, 1) := by decide +kernel
theorem d_gr_readNewName_45 : decode (q_cc m_gr_readNewName) 45 = .ok (.aload_n 0, 1) := by decide +kernel
theorem d_gr_readNewName_46 : decode (q_cc m_gr_readNewName) 46 = .ok (.getfield 24, 3) := by decide +kernel
theorem d_gr_readNewName_49 : decode (q_cc m_gr_readNewName) 49 = .ok (.iload_n 1, 1) := by decide +kernel
theorem d_gr_readNewName_50 : decode (q_cc m_gr_readNewName) 50 = .ok (.aload_n 0, 1) := by decide +kernel
theorem d_gr_readNewName_51 : decode (q_cc m_gr_readNewName) 51 = .ok (.getfield 9, 3) := by decide +kernel
theorem d_gr_readNewName_54 : decode (q_cc m_gr_readNewName) 54 = .ok (.getfield 149, 3) := by decide +kernel
theorem d_gr_readNewName_57 : decode (q_cc m_gr_readNewName) 57 = .ok (.invokevirtual 177, 3) := by decide +kernel
theorem d_gr_readNewName_60 : decode (q_cc m_gr_readNewName) 60 = .ok (.iconst 1, 1) := by decide +kernel
theorem d_gr_readNewName_61 : decode (q_cc m_gr_readNewName) 61 = .ok (.ireturn, 1) := by decide +kernel
theorem d_gr_readKnownName_0 : decode (q_cc m_gr_readKnownName) 0 = .ok (.aload_n 0, 1) := by decide +kernel
theorem d_gr_readKnownName_1 : decode (q_cc m_gr_readKnownName) 1 = .ok (.getfield 9, 3) := by decide +kernel
theorem d_gr_readKnownName_4 : decode (q_cc m_gr_readKnownName) 4 = .ok (.invokevirtual 171, 3) := by decide +kernel
theorem d_gr_readKnownName_7 : decode (q_cc m_gr_readKnownName) 7 = .ok (.ifCond .ne 5, 3) := by decide +kernel
theorem d_gr_readKnownName_10 : decode (q_cc m_gr_readKnownName) 10 = .ok (.iconst 0, 1) := by decide +kernel
theorem d_gr_readKnownName_11 : decode (q_cc m_gr_readKnownName) 11 = .ok (.ireturn, 1) := by decide +kernel
theorem d_gr_readKnownName_12 : decode (q_cc m_gr_readKnownName) 12 = .ok (.aload_n 0, 1) := by decide +kernel
theorem d_gr_readKnownName_13 : decode (q_cc m_gr_readKnownName) 13 = .ok (.getfield 9, 3) := by decide +kernel
theorem d_gr_readKnownName_16 : decode (q_cc m_gr_readKnownName) 16 = .ok (.aload_n 0, 1) := by decide +kernel
theorem d_gr_readKnownName_17 : decode (q_cc m_gr_readKnownName) 17 = .ok (.getfield 24, 3) := by decide +kernel
theorem d_gr_readKnownName_20 : decode (q_cc m_gr_readKnownName) 20 = .ok (.iload_n 1, 1) := by decide +kernel
theorem d_gr_readKnownName_21 : decode (q_cc m_gr_readKnownName) 21 = .ok (.aload_n 0, 1) := by decide +kernel
theorem d_gr_readKnownName_22 : decode (q_cc m_gr_readKnownName) 22 = .ok (.getfield 9, 3) := by decide +kernel
theorem d_gr_readKnownName_25 : decode (q_cc m_gr_readKnownName) 25 = .ok (.getfield 149, 3) := by decide +kernel
theorem d_gr_readKnownName_28 : decode (q_cc m_gr_readKnownName) 28 = .ok (.invokevirtual 181, 3) := by decide +kernel
theorem d_gr_readKnownName_31 : decode (q_cc m_gr_readKnownName) 31 = .ok (.putfield 149, 3) := by decide +kernel
theorem d_gr_readKnownName_34 : decode (q_cc m_gr_readKnownName) 34 = .ok (.aload_n 0, 1) := by decide +kernel
theorem d_gr_readKnownName_35 : decode (q_cc m_gr_readKnownName) 35 = .ok (.getfield 9, 3) := by decide +kernel
theorem d_gr_readKnownName_38 : decode (q_cc m_gr_readKnownName) 38 = .ok (.getfield 149, 3) := by decide +kernel
theorem d_gr_readKnownName_41 : decode (q_cc m_gr_readKnownName) 41 = .ok (.iconst (-1), 1) := by decide +kernel
theorem d_gr_readKnownName_42 : decode (q_cc m_gr_readKnownName) 42 = .ok (.if_icmp .ne 21, 3) := by decide +kernel
theorem d_gr_readKnownName_45 : decode (q_cc m_gr_readKnownName) 45 = .ok (.aload_n 0, 1) := by decide +kernel
theorem d_gr_readKnownName_46 : decode (q_cc m_gr_readKnownName) 46 = .ok (.getfield 9, 3) := by decide +kernel
theorem d_gr_readKnownName_49 : decode (q_cc m_gr_readKnownName) 49 = .ok (.iconst 3, 1) := by decide +kernel
theorem d_gr_readKnownName_50 : decode (q_cc m_gr_readKnownName) 50 = .ok (.aload_n 0, 1) := by decide +kernel
theorem d_gr_readKnownName_51 : decode (q_cc m_gr_readKnownName) 51 = .ok (.getfield 9, 3) := by decide +kernel
theorem d_gr_readKnownName_54 : decode (q_cc m_gr_readKnownName) 54 = .ok (.getfield 152, 3) := by decide +kernel
theorem d_gr_readKnownName_57 : decode (q_cc m_gr_readKnownName) 57 = .ok (.invokevirtual 58, 3) := by decide +kernel
theorem d_gr_readKnownName_60 : decode (q_cc m_gr_readKnownName) 60 = .ok (.ifCond .eq 7, 3) := by decide +kernel
theorem d_gr_readKnownName_63 : decode (q_cc m_gr_readKnownName) 63 = .ok (.iconst 1, 1) := by decide +kernel
theorem d_gr_readKnownName_64 : decode (q_cc m_gr_readKnownName) 64 = .ok (.goto 4, 3) := by decide +kernel
theorem d_gr_readKnownName_67 : decode (q_cc m_gr_readKnownName) 67 = .ok (.iconst 0, 1) := by decide +kernel
theorem d_gr_readKnownName_68 : decode (q_cc m_gr_readKnownName) 68 = .ok (.ireturn, 1) := by decide +kernel
theorem d_hi_init_0 : decode (q_cc m_hi_init) 0 = .ok (.aload_n 0, 1) := by decide +kernel
theorem d_hi_init_1 : decode (q_cc m_hi_init) 1 = .ok (.invokespecial 3, 3) := by decide +kernel
theorem d_hi_init_4 : decode (q_cc m_hi_init) 4 = .ok (.aload_n 0, 1) := by decide +kernel
theorem d_hi_init_5 : decode (q_cc m_hi_init) 5 = .ok (.bipush 24, 2) := by decide +kernel
theorem d_hi_init_7 : decode (q_cc m_hi_init) 7 = .ok (.newarray .int, 2) := by decide +kernel
theorem d_hi_init_9 : decode (q_cc m_hi_init) 9 = .ok (.putfield 9, 3) := by decide +kernel
theorem d_hi_init_12 : decode (q_cc m_hi_init) 12 = .ok (.aload_n 0, 1) := by decide +kernel
theorem d_hi_init_13 : decode (q_cc m_hi_init) 13 = .ok (.bipush 30, 2) := by decide +kernel
theorem d_hi_init_15 : decode (q_cc m_hi_init) 15 = .ok (.bipush 24, 2) := by decide +kernel
theorem d_hi_init_17 : decode (q_cc m_hi_init) 17 = .ok (.multianewarray 15 2, 4) := by decide +kernel
theorem d_hi_init_21 : decode (q_cc m_hi_init) 21 = .ok (.putfield 17, 3) := by decide +kernel
theorem d_hi_init_24 : decode (q_cc m_hi_init) 24 = .ok (.aload_n 0, 1) := by decide +kernel
theorem d_hi_init_25 : decode (q_cc m_hi_init) 25 = .ok (.invokevirtual 20, 3) := by decide +kernel
theorem d_hi_init_28 : decode (q_cc m_hi_init) 28 = .ok (.return_, 1) := by decide +kernel
theorem d_hi_clear_0 : decode (q_cc m_hi_clear) 0 = .ok (.aload_n 0, 1) := by decide +kernel
theorem d_hi_clear_1 : decode (q_cc m_hi_clear) 1 = .ok (.iconst 0, 1) := by decide +kernel
theorem d_hi_clear_2 : decode (q_cc m_hi_clear) 2 = .ok (.putfield 23, 3) := by decide +kernel
theorem d_hi_clear_5 : decode (q_cc m_hi_clear) 5 = .ok (.iconst 0, 1) := by decide +kernel
theorem d_hi_clear_6 : decode (q_cc m_hi_clear) 6 = .ok (.istore_n 1, 1) := by decide +kernel
theorem d_hi_clear_7 : decode (q_cc m_hi_clear) 7 = .ok (.iload_n 1, 1) := by decide +kernel
theorem d_hi_clear_8 : decode (q_cc m_hi_clear) 8 = .ok (.bipush 24, 2) := by decide +kernel
theorem d_hi_clear_10 : decode (q_cc m_hi_clear) 10 = .ok (.if_icmp .ge 16, 3) := by decide +kernel
theorem d_hi_clear_13 : decode (q_cc m_hi_clear) 13 = .ok (.aload_n 0, 1) := by decide +kernel
theorem d_hi_clear_14 : decode (q_cc m_hi_clear) 14 = .ok (.getfield 9, 3) := by decide +kernel
theorem d_hi_clear_17 : decode (q_cc m_hi_clear) 17 = .ok (.iload_n 1, 1) := by decide +kernel
theorem d_hi_clear_18 : decode (q_cc m_hi_clear) 18 = .ok (.iconst (-1), 1) := by decide +kernel
theorem d_hi_clear_19 : decode (q_cc m_hi_clear) 19 = .ok (.iastore, 1) := by decide +kernel
theorem d_hi_clear_20 : decode (q_cc m_hi_clear) 20 = .ok (.iinc 1 1, 3) := by decide +kernel
theorem d_hi_clear_23 : decode (q_cc m_hi_clear) 23 = .ok (.goto (-16), 3) := by decide +kernel
theorem d_hi_clear_26 : decode (q_cc m_hi_clear) 26 = .ok (.return_, 1) := by decide +kernel
theorem d_hi_held_0 : decode (q_cc m_hi_held) 0 = .ok (.iconst 0, 1) := by decide +kernel
theorem d_hi_held_1 : decode (q_cc m_hi_held) 1 = .ok (.istore_n 3, 1) := by decide +kernel
theorem d_hi_held_2 : decode (q_cc m_hi_held) 2 = .ok (.iconst 0, 1) := by decide +kernel
theorem d_hi_held_3 : decode (q_cc m_hi_held) 3 = .ok (.istore 4, 2) := by decide +kernel
theorem d_hi_held_5 : decode (q_cc m_hi_held) 5 = .ok (.iload 4, 2) := by decide +kernel
theorem d_hi_held_7 : decode (q_cc m_hi_held) 7 = .ok (.iload_n 2, 1) := by decide +kernel
theorem d_hi_held_8 : decode (q_cc m_hi_held) 8 = .ok (.if_icmp .ge 27, 3) := by decide +kernel
theorem d_hi_held_11 : decode (q_cc m_hi_held) 11 = .ok (.aload_n 0, 1) := by decide +kernel
theorem d_hi_held_12 : decode (q_cc m_hi_held) 12 = .ok (.getfield 9, 3) := by decide +kernel
theorem d_hi_held_15 : decode (q_cc m_hi_held) 15 = .ok (.iload 4, 2) := by decide +kernel
theorem d_hi_held_17 : decode (q_cc m_hi_held) 17 = .ok (.iaload, 1) := by decide +kernel
theorem d_hi_held_18 : decode (q_cc m_hi_held) 18 = .ok (.iload_n 1, 1) := by decide +kernel
theorem d_hi_held_19 : decode (q_cc m_hi_held) 19 = .ok (.if_icmp .ne 10, 3) := by decide +kernel
theorem d_hi_held_22 : decode (q_cc m_hi_held) 22 = .ok (.iload_n 3, 1) := by decide +kernel
theorem d_hi_held_23 : decode (q_cc m_hi_held) 23 = .ok (.iconst 1, 1) := by decide +kernel
theorem d_hi_held_24 : decode (q_cc m_hi_held) 24 = .ok (.iload 4, 2) := by decide +kernel
theorem d_hi_held_26 : decode (q_cc m_hi_held) 26 = .ok (.ishl, 1) := by decide +kernel
theorem d_hi_held_27 : decode (q_cc m_hi_held) 27 = .ok (.ior, 1) := by decide +kernel
theorem d_hi_held_28 : decode (q_cc m_hi_held) 28 = .ok (.istore_n 3, 1) := by decide +kernel
theorem d_hi_held_29 : decode (q_cc m_hi_held) 29 = .ok (.iinc 4 1, 3) := by decide +kernel
theorem d_hi_held_32 : decode (q_cc m_hi_held) 32 = .ok (.goto (-27), 3) := by decide +kernel
theorem d_hi_held_35 : decode (q_cc m_hi_held) 35 = .ok (.iload_n 3, 1) := by decide +kernel
theorem d_hi_held_36 : decode (q_cc m_hi_held) 36 = .ok (.ireturn, 1) := by decide +kernel
theorem d_hi_remember_0 : decode (q_cc m_hi_remember) 0 = .ok (.aload_n 0, 1) := by decide +kernel
theorem d_hi_remember_1 : decode (q_cc m_hi_remember) 1 = .ok (.getfield 27, 3) := by decide +kernel
theorem d_hi_remember_4 : decode (q_cc m_hi_remember) 4 = .ok (.aload_n 0, 1) := by decide +kernel
theorem d_hi_remember_5 : decode (q_cc m_hi_remember) 5 = .ok (.getfield 23, 3) := by decide +kernel
theorem d_hi_remember_8 : decode (q_cc m_hi_remember) 8 = .ok (.iadd, 1) := by decide +kernel
theorem d_hi_remember_9 : decode (q_cc m_hi_remember) 9 = .ok (.bipush 30, 2) := by decide +kernel
theorem d_hi_remember_11 : decode (q_cc m_hi_remember) 11 = .ok (.irem, 1) := by decide +kernel
theorem d_hi_remember_12 : decode (q_cc m_hi_remember) 12 = .ok (.istore_n 1, 1) := by decide +kernel
theorem d_hi_remember_13 : decode (q_cc m_hi_remember) 13 = .ok (.aload_n 0, 1) := by decide +kernel
theorem d_hi_remember_14 : decode (q_cc m_hi_remember) 14 = .ok (.getfield 9, 3) := by decide +kernel
theorem d_hi_remember_17 : decode (q_cc m_hi_remember) 17 = .ok (.iconst 0, 1) := by decide +kernel
theorem d_hi_remember_18 : decode (q_cc m_hi_remember) 18 = .ok (.aload_n 0, 1) := by decide +kernel
theorem d_hi_remember_19 : decode (q_cc m_hi_remember) 19 = .ok (.getfield 17, 3) := by decide +kernel
theorem d_hi_remember_22 : decode (q_cc m_hi_remember) 22 = .ok (.iload_n 1, 1) := by decide +kernel
theorem d_hi_remember_23 : decode (q_cc m_hi_remember) 23 = .ok (.aaload, 1) := by decide +kernel
theorem d_hi_remember_24 : decode (q_cc m_hi_remember) 24 = .ok (.iconst 0, 1) := by decide +kernel
theorem d_hi_remember_25 : decode (q_cc m_hi_remember) 25 = .ok (.bipush 24, 2) := by decide +kernel
theorem d_hi_remember_27 : decode (q_cc m_hi_remember) 27 = .ok (.invokestatic 30, 3) := by decide +kernel
theorem d_hi_remember_30 : decode (q_cc m_hi_remember) 30 = .ok (.aload_n 0, 1) := by decide +kernel
theorem d_hi_remember_31 : decode (q_cc m_hi_remember) 31 = .ok (.getfield 23, 3) := by decide +kernel
theorem d_hi_remember_34 : decode (q_cc m_hi_remember) 34 = .ok (.bipush 30, 2) := by decide +kernel
theorem d_hi_remember_36 : decode (q_cc m_hi_remember) 36 = .ok (.if_icmp .ge 16, 3) := by decide +kernel
theorem d_hi_remember_39 : decode (q_cc m_hi_remember) 39 = .ok (.aload_n 0, 1) := by decide +kernel
theorem d_hi_remember_40 : decode (q_cc m_hi_remember) 40 = .ok (.dup, 1) := by decide +kernel
theorem d_hi_remember_41 : decode (q_cc m_hi_remember) 41 = .ok (.getfield 23, 3) := by decide +kernel
theorem d_hi_remember_44 : decode (q_cc m_hi_remember) 44 = .ok (.iconst 1, 1) := by decide +kernel
theorem d_hi_remember_45 : decode (q_cc m_hi_remember) 45 = .ok (.iadd, 1) := by decide +kernel
theorem d_hi_remember_46 : decode (q_cc m_hi_remember) 46 = .ok (.putfield 23, 3) := by decide +kernel
theorem d_hi_remember_49 : decode (q_cc m_hi_remember) 49 = .ok (.goto 16, 3) := by decide +kernel
theorem d_hi_remember_52 : decode (q_cc m_hi_remember) 52 = .ok (.aload_n 0, 1) := by decide +kernel
theorem d_hi_remember_53 : decode (q_cc m_hi_remember) 53 = .ok (.aload_n 0, 1) := by decide +kernel
theorem d_hi_remember_54 : decode (q_cc m_hi_remember) 54 = .ok (.getfield 27, 3) := by decide +kernel
theorem d_hi_remember_57 : decode (q_cc m_hi_remember) 57 = .ok (.iconst 1, 1) := by decide +kernel
theorem d_hi_remember_58 : decode (q_cc m_hi_remember) 58 = .ok (.iadd, 1) := by decide +kernel
theorem d_hi_remember_59 : decode (q_cc m_hi_remember) 59 = .ok (.bipush 30, 2) := by decide +kernel
theorem d_hi_remember_61 : decode (q_cc m_hi_remember) 61 = .ok (.irem, 1) := by decide +kernel
theorem d_hi_remember_62 : decode (q_cc m_hi_remember) 62 = .ok (.putfield 27, 3) := by decide +kernel
theorem d_hi_remember_65 : decode (q_cc m_hi_remember) 65 = .ok (.return_, 1) := by decide +kernel
theorem d_hi_takeBack_0 : decode (q_cc m_hi_takeBack) 0 = .ok (.aload_n 0, 1) := by decide +kernel
theorem d_hi_takeBack_1 : decode (q_cc m_hi_takeBack) 1 = .ok (.getfield 23, 3) := by decide +kernel
theorem d_hi_takeBack_4 : decode (q_cc m_hi_takeBack) 4 = .ok (.ifCond .ne 5, 3) := by decide +kernel
theorem d_hi_takeBack_7 : decode (q_cc m_hi_takeBack) 7 = .ok (.iconst 0, 1) := by decide +kernel
theorem d_hi_takeBack_8 : decode (q_cc m_hi_takeBack) 8 = .ok (.ireturn, 1) := by decide +kernel
theorem d_hi_takeBack_9 : decode (q_cc m_hi_takeBack) 9 = .ok (.aload_n 0, 1) := by decide +kernel
theorem d_hi_takeBack_10 : decode (q_cc m_hi_takeBack) 10 = .ok (.dup, 1) := by decide +kernel
theorem d_hi_takeBack_11 : decode (q_cc m_hi_takeBack) 11 = .ok (.getfield 23, 3) := by decide +kernel
theorem d_hi_takeBack_14 : decode (q_cc m_hi_takeBack) 14 = .ok (.iconst 1, 1) := by decide +kernel
theorem d_hi_takeBack_15 : decode (q_cc m_hi_takeBack) 15 = .ok (.isub, 1) := by decide +kernel
theorem d_hi_takeBack_16 : decode (q_cc m_hi_takeBack) 16 = .ok (.putfield 23, 3) := by decide +kernel
theorem d_hi_takeBack_19 : decode (q_cc m_hi_takeBack) 19 = .ok (.aload_n 0, 1) := by decide +kernel
theorem d_hi_takeBack_20 : decode (q_cc m_hi_takeBack) 20 = .ok (.getfield 27, 3) := by decide +kernel
theorem d_hi_takeBack_23 : decode (q_cc m_hi_takeBack) 23 = .ok (.aload_n 0, 1) := by decide +kernel
theorem d_hi_takeBack_24 : decode (q_cc m_hi_takeBack) 24 = .ok (.getfield 23, 3) := by decide +kernel
theorem d_hi_takeBack_27 : decode (q_cc m_hi_takeBack) 27 = .ok (.iadd, 1) := by decide +kernel
theorem d_hi_takeBack_28 : decode (q_cc m_hi_takeBack) 28 = .ok (.bipush 30, 2) := by decide +kernel
theorem d_hi_takeBack_30 : decode (q_cc m_hi_takeBack) 30 = .ok (.irem, 1) := by decide +kernel
theorem d_hi_takeBack_31 : decode (q_cc m_hi_takeBack) 31 = .ok (.istore_n 1, 1) := by decide +kernel
theorem d_hi_takeBack_32 : decode (q_cc m_hi_takeBack) 32 = .ok (.aload_n 0, 1) := by decide +kernel
theorem d_hi_takeBack_33 : decode (q_cc m_hi_takeBack) 33 = .ok (.getfield 17, 3) := by decide +kernel
theorem d_hi_takeBack_36 : decode (q_cc m_hi_takeBack) 36 = .ok (.iload_n 1, 1) := by decide +kernel
theorem d_hi_takeBack_37 : decode (q_cc m_hi_takeBack) 37 = .ok (.aaload, 1) := by decide +kernel
theorem d_hi_takeBack_38 : decode (q_cc m_hi_takeBack) 38 = .ok (.iconst 0, 1) := by decide +kernel
theorem d_hi_takeBack_39 : decode (q_cc m_hi_takeBack) 39 = .ok (.aload_n 0, 1) := by decide +kernel
theorem d_hi_takeBack_40 : decode (q_cc m_hi_takeBack) 40 = .ok (.getfield 9, 3) := by decide +kernel
theorem d_hi_takeBack_43 : decode (q_cc m_hi_takeBack) 43 = .ok (.iconst 0, 1) := by decide +kernel
theorem d_hi_takeBack_44 : decode (q_cc m_hi_takeBack) 44 = .ok (.bipush 24, 2) := by decide +kernel
theorem d_hi_takeBack_46 : decode (q_cc m_hi_takeBack) 46 = .ok (.invokestatic 30, 3) := by decide +kernel
theorem d_hi_takeBack_49 : decode (q_cc m_hi_takeBack) 49 = .ok (.iconst 1, 1) := by decide +kernel
theorem d_hi_takeBack_50 : decode (q_cc m_hi_takeBack) 50 = .ok (.ireturn, 1) := by decide +kernel
theorem d_ru_init_0 : decode (q_cc m_ru_init) 0 = .ok (.aload_n 0, 1) := by decide +kernel
theorem d_ru_init_1 : decode (q_cc m_ru_init) 1 = .ok (.invokespecial 3, 3) := by decide +kernel
theorem d_ru_init_4 : decode (q_cc m_ru_init) 4 = .ok (.aload_n 0, 1) := by decide +kernel
theorem d_ru_init_5 : decode (q_cc m_ru_init) 5 = .ok (.sipush 1600, 3) := by decide +kernel
theorem d_ru_init_8 : decode (q_cc m_ru_init) 8 = .ok (.newarray .int, 2) := by decide +kernel
theorem d_ru_init_10 : decode (q_cc m_ru_init) 10 = .ok (.putfield 9, 3) := by decide +kernel
theorem d_ru_init_13 : decode (q_cc m_ru_init) 13 = .ok (.aload_n 0, 1) := by decide +kernel
theorem d_ru_init_14 : decode (q_cc m_ru_init) 14 = .ok (.bipush 7, 2) := by decide +kernel
theorem d_ru_init_16 : decode (q_cc m_ru_init) 16 = .ok (.newarray .int, 2) := by decide +kernel
theorem d_ru_init_18 : decode (q_cc m_ru_init) 18 = .ok (.putfield 15, 3) := by decide +kernel
theorem d_ru_init_21 : decode (q_cc m_ru_init) 21 = .ok (.aload_n 0, 1) := by decide +kernel
theorem d_ru_init_22 : decode (q_cc m_ru_init) 22 = .ok (.bipush 6, 2) := by decide +kernel
theorem d_ru_init_24 : decode (q_cc m_ru_init) 24 = .ok (.newarray .int, 2) := by decide +kernel
theorem d_ru_init_26 : decode (q_cc m_ru_init) 26 = .ok (.putfield 18, 3) := by decide +kernel
theorem d_ru_init_29 : decode (q_cc m_ru_init) 29 = .ok (.aload_n 0, 1) := by decide +kernel
theorem d_ru_init_30 : decode (q_cc m_ru_init) 30 = .ok (.bipush 25, 2) := by decide +kernel
theorem d_ru_init_32 : decode (q_cc m_ru_init) 32 = .ok (.newarray .int, 2) := by decide +kernel
theorem d_ru_init_34 : decode (q_cc m_ru_init) 34 = .ok (.putfield 23, 3) := by decide +kernel
theorem d_ru_init_37 : decode (q_cc m_ru_init) 37 = .ok (.aload_n 0, 1) := by decide +kernel
theorem d_ru_init_38 : decode (q_cc m_ru_init) 38 = .ok (.bipush 64, 2) := by decide +kernel
theorem d_ru_init_40 : decode (q_cc m_ru_init) 40 = .ok (.newarray .int, 2) := by decide +kernel
theorem d_ru_init_42 : decode (q_cc m_ru_init) 42 = .ok (.putfield 26, 3) := by decide +kernel
theorem d_ru_init_45 : decode (q_cc m_ru_init) 45 = .ok (.aload_n 0, 1) := by decide +kernel
theorem d_ru_init_46 : decode (q_cc m_ru_init) 46 = .ok (.aload_n 1, 1) := by decide +kernel
theorem d_ru_init_47 : decode (q_cc m_ru_init) 47 = .ok (.putfield 29, 3) := by decide +kernel
theorem d_ru_init_50 : decode (q_cc m_ru_init) 50 = .ok (.return_, 1) := by decide +kernel
theorem d_ru_clear_0 : decode (q_cc m_ru_clear) 0 = .ok (.aload_n 0, 1) := by decide +kernel
theorem d_ru_clear_1 : decode (q_cc m_ru_clear) 1 = .ok (.iconst 0, 1) := by decide +kernel
theorem d_ru_clear_2 : decode (q_cc m_ru_clear) 2 = .ok (.putfield 33, 3) := by decide +kernel
theorem d_ru_clear_5 : decode (q_cc m_ru_clear) 5 = .ok (.return_, 1) := by decide +kernel
theorem d_ru_readRule_0 : decode (q_cc m_ru_readRule) 0 = .ok (.aload_n 1, 1) := by decide +kernel
theorem d_ru_readRule_1 : decode (q_cc m_ru_readRule) 1 = .ok (.getfield 37, 3) := by decide +kernel
theorem d_ru_readRule_4 : decode (q_cc m_ru_readRule) 4 = .ok (.iconst 5, 1) := by decide +kernel
theorem d_ru_readRule_5 : decode (q_cc m_ru_readRule) 5 = .ok (.iaload, 1) := by decide +kernel
theorem d_ru_readRule_6 : decode (q_cc m_ru_readRule) 6 = .ok (.istore_n 2, 1) := by decide +kernel
theorem d_ru_readRule_7 : decode (q_cc m_ru_readRule) 7 = .ok (.aload_n 0, 1) := by decide +kernel
theorem d_ru_readRule_8 : decode (q_cc m_ru_readRule) 8 = .ok (.getfield 15, 3) := by decide +kernel
theorem d_ru_readRule_11 : decode (q_cc m_ru_readRule) 11 = .ok (.iload_n 2, 1) := by decide +kernel
theorem d_ru_readRule_12 : decode (q_cc m_ru_readRule) 12 = .ok (.aload_n 0, 1) := by decide +kernel
theorem d_ru_readRule_13 : decode (q_cc m_ru_readRule) 13 = .ok (.getfield 33, 3) := by decide +kernel
theorem d_ru_readRule_16 : decode (q_cc m_ru_readRule) 16 = .ok (.iastore, 1) := by decide +kernel
theorem d_ru_readRule_17 : decode (q_cc m_ru_readRule) 17 = .ok (.aload_n 0, 1) := by decide +kernel
theorem d_ru_readRule_18 : decode (q_cc m_ru_readRule) 18 = .ok (.iconst 0, 1) := by decide +kernel
theorem d_ru_readRule_19 : decode (q_cc m_ru_readRule) 19 = .ok (.invokevirtual 42, 3) := by decide +kernel
theorem d_ru_readRule_22 : decode (q_cc m_ru_readRule) 22 = .ok (.ifCond .eq 15, 3) := by decide +kernel
theorem d_ru_readRule_25 : decode (q_cc m_ru_readRule) 25 = .ok (.aload_n 0, 1) := by decide +kernel
theorem d_ru_readRule_26 : decode (q_cc m_ru_readRule) 26 = .ok (.getfield 29, 3) := by decide +kernel
theorem d_ru_readRule_29 : decode (q_cc m_ru_readRule) 29 = .ok (.bipush 14, 2) := by decide +kernel
theorem d_ru_readRule_31 : decode (q_cc m_ru_readRule) 31 = .ok (.invokevirtual 46, 3) := by decide +kernel
theorem d_ru_readRule_34 : decode (q_cc m_ru_readRule) 34 = .ok (.ifCond .ne 5, 3) := by decide +kernel
theorem d_ru_readRule_37 : decode (q_cc m_ru_readRule) 37 = .ok (.iconst 0, 1) := by decide +kernel
theorem d_ru_readRule_38 : decode (q_cc m_ru_readRule) 38 = .ok (.ireturn, 1) := by decide +kernel
theorem d_ru_readRule_39 : decode (q_cc m_ru_readRule) 39 = .ok (.aload_n 0, 1) := by decide +kernel
theorem d_ru_readRule_40 : decode (q_cc m_ru_readRule) 40 = .ok (.getfield 18, 3) := by decide +kernel
theorem d_ru_readRule_43 : decode (q_cc m_ru_readRule) 43 = .ok (.iload_n 2, 1) := by decide +kernel
theorem d_ru_readRule_44 : decode (q_cc m_ru_readRule) 44 = .ok (.aload_n 0, 1) := by decide +kernel
theorem d_ru_readRule_45 : decode (q_cc m_ru_readRule) 45 = .ok (.getfield 33, 3) := by decide +kernel
theorem d_ru_readRule_48 : decode (q_cc m_ru_readRule) 48 = .ok (.iastore, 1) := by decide +kernel
theorem d_ru_readRule_49 : decode (q_cc m_ru_readRule) 49 = .ok (.aload_n 0, 1) := by decide +kernel
theorem d_ru_readRule_50 : decode (q_cc m_ru_readRule) 50 = .ok (.iconst 0, 1) := by decide +kernel
theorem d_ru_readRule_51 : decode (q_cc m_ru_readRule) 51 = .ok (.invokevirtual 51, 3) := by decide +kernel
theorem d_ru_readRule_54 : decode (q_cc m_ru_readRule) 54 = .ok (.ifCond .ne 5, 3) := by decide +kernel
theorem d_ru_readRule_57 : decode (q_cc m_ru_readRule) 57 = .ok (.iconst 0, 1) := by decide +kernel
theorem d_ru_readRule_58 : decode (q_cc m_ru_readRule) 58 = .ok (.ireturn, 1) := by decide +kernel
theorem d_ru_readRule_59 : decode (q_cc m_ru_readRule) 59 = .ok (.aload_n 0, 1) := by decide +kernel
theorem d_ru_readRule_60 : decode (q_cc m_ru_readRule) 60 = .ok (.getfield 15, 3) := by decide +kernel
theorem d_ru_readRule_63 : decode (q_cc m_ru_readRule) 63 = .ok (.iload_n 2, 1) := by decide +kernel
theorem d_ru_readRule_64 : decode (q_cc m_ru_readRule) 64 = .ok (.iconst 1, 1) := by decide +kernel
theorem d_ru_readRule_65 : decode (q_cc m_ru_readRule) 65 = .ok (.iadd, 1) := by decide +kernel
theorem d_ru_readRule_66 : decode (q_cc m_ru_readRule) 66 = .ok (.aload_n 0, 1) := by decide +kernel
theorem d_ru_readRule_67 : decode (q_cc m_ru_readRule) 67 = .ok (.getfield 33, 3) := by decide +kernel
theorem d_ru_readRule_70 : decode (q_cc m_ru_readRule) 70 = .ok (.iastore, 1) := by decide +kernel
theorem d_ru_readRule_71 : decode (q_cc m_ru_readRule) 71 = .ok (.aload_n 1, 1) := by decide +kernel
theorem d_ru_readRule_72 : decode (q_cc m_ru_readRule) 72 = .ok (.getfield 37, 3) := by decide +kernel
theorem d_ru_readRule_75 : decode (q_cc m_ru_readRule) 75 = .ok (.iconst 5, 1) := by decide +kernel
theorem d_ru_readRule_76 : decode (q_cc m_ru_readRule) 76 = .ok (.dup2, 1) := by decide +kernel
theorem d_ru_readRule_77 : decode (q_cc m_ru_readRule) 77 = .ok (.iaload, 1) := by decide +kernel
theorem d_ru_readRule_78 : decode (q_cc m_ru_readRule) 78 = .ok (.iconst 1, 1) := by decide +kernel
theorem d_ru_readRule_79 : decode (q_cc m_ru_readRule) 79 = .ok (.iadd, 1) := by decide +kernel
theorem d_ru_readRule_80 : decode (q_cc m_ru_readRule) 80 = .ok (.iastore, 1) := by decide +kernel
theorem d_ru_readRule_81 : decode (q_cc m_ru_readRule) 81 = .ok (.iconst 1, 1) := by decide +kernel
theorem d_ru_readRule_82 : decode (q_cc m_ru_readRule) 82 = .ok (.ireturn, 1) := by decide +kernel
theorem d_ru_emit_0 : decode (q_cc m_ru_emit) 0 = .ok (.aload_n 0, 1) := by decide +kernel
theorem d_ru_emit_1 : decode (q_cc m_ru_emit) 1 = .ok (.getfield 33, 3) := by decide +kernel
theorem d_ru_emit_4 : decode (q_cc m_ru_emit) 4 = .ok (.sipush 1600, 3) := by decide +kernel
theorem d_ru_emit_7 : decode (q_cc m_ru_emit) 7 = .ok (.if_icmp .ge 23, 3) := by decide +kernel
theorem d_ru_emit_10 : decode (q_cc m_ru_emit) 10 = .ok (.aload_n 0, 1) := by decide +kernel
theorem d_ru_emit_11 : decode (q_cc m_ru_emit) 11 = .ok (.getfield 9, 3) := by decide +kernel
theorem d_ru_emit_14 : decode (q_cc m_ru_emit) 14 = .ok (.aload_n 0, 1) := by decide +kernel
theorem d_ru_emit_15 : decode (q_cc m_ru_emit) 15 = .ok (.getfield 33, 3) := by decide +kernel
theorem d_ru_emit_18 : decode (q_cc m_ru_emit) 18 = .ok (.iload_n 1, 1) := by decide +kernel
theorem d_ru_emit_19 : decode (q_cc m_ru_emit) 19 = .ok (.iastore, 1) := by decide +kernel
theorem d_ru_emit_20 : decode (q_cc m_ru_emit) 20 = .ok (.aload_n 0, 1) := by decide +kernel
theorem d_ru_emit_21 : decode (q_cc m_ru_emit) 21 = .ok (.dup, 1) := by decide +kernel
theorem d_ru_emit_22 : decode (q_cc m_ru_emit) 22 = .ok (.getfield 33, 3) := by decide +kernel
theorem d_ru_emit_25 : decode (q_cc m_ru_emit) 25 = .ok (.iconst 1, 1) := by decide +kernel
theorem d_ru_emit_26 : decode (q_cc m_ru_emit) 26 = .ok (.iadd, 1) := by decide +kernel
theorem d_ru_emit_27 : decode (q_cc m_ru_emit) 27 = .ok (.putfield 33, 3) := by decide +kernel
theorem d_ru_emit_30 : decode (q_cc m_ru_emit) 30 = .ok (.iconst 1, 1) := by decide +kernel
theorem d_ru_emit_31 : decode (q_cc m_ru_emit) 31 = .ok (.ireturn, 1) := by decide +kernel
theorem d_ru_readTest_0 (d : Nat) : decode (q_cc (m_ru_readTest d)) 0 = .ok (.aload_n 0, 1) := by rw [show q_cc (m_ru_readTest d) = prog_7_method_5_code from rfl]; decide +kernel
theorem d_ru_readTest_1 (d : Nat) : decode (q_cc (m_ru_readTest d)) 1 = .ok (.iload_n 1, 1) := by rw [show q_cc (m_ru_readTest d) = prog_7_method_5_code from rfl]; decide +kernel
theorem d_ru_readTest_2 (d : Nat) : decode (q_cc (m_ru_readTest d)) 2 = .ok (.invokevirtual 54, 3) := by rw [show q_cc (m_ru_readTest d) = prog_7_method_5_code from rfl]; decide +kernel
theorem d_ru_readTest_5 (d : Nat) : decode (q_cc (m_ru_readTest d)) 5 = .ok (.ifCond .ne 5, 3) := by rw [show q_cc (m_ru_readTest d) = prog_7_method_5_code from rfl]; decide +kernel
theorem d_ru_readTest_8 (d : Nat) : decode (q_cc (m_ru_readTest d)) 8 = .ok (.iconst 0, 1) := by rw [show q_cc (m_ru_readTest d) = prog_7_method_5_code from rfl]; decide +kernel
theorem d_ru_readTest_9 (d : Nat) : decode (q_cc (m_ru_readTest d)) 9 = .ok (.ireturn, 1) := by rw [show q_cc (m_ru_readTest d) = prog_7_method_5_code from rfl]; decide +kernel
theorem d_ru_readTest_10 (d : Nat) : decode (q_cc (m_ru_readTest d)) 10 = .ok (.iconst 0, 1) := by rw [show q_cc (m_ru_readTest d) = prog_7_method_5_code from rfl]; decide +kernel
theorem d_ru_readTest_11 (d : Nat) : decode (q_cc (m_ru_readTest d)) 11 = .ok (.istore_n 2, 1) := by rw [show q_cc (m_ru_readTest d) = prog_7_method_5_code from rfl]; decide +kernel
theorem d_ru_readTest_12 (d : Nat) : decode (q_cc (m_ru_readTest d)) 12 = .ok (.iload_n 2, 1) := by rw [show q_cc (m_ru_readTest d) = prog_7_method_5_code from rfl]; decide +kernel
theorem d_ru_readTest_13 (d : Nat) : decode (q_cc (m_ru_readTest d)) 13 = .ok (.sipush 1600, 3) := by rw [show q_cc (m_ru_readTest d) = prog_7_method_5_code from rfl]; decide +kernel
theorem d_ru_readTest_16 (d : Nat) : decode (q_cc (m_ru_readTest d)) 16 = .ok (.if_icmp .ge 39, 3) := by rw [show q_cc (m_ru_readTest d) = prog_7_method_5_code from rfl]; decide +kernel
theorem d_ru_readTest_19 (d : Nat) : decode (q_cc (m_ru_readTest d)) 19 = .ok (.aload_n 0, 1) := by rw [show q_cc (m_ru_readTest d) = prog_7_method_5_code from rfl]; decide +kernel
theorem d_ru_readTest_20 (d : Nat) : decode (q_cc (m_ru_readTest d)) 20 = .ok (.getfield 29, 3) := by rw [show q_cc (m_ru_readTest d) = prog_7_method_5_code from rfl]; decide +kernel
theorem d_ru_readTest_23 (d : Nat) : decode (q_cc (m_ru_readTest d)) 23 = .ok (.bipush 16, 2) := by rw [show q_cc (m_ru_readTest d) = prog_7_method_5_code from rfl]; decide +kernel
theorem d_ru_readTest_25 (d : Nat) : decode (q_cc (m_ru_readTest d)) 25 = .ok (.invokevirtual 57, 3) := by rw [show q_cc (m_ru_readTest d) = prog_7_method_5_code from rfl]; decide +kernel
theorem d_ru_readTest_28 (d : Nat) : decode (q_cc (m_ru_readTest d)) 28 = .ok (.ifCond .eq 27, 3) := by rw [show q_cc (m_ru_readTest d) = prog_7_method_5_code from rfl]; decide +kernel
theorem d_ru_readTest_31 (d : Nat) : decode (q_cc (m_ru_readTest d)) 31 = .ok (.aload_n 0, 1) := by rw [show q_cc (m_ru_readTest d) = prog_7_method_5_code from rfl]; decide +kernel
theorem d_ru_readTest_32 (d : Nat) : decode (q_cc (m_ru_readTest d)) 32 = .ok (.iload_n 1, 1) := by rw [show q_cc (m_ru_readTest d) = prog_7_method_5_code from rfl]; decide +kernel
theorem d_ru_readTest_33 (d : Nat) : decode (q_cc (m_ru_readTest d)) 33 = .ok (.invokevirtual 54, 3) := by rw [show q_cc (m_ru_readTest d) = prog_7_method_5_code from rfl]; decide +kernel
theorem d_ru_readTest_36 (d : Nat) : decode (q_cc (m_ru_readTest d)) 36 = .ok (.ifCond .ne 5, 3) := by rw [show q_cc (m_ru_readTest d) = prog_7_method_5_code from rfl]; decide +kernel
theorem d_ru_readTest_39 (d : Nat) : decode (q_cc (m_ru_readTest d)) 39 = .ok (.iconst 0, 1) := by rw [show q_cc (m_ru_readTest d) = prog_7_method_5_code from rfl]; decide +kernel
theorem d_ru_readTest_40 (d : Nat) : decode (q_cc (m_ru_readTest d)) 40 = .ok (.ireturn, 1) := by rw [show q_cc (m_ru_readTest d) = prog_7_method_5_code from rfl]; decide +kernel
theorem d_ru_readTest_41 (d : Nat) : decode (q_cc (m_ru_readTest d)) 41 = .ok (.aload_n 0, 1) := by rw [show q_cc (m_ru_readTest d) = prog_7_method_5_code from rfl]; decide +kernel
theorem d_ru_readTest_42 (d : Nat) : decode (q_cc (m_ru_readTest d)) 42 = .ok (.sipush (-216), 3) := by rw [show q_cc (m_ru_readTest d) = prog_7_method_5_code from rfl]; decide +kernel
theorem d_ru_readTest_45 (d : Nat) : decode (q_cc (m_ru_readTest d)) 45 = .ok (.invokevirtual 60, 3) := by rw [show q_cc (m_ru_readTest d) = prog_7_method_5_code from rfl]; decide +kernel
theorem d_ru_readTest_48 (d : Nat) : decode (q_cc (m_ru_readTest d)) 48 = .ok (.pop, 1) := by rw [show q_cc (m_ru_readTest d) = prog_7_method_5_code from rfl]; decide +kernel
theorem d_ru_readTest_49 (d : Nat) : decode (q_cc (m_ru_readTest d)) 49 = .ok (.iinc 2 1, 3) := by rw [show q_cc (m_ru_readTest d) = prog_7_method_5_code from rfl]; decide +kernel
theorem d_ru_readTest_52 (d : Nat) : decode (q_cc (m_ru_readTest d)) 52 = .ok (.goto (-40), 3) := by rw [show q_cc (m_ru_readTest d) = prog_7_method_5_code from rfl]; decide +kernel
theorem d_ru_readTest_55 (d : Nat) : decode (q_cc (m_ru_readTest d)) 55 = .ok (.iconst 1, 1) := by rw [show q_cc (m_ru_readTest d) = prog_7_method_5_code from rfl]; decide +kernel
theorem d_ru_readTest_56 (d : Nat) : decode (q_cc (m_ru_readTest d)) 56 = .ok (.ireturn, 1) := by rw [show q_cc (m_ru_readTest d) = prog_7_method_5_code from rfl]; decide +kernel
theorem d_ru_readBoth_0 (d : Nat) : decode (q_cc (m_ru_readBoth d)) 0 = .ok (.aload_n 0, 1) := by rw [show q_cc (m_ru_readBoth d) = prog_7_method_6_code from rfl]; decide +kernel
theorem d_ru_readBoth_1 (d : Nat) : decode (q_cc (m_ru_readBoth d)) 1 = .ok (.iload_n 1, 1) := by rw [show q_cc (m_ru_readBoth d) = prog_7_method_6_code from rfl]; decide +kernel
theorem d_ru_readBoth_2 (d : Nat) : decode (q_cc (m_ru_readBoth d)) 2 = .ok (.invokevirtual 63, 3) := by rw [show q_cc (m_ru_readBoth d) = prog_7_method_6_code from rfl]; decide +kernel
theorem d_ru_readBoth_5 (d : Nat) : decode (q_cc (m_ru_readBoth d)) 5 = .ok (.ifCond .ne 5, 3) := by rw [show q_cc (m_ru_readBoth d) = prog_7_method_6_code from rfl]; decide +kernel
theorem d_ru_readBoth_8 (d : Nat) : decode (q_cc (m_ru_readBoth d)) 8 = .ok (.iconst 0, 1) := by rw [show q_cc (m_ru_readBoth d) = prog_7_method_6_code from rfl]; decide +kernel
theorem d_ru_readBoth_9 (d : Nat) : decode (q_cc (m_ru_readBoth d)) 9 = .ok (.ireturn, 1) := by rw [show q_cc (m_ru_readBoth d) = prog_7_method_6_code from rfl]; decide +kernel
theorem d_ru_readBoth_10 (d : Nat) : decode (q_cc (m_ru_readBoth d)) 10 = .ok (.iconst 0, 1) := by rw [show q_cc (m_ru_readBoth d) = prog_7_method_6_code from rfl]; decide +kernel
theorem d_ru_readBoth_11 (d : Nat) : decode (q_cc (m_ru_readBoth d)) 11 = .ok (.istore_n 2, 1) := by rw [show q_cc (m_ru_readBoth d) = prog_7_method_6_code from rfl]; decide +kernel
theorem d_ru_readBoth_12 (d : Nat) : decode (q_cc (m_ru_readBoth d)) 12 = .ok (.iload_n 2, 1) := by rw [show q_cc (m_ru_readBoth d) = prog_7_method_6_code from rfl]; decide +kernel
theorem d_ru_readBoth_13 (d : Nat) : decode (q_cc (m_ru_readBoth d)) 13 = .ok (.sipush 1600, 3) := by rw [show q_cc (m_ru_readBoth d) = prog_7_method_6_code from rfl]; decide +kernel
theorem d_ru_readBoth_16 (d : Nat) : decode (q_cc (m_ru_readBoth d)) 16 = .ok (.if_icmp .ge 39, 3) := by rw [show q_cc (m_ru_readBoth d) = prog_7_method_6_code from rfl]; decide +kernel
theorem d_ru_readBoth_19 (d : Nat) : decode (q_cc (m_ru_readBoth d)) 19 = .ok (.aload_n 0, 1) := by rw [show q_cc (m_ru_readBoth d) = prog_7_method_6_code from rfl]; decide +kernel
theorem d_ru_readBoth_20 (d : Nat) : decode (q_cc (m_ru_readBoth d)) 20 = .ok (.getfield 29, 3) := by rw [show q_cc (m_ru_readBoth d) = prog_7_method_6_code from rfl]; decide +kernel
theorem d_ru_readBoth_23 (d : Nat) : decode (q_cc (m_ru_readBoth d)) 23 = .ok (.bipush 17, 2) := by rw [show q_cc (m_ru_readBoth d) = prog_7_method_6_code from rfl]; decide +kernel
theorem d_ru_readBoth_25 (d : Nat) : decode (q_cc (m_ru_readBoth d)) 25 = .ok (.invokevirtual 57, 3) := by rw [show q_cc (m_ru_readBoth d) = prog_7_method_6_code from rfl]; decide +kernel
theorem d_ru_readBoth_28 (d : Nat) : decode (q_cc (m_ru_readBoth d)) 28 = .ok (.ifCond .eq 27, 3) := by rw [show q_cc (m_ru_readBoth d) = prog_7_method_6_code from rfl]; decide +kernel
theorem d_ru_readBoth_31 (d : Nat) : decode (q_cc (m_ru_readBoth d)) 31 = .ok (.aload_n 0, 1) := by rw [show q_cc (m_ru_readBoth d) = prog_7_method_6_code from rfl]; decide +kernel
theorem d_ru_readBoth_32 (d : Nat) : decode (q_cc (m_ru_readBoth d)) 32 = .ok (.iload_n 1, 1) := by rw [show q_cc (m_ru_readBoth d) = prog_7_method_6_code from rfl]; decide +kernel
theorem d_ru_readBoth_33 (d : Nat) : decode (q_cc (m_ru_readBoth d)) 33 = .ok (.invokevirtual 63, 3) := by rw [show q_cc (m_ru_readBoth d) = prog_7_method_6_code from rfl]; decide +kernel
theorem d_ru_readBoth_36 (d : Nat) : decode (q_cc (m_ru_readBoth d)) 36 = .ok (.ifCond .ne 5, 3) := by rw [show q_cc (m_ru_readBoth d) = prog_7_method_6_code from rfl]; decide +kernel
theorem d_ru_readBoth_39 (d : Nat) : decode (q_cc (m_ru_readBoth d)) 39 = .ok (.iconst 0, 1) := by rw [show q_cc (m_ru_readBoth d) = prog_7_method_6_code from rfl]; decide +kernel
theorem d_ru_readBoth_40 (d : Nat) : decode (q_cc (m_ru_readBoth d)) 40 = .ok (.ireturn, 1) := by rw [show q_cc (m_ru_readBoth d) = prog_7_method_6_code from rfl]; decide +kernel
theorem d_ru_readBoth_41 (d : Nat) : decode (q_cc (m_ru_readBoth d)) 41 = .ok (.aload_n 0, 1) := by rw [show q_cc (m_ru_readBoth d) = prog_7_method_6_code from rfl]; decide +kernel
theorem d_ru_readBoth_42 (d : Nat) : decode (q_cc (m_ru_readBoth d)) 42 = .ok (.sipush (-217), 3) := by rw [show q_cc (m_ru_readBoth d) = prog_7_method_6_code from rfl]; decide +kernel
theorem d_ru_readBoth_45 (d : Nat) : decode (q_cc (m_ru_readBoth d)) 45 = .ok (.invokevirtual 60, 3) := by rw [show q_cc (m_ru_readBoth d) = prog_7_method_6_code from rfl]; decide +kernel
theorem d_ru_readBoth_48 (d : Nat) : decode (q_cc (m_ru_readBoth d)) 48 = .ok (.pop, 1) := by rw [show q_cc (m_ru_readBoth d) = prog_7_method_6_code from rfl]; decide +kernel
theorem d_ru_readBoth_49 (d : Nat) : decode (q_cc (m_ru_readBoth d)) 49 = .ok (.iinc 2 1, 3) := by rw [show q_cc (m_ru_readBoth d) = prog_7_method_6_code from rfl]; decide +kernel
theorem d_ru_readBoth_52 (d : Nat) : decode (q_cc (m_ru_readBoth d)) 52 = .ok (.goto (-40), 3) := by rw [show q_cc (m_ru_readBoth d) = prog_7_method_6_code from rfl]; decide +kernel
theorem d_ru_readBoth_55 (d : Nat) : decode (q_cc (m_ru_readBoth d)) 55 = .ok (.iconst 1, 1) := by rw [show q_cc (m_ru_readBoth d) = prog_7_method_6_code from rfl]; decide +kernel
theorem d_ru_readBoth_56 (d : Nat) : decode (q_cc (m_ru_readBoth d)) 56 = .ok (.ireturn, 1) := by rw [show q_cc (m_ru_readBoth d) = prog_7_method_6_code from rfl]; decide +kernel
theorem d_ru_readFact_0 (d : Nat) : decode (q_cc (m_ru_readFact d)) 0 = .ok (.aload_n 0, 1) := by rw [show q_cc (m_ru_readFact d) = prog_7_method_7_code from rfl]; decide +kernel
theorem d_ru_readFact_1 (d : Nat) : decode (q_cc (m_ru_readFact d)) 1 = .ok (.getfield 29, 3) := by rw [show q_cc (m_ru_readFact d) = prog_7_method_7_code from rfl]; decide +kernel
theorem d_ru_readFact_4 (d : Nat) : decode (q_cc (m_ru_readFact d)) 4 = .ok (.invokevirtual 66, 3) := by rw [show q_cc (m_ru_readFact d) = prog_7_method_7_code from rfl]; decide +kernel
theorem d_ru_readFact_7 (d : Nat) : decode (q_cc (m_ru_readFact d)) 7 = .ok (.istore_n 2, 1) := by rw [show q_cc (m_ru_readFact d) = prog_7_method_7_code from rfl]; decide +kernel
theorem d_ru_readFact_8 (d : Nat) : decode (q_cc (m_ru_readFact d)) 8 = .ok (.iload_n 2, 1) := by rw [show q_cc (m_ru_readFact d) = prog_7_method_7_code from rfl]; decide +kernel
theorem d_ru_readFact_9 (d : Nat) : decode (q_cc (m_ru_readFact d)) 9 = .ok (.bipush 18, 2) := by rw [show q_cc (m_ru_readFact d) = prog_7_method_7_code from rfl]; decide +kernel
theorem d_ru_readFact_11 (d : Nat) : decode (q_cc (m_ru_readFact d)) 11 = .ok (.if_icmp .ne 49, 3) := by rw [show q_cc (m_ru_readFact d) = prog_7_method_7_code from rfl]; decide +kernel
theorem d_ru_readFact_14 (d : Nat) : decode (q_cc (m_ru_readFact d)) 14 = .ok (.aload_n 0, 1) := by rw [show q_cc (m_ru_readFact d) = prog_7_method_7_code from rfl]; decide +kernel
theorem d_ru_readFact_15 (d : Nat) : decode (q_cc (m_ru_readFact d)) 15 = .ok (.iload_n 1, 1) := by rw [show q_cc (m_ru_readFact d) = prog_7_method_7_code from rfl]; decide +kernel
theorem d_ru_readFact_16 (d : Nat) : decode (q_cc (m_ru_readFact d)) 16 = .ok (.invokevirtual 70, 3) := by rw [show q_cc (m_ru_readFact d) = prog_7_method_7_code from rfl]; decide +kernel
theorem d_ru_readFact_19 (d : Nat) : decode (q_cc (m_ru_readFact d)) 19 = .ok (.ifCond .eq 39, 3) := by rw [show q_cc (m_ru_readFact d) = prog_7_method_7_code from rfl]; decide +kernel
theorem d_ru_readFact_22 (d : Nat) : decode (q_cc (m_ru_readFact d)) 22 = .ok (.aload_n 0, 1) := by rw [show q_cc (m_ru_readFact d) = prog_7_method_7_code from rfl]; decide +kernel
theorem d_ru_readFact_23 (d : Nat) : decode (q_cc (m_ru_readFact d)) 23 = .ok (.getfield 29, 3) := by rw [show q_cc (m_ru_readFact d) = prog_7_method_7_code from rfl]; decide +kernel
theorem d_ru_readFact_26 (d : Nat) : decode (q_cc (m_ru_readFact d)) 26 = .ok (.invokevirtual 73, 3) := by rw [show q_cc (m_ru_readFact d) = prog_7_method_7_code from rfl]; decide +kernel
theorem d_ru_readFact_29 (d : Nat) : decode (q_cc (m_ru_readFact d)) 29 = .ok (.ifCond .eq 29, 3) := by rw [show q_cc (m_ru_readFact d) = prog_7_method_7_code from rfl]; decide +kernel
theorem d_ru_readFact_32 (d : Nat) : decode (q_cc (m_ru_readFact d)) 32 = .ok (.aload_n 0, 1) := by rw [show q_cc (m_ru_readFact d) = prog_7_method_7_code from rfl]; decide +kernel
theorem d_ru_readFact_33 (d : Nat) : decode (q_cc (m_ru_readFact d)) 33 = .ok (.iload_n 1, 1) := by rw [show q_cc (m_ru_readFact d) = prog_7_method_7_code from rfl]; decide +kernel
theorem d_ru_readFact_34 (d : Nat) : decode (q_cc (m_ru_readFact d)) 34 = .ok (.iconst 1, 1) := by rw [show q_cc (m_ru_readFact d) = prog_7_method_7_code from rfl]; decide +kernel
theorem d_ru_readFact_35 (d : Nat) : decode (q_cc (m_ru_readFact d)) 35 = .ok (.iadd, 1) := by rw [show q_cc (m_ru_readFact d) = prog_7_method_7_code from rfl]; decide +kernel
theorem d_ru_readFact_36 (d : Nat) : decode (q_cc (m_ru_readFact d)) 36 = .ok (.invokevirtual 63, 3) := by rw [show q_cc (m_ru_readFact d) = prog_7_method_7_code from rfl]; decide +kernel
theorem d_ru_readFact_39 (d : Nat) : decode (q_cc (m_ru_readFact d)) 39 = .ok (.ifCond .eq 19, 3) := by rw [show q_cc (m_ru_readFact d) = prog_7_method_7_code from rfl]; decide +kernel
theorem d_ru_readFact_42 (d : Nat) : decode (q_cc (m_ru_readFact d)) 42 = .ok (.aload_n 0, 1) := by rw [show q_cc (m_ru_readFact d) = prog_7_method_7_code from rfl]; decide +kernel
theorem d_ru_readFact_43 (d : Nat) : decode (q_cc (m_ru_readFact d)) 43 = .ok (.sipush (-200), 3) := by rw [show q_cc (m_ru_readFact d) = prog_7_method_7_code from rfl]; decide +kernel
theorem d_ru_readFact_46 (d : Nat) : decode (q_cc (m_ru_readFact d)) 46 = .ok (.iload_n 2, 1) := by rw [show q_cc (m_ru_readFact d) = prog_7_method_7_code from rfl]; decide +kernel
theorem d_ru_readFact_47 (d : Nat) : decode (q_cc (m_ru_readFact d)) 47 = .ok (.isub, 1) := by rw [show q_cc (m_ru_readFact d) = prog_7_method_7_code from rfl]; decide +kernel
theorem d_ru_readFact_48 (d : Nat) : decode (q_cc (m_ru_readFact d)) 48 = .ok (.invokevirtual 60, 3) := by rw [show q_cc (m_ru_readFact d) = prog_7_method_7_code from rfl]; decide +kernel
theorem d_ru_readFact_51 (d : Nat) : decode (q_cc (m_ru_readFact d)) 51 = .ok (.ifCond .eq 7, 3) := by rw [show q_cc (m_ru_readFact d) = prog_7_method_7_code from rfl]; decide +kernel
theorem d_ru_readFact_54 (d : Nat) : decode (q_cc (m_ru_readFact d)) 54 = .ok (.iconst 1, 1) := by rw [show q_cc (m_ru_readFact d) = prog_7_method_7_code from rfl]; decide +kernel
theorem d_ru_readFact_55 (d : Nat) : decode (q_cc (m_ru_readFact d)) 55 = .ok (.goto 4, 3) := by rw [show q_cc (m_ru_readFact d) = prog_7_method_7_code from rfl]; decide +kernel
theorem d_ru_readFact_58 (d : Nat) : decode (q_cc (m_ru_readFact d)) 58 = .ok (.iconst 0, 1) := by rw [show q_cc (m_ru_readFact d) = prog_7_method_7_code from rfl]; decide +kernel
theorem d_ru_readFact_59 (d : Nat) : decode (q_cc (m_ru_readFact d)) 59 = .ok (.ireturn, 1) := by rw [show q_cc (m_ru_readFact d) = prog_7_method_7_code from rfl]; decide +kernel
theorem d_ru_readFact_60 (d : Nat) : decode (q_cc (m_ru_readFact d)) 60 = .ok (.iload_n 2, 1) := by rw [show q_cc (m_ru_readFact d) = prog_7_method_7_code from rfl]; decide +kernel
theorem d_ru_readFact_61 (d : Nat) : decode (q_cc (m_ru_readFact d)) 61 = .ok (.bipush 19, 2) := by rw [show q_cc (m_ru_readFact d) = prog_7_method_7_code from rfl]; decide +kernel
theorem d_ru_readFact_63 (d : Nat) : decode (q_cc (m_ru_readFact d)) 63 = .ok (.if_icmp .ne 31, 3) := by rw [show q_cc (m_ru_readFact d) = prog_7_method_7_code from rfl]; decide +kernel
theorem d_ru_readFact_66 (d : Nat) : decode (q_cc (m_ru_readFact d)) 66 = .ok (.aload_n 0, 1) := by rw [show q_cc (m_ru_readFact d) = prog_7_method_7_code from rfl]; decide +kernel
theorem d_ru_readFact_67 (d : Nat) : decode (q_cc (m_ru_readFact d)) 67 = .ok (.getfield 29, 3) := by rw [show q_cc (m_ru_readFact d) = prog_7_method_7_code from rfl]; decide +kernel
theorem d_ru_readFact_70 (d : Nat) : decode (q_cc (m_ru_readFact d)) 70 = .ok (.invokevirtual 73, 3) := by rw [show q_cc (m_ru_readFact d) = prog_7_method_7_code from rfl]; decide +kernel
theorem d_ru_readFact_73 (d : Nat) : decode (q_cc (m_ru_readFact d)) 73 = .ok (.ifCond .eq 19, 3) := by rw [show q_cc (m_ru_readFact d) = prog_7_method_7_code from rfl]; decide +kernel
theorem d_ru_readFact_76 (d : Nat) : decode (q_cc (m_ru_readFact d)) 76 = .ok (.aload_n 0, 1) := by rw [show q_cc (m_ru_readFact d) = prog_7_method_7_code from rfl]; decide +kernel
theorem d_ru_readFact_77 (d : Nat) : decode (q_cc (m_ru_readFact d)) 77 = .ok (.sipush (-200), 3) := by rw [show q_cc (m_ru_readFact d) = prog_7_method_7_code from rfl]; decide +kernel
theorem d_ru_readFact_80 (d : Nat) : decode (q_cc (m_ru_readFact d)) 80 = .ok (.iload_n 2, 1) := by rw [show q_cc (m_ru_readFact d) = prog_7_method_7_code from rfl]; decide +kernel
theorem d_ru_readFact_81 (d : Nat) : decode (q_cc (m_ru_readFact d)) 81 = .ok (.isub, 1) := by rw [show q_cc (m_ru_readFact d) = prog_7_method_7_code from rfl]; decide +kernel
theorem d_ru_readFact_82 (d : Nat) : decode (q_cc (m_ru_readFact d)) 82 = .ok (.invokevirtual 60, 3) := by rw [show q_cc (m_ru_readFact d) = prog_7_method_7_code from rfl]; decide +kernel
theorem d_ru_readFact_85 (d : Nat) : decode (q_cc (m_ru_readFact d)) 85 = .ok (.ifCond .eq 7, 3) := by rw [show q_cc (m_ru_readFact d) = prog_7_method_7_code from rfl]; decide +kernel
theorem d_ru_readFact_88 (d : Nat) : decode (q_cc (m_ru_readFact d)) 88 = .ok (.iconst 1, 1) := by rw [show q_cc (m_ru_readFact d) = prog_7_method_7_code from rfl]; decide +kernel
theorem d_ru_readFact_89 (d : Nat) : decode (q_cc (m_ru_readFact d)) 89 = .ok (.goto 4, 3) := by rw [show q_cc (m_ru_readFact d) = prog_7_method_7_code from rfl]; decide +kernel
theorem d_ru_readFact_92 (d : Nat) : decode (q_cc (m_ru_readFact d)) 92 = .ok (.iconst 0, 1) := by rw [show q_cc (m_ru_readFact d) = prog_7_method_7_code from rfl]; decide +kernel
theorem d_ru_readFact_93 (d : Nat) : decode (q_cc (m_ru_readFact d)) 93 = .ok (.ireturn, 1) := by rw [show q_cc (m_ru_readFact d) = prog_7_method_7_code from rfl]; decide +kernel
theorem d_ru_readFact_94 (d : Nat) : decode (q_cc (m_ru_readFact d)) 94 = .ok (.aload_n 0, 1) := by rw [show q_cc (m_ru_readFact d) = prog_7_method_7_code from rfl]; decide +kernel
theorem d_ru_readFact_95 (d : Nat) : decode (q_cc (m_ru_readFact d)) 95 = .ok (.getfield 29, 3) := by rw [show q_cc (m_ru_readFact d) = prog_7_method_7_code from rfl]; decide +kernel
theorem d_ru_readFact_98 (d : Nat) : decode (q_cc (m_ru_readFact d)) 98 = .ok (.invokevirtual 77, 3) := by rw [show q_cc (m_ru_readFact d) = prog_7_method_7_code from rfl]; decide +kernel
theorem d_ru_readFact_101 (d : Nat) : decode (q_cc (m_ru_readFact d)) 101 = .ok (.bipush 91, 2) := by rw [show q_cc (m_ru_readFact d) = prog_7_method_7_code from rfl]; decide +kernel
theorem d_ru_readFact_103 (d : Nat) : decode (q_cc (m_ru_readFact d)) 103 = .ok (.if_icmp .ne 51, 3) := by rw [show q_cc (m_ru_readFact d) = prog_7_method_7_code from rfl]; decide +kernel
theorem d_ru_readFact_106 (d : Nat) : decode (q_cc (m_ru_readFact d)) 106 = .ok (.aload_n 0, 1) := by rw [show q_cc (m_ru_readFact d) = prog_7_method_7_code from rfl]; decide +kernel
theorem d_ru_readFact_107 (d : Nat) : decode (q_cc (m_ru_readFact d)) 107 = .ok (.iload_n 1, 1) := by rw [show q_cc (m_ru_readFact d) = prog_7_method_7_code from rfl]; decide +kernel
theorem d_ru_readFact_108 (d : Nat) : decode (q_cc (m_ru_readFact d)) 108 = .ok (.invokevirtual 70, 3) := by rw [show q_cc (m_ru_readFact d) = prog_7_method_7_code from rfl]; decide +kernel
theorem d_ru_readFact_111 (d : Nat) : decode (q_cc (m_ru_readFact d)) 111 = .ok (.ifCond .eq 41, 3) := by rw [show q_cc (m_ru_readFact d) = prog_7_method_7_code from rfl]; decide +kernel
theorem d_ru_readFact_114 (d : Nat) : decode (q_cc (m_ru_readFact d)) 114 = .ok (.aload_n 0, 1) := by rw [show q_cc (m_ru_readFact d) = prog_7_method_7_code from rfl]; decide +kernel
theorem d_ru_readFact_115 (d : Nat) : decode (q_cc (m_ru_readFact d)) 115 = .ok (.getfield 29, 3) := by rw [show q_cc (m_ru_readFact d) = prog_7_method_7_code from rfl]; decide +kernel
theorem d_ru_readFact_118 (d : Nat) : decode (q_cc (m_ru_readFact d)) 118 = .ok (.bipush 91, 2) := by rw [show q_cc (m_ru_readFact d) = prog_7_method_7_code from rfl]; decide +kernel
theorem d_ru_readFact_120 (d : Nat) : decode (q_cc (m_ru_readFact d)) 120 = .ok (.invokevirtual 80, 3) := by rw [show q_cc (m_ru_readFact d) = prog_7_method_7_code from rfl]; decide +kernel
theorem d_ru_readFact_123 (d : Nat) : decode (q_cc (m_ru_readFact d)) 123 = .ok (.ifCond .eq 29, 3) := by rw [show q_cc (m_ru_readFact d) = prog_7_method_7_code from rfl]; decide +kernel
theorem d_ru_readFact_126 (d : Nat) : decode (q_cc (m_ru_readFact d)) 126 = .ok (.aload_n 0, 1) := by rw [show q_cc (m_ru_readFact d) = prog_7_method_7_code from rfl]; decide +kernel
theorem d_ru_readFact_127 (d : Nat) : decode (q_cc (m_ru_readFact d)) 127 = .ok (.iload_n 1, 1) := by rw [show q_cc (m_ru_readFact d) = prog_7_method_7_code from rfl]; decide +kernel
theorem d_ru_readFact_128 (d : Nat) : decode (q_cc (m_ru_readFact d)) 128 = .ok (.iconst 1, 1) := by rw [show q_cc (m_ru_readFact d) = prog_7_method_7_code from rfl]; decide +kernel
theorem d_ru_readFact_129 (d : Nat) : decode (q_cc (m_ru_readFact d)) 129 = .ok (.iadd, 1) := by rw [show q_cc (m_ru_readFact d) = prog_7_method_7_code from rfl]; decide +kernel
theorem d_ru_readFact_130 (d : Nat) : decode (q_cc (m_ru_readFact d)) 130 = .ok (.invokevirtual 51, 3) := by rw [show q_cc (m_ru_readFact d) = prog_7_method_7_code from rfl]; decide +kernel
theorem d_ru_readFact_133 (d : Nat) : decode (q_cc (m_ru_readFact d)) 133 = .ok (.ifCond .eq 19, 3) := by rw [show q_cc (m_ru_readFact d) = prog_7_method_7_code from rfl]; decide +kernel
theorem d_ru_readFact_136 (d : Nat) : decode (q_cc (m_ru_readFact d)) 136 = .ok (.aload_n 0, 1) := by rw [show q_cc (m_ru_readFact d) = prog_7_method_7_code from rfl]; decide +kernel
theorem d_ru_readFact_137 (d : Nat) : decode (q_cc (m_ru_readFact d)) 137 = .ok (.getfield 29, 3) := by rw [show q_cc (m_ru_readFact d) = prog_7_method_7_code from rfl]; decide +kernel
theorem d_ru_readFact_140 (d : Nat) : decode (q_cc (m_ru_readFact d)) 140 = .ok (.bipush 93, 2) := by rw [show q_cc (m_ru_readFact d) = prog_7_method_7_code from rfl]; decide +kernel
theorem d_ru_readFact_142 (d : Nat) : decode (q_cc (m_ru_readFact d)) 142 = .ok (.invokevirtual 80, 3) := by rw [show q_cc (m_ru_readFact d) = prog_7_method_7_code from rfl]; decide +kernel
theorem d_ru_readFact_145 (d : Nat) : decode (q_cc (m_ru_readFact d)) 145 = .ok (.ifCond .eq 7, 3) := by rw [show q_cc (m_ru_readFact d) = prog_7_method_7_code from rfl]; decide +kernel
theorem d_ru_readFact_148 (d : Nat) : decode (q_cc (m_ru_readFact d)) 148 = .ok (.iconst 1, 1) := by rw [show q_cc (m_ru_readFact d) = prog_7_method_7_code from rfl]; decide +kernel
theorem d_ru_readFact_149 (d : Nat) : decode (q_cc (m_ru_readFact d)) 149 = .ok (.goto 4, 3) := by rw [show q_cc (m_ru_readFact d) = prog_7_method_7_code from rfl]; decide +kernel
theorem d_ru_readFact_152 (d : Nat) : decode (q_cc (m_ru_readFact d)) 152 = .ok (.iconst 0, 1) := by rw [show q_cc (m_ru_readFact d) = prog_7_method_7_code from rfl]; decide +kernel
theorem d_ru_readFact_153 (d : Nat) : decode (q_cc (m_ru_readFact d)) 153 = .ok (.ireturn, 1) := by rw [show q_cc (m_ru_readFact d) = prog_7_method_7_code from rfl]; decide +kernel
theorem d_ru_readFact_154 (d : Nat) : decode (q_cc (m_ru_readFact d)) 154 = .ok (.aload_n 0, 1) := by rw [show q_cc (m_ru_readFact d) = prog_7_method_7_code from rfl]; decide +kernel
theorem d_ru_readFact_155 (d : Nat) : decode (q_cc (m_ru_readFact d)) 155 = .ok (.iload_n 1, 1) := by rw [show q_cc (m_ru_readFact d) = prog_7_method_7_code from rfl]; decide +kernel
theorem d_ru_readFact_156 (d : Nat) : decode (q_cc (m_ru_readFact d)) 156 = .ok (.invokevirtual 42, 3) := by rw [show q_cc (m_ru_readFact d) = prog_7_method_7_code from rfl]; decide +kernel
theorem d_ru_readFact_159 (d : Nat) : decode (q_cc (m_ru_readFact d)) 159 = .ok (.ifCond .ne 5, 3) := by rw [show q_cc (m_ru_readFact d) = prog_7_method_7_code from rfl]; decide +kernel
theorem d_ru_readFact_162 (d : Nat) : decode (q_cc (m_ru_readFact d)) 162 = .ok (.iconst 0, 1) := by rw [show q_cc (m_ru_readFact d) = prog_7_method_7_code from rfl]; decide +kernel
theorem d_ru_readFact_163 (d : Nat) : decode (q_cc (m_ru_readFact d)) 163 = .ok (.ireturn, 1) := by rw [show q_cc (m_ru_readFact d) = prog_7_method_7_code from rfl]; decide +kernel
theorem d_ru_readFact_164 (d : Nat) : decode (q_cc (m_ru_readFact d)) 164 = .ok (.aload_n 0, 1) := by rw [show q_cc (m_ru_readFact d) = prog_7_method_7_code from rfl]; decide +kernel
theorem d_ru_readFact_165 (d : Nat) : decode (q_cc (m_ru_readFact d)) 165 = .ok (.getfield 29, 3) := by rw [show q_cc (m_ru_readFact d) = prog_7_method_7_code from rfl]; decide +kernel
theorem d_ru_readFact_168 (d : Nat) : decode (q_cc (m_ru_readFact d)) 168 = .ok (.invokevirtual 77, 3) := by rw [show q_cc (m_ru_readFact d) = prog_7_method_7_code from rfl]; decide +kernel
theorem d_ru_readFact_171 (d : Nat) : decode (q_cc (m_ru_readFact d)) 171 = .ok (.istore_n 3, 1) := by rw [show q_cc (m_ru_readFact d) = prog_7_method_7_code from rfl]; decide +kernel
theorem d_ru_readFact_172 (d : Nat) : decode (q_cc (m_ru_readFact d)) 172 = .ok (.iload_n 3, 1) := by rw [show q_cc (m_ru_readFact d) = prog_7_method_7_code from rfl]; decide +kernel
theorem d_ru_readFact_173 (d : Nat) : decode (q_cc (m_ru_readFact d)) 173 = .ok (.bipush 60, 2) := by rw [show q_cc (m_ru_readFact d) = prog_7_method_7_code from rfl]; decide +kernel
theorem d_ru_readFact_175 (d : Nat) : decode (q_cc (m_ru_readFact d)) 175 = .ok (.if_icmp .eq 23, 3) := by rw [show q_cc (m_ru_readFact d) = prog_7_method_7_code from rfl]; decide +kernel
theorem d_ru_readFact_178 (d : Nat) : decode (q_cc (m_ru_readFact d)) 178 = .ok (.iload_n 3, 1) := by rw [show q_cc (m_ru_readFact d) = prog_7_method_7_code from rfl]; decide +kernel
theorem d_ru_readFact_179 (d : Nat) : decode (q_cc (m_ru_readFact d)) 179 = .ok (.bipush 62, 2) := by rw [show q_cc (m_ru_readFact d) = prog_7_method_7_code from rfl]; decide +kernel
theorem d_ru_readFact_181 (d : Nat) : decode (q_cc (m_ru_readFact d)) 181 = .ok (.if_icmp .eq 17, 3) := by rw [show q_cc (m_ru_readFact d) = prog_7_method_7_code from rfl]; decide +kernel
theorem d_ru_readFact_184 (d : Nat) : decode (q_cc (m_ru_readFact d)) 184 = .ok (.iload_n 3, 1) := by rw [show q_cc (m_ru_readFact d) = prog_7_method_7_code from rfl]; decide +kernel
theorem d_ru_readFact_185 (d : Nat) : decode (q_cc (m_ru_readFact d)) 185 = .ok (.bipush 61, 2) := by rw [show q_cc (m_ru_readFact d) = prog_7_method_7_code from rfl]; decide +kernel
theorem d_ru_readFact_187 (d : Nat) : decode (q_cc (m_ru_readFact d)) 187 = .ok (.if_icmp .eq 11, 3) := by rw [show q_cc (m_ru_readFact d) = prog_7_method_7_code from rfl]; decide +kernel
theorem d_ru_readFact_190 (d : Nat) : decode (q_cc (m_ru_readFact d)) 190 = .ok (.aload_n 0, 1) := by rw [show q_cc (m_ru_readFact d) = prog_7_method_7_code from rfl]; decide +kernel
theorem d_ru_readFact_191 (d : Nat) : decode (q_cc (m_ru_readFact d)) 191 = .ok (.getfield 29, 3) := by rw [show q_cc (m_ru_readFact d) = prog_7_method_7_code from rfl]; decide +kernel
theorem d_ru_readFact_194 (d : Nat) : decode (q_cc (m_ru_readFact d)) 194 = .ok (.invokevirtual 83, 3) := by rw [show q_cc (m_ru_readFact d) = prog_7_method_7_code from rfl]; decide +kernel
theorem d_ru_readFact_197 (d : Nat) : decode (q_cc (m_ru_readFact d)) 197 = .ok (.ireturn, 1) := by rw [show q_cc (m_ru_readFact d) = prog_7_method_7_code from rfl]; decide +kernel
theorem d_ru_readFact_198 (d : Nat) : decode (q_cc (m_ru_readFact d)) 198 = .ok (.aload_n 0, 1) := by rw [show q_cc (m_ru_readFact d) = prog_7_method_7_code from rfl]; decide +kernel
theorem d_ru_readFact_199 (d : Nat) : decode (q_cc (m_ru_readFact d)) 199 = .ok (.getfield 29, 3) := by rw [show q_cc (m_ru_readFact d) = prog_7_method_7_code from rfl]; decide +kernel
theorem d_ru_readFact_202 (d : Nat) : decode (q_cc (m_ru_readFact d)) 202 = .ok (.iload_n 3, 1) := by rw [show q_cc (m_ru_readFact d) = prog_7_method_7_code from rfl]; decide +kernel
theorem d_ru_readFact_203 (d : Nat) : decode (q_cc (m_ru_readFact d)) 203 = .ok (.invokevirtual 80, 3) := by rw [show q_cc (m_ru_readFact d) = prog_7_method_7_code from rfl]; decide +kernel
theorem d_ru_readFact_206 (d : Nat) : decode (q_cc (m_ru_readFact d)) 206 = .ok (.ifCond .eq 24, 3) := by rw [show q_cc (m_ru_readFact d) = prog_7_method_7_code from rfl]; decide +kernel
theorem d_ru_readFact_209 (d : Nat) : decode (q_cc (m_ru_readFact d)) 209 = .ok (.aload_n 0, 1) := by rw [show q_cc (m_ru_readFact d) = prog_7_method_7_code from rfl]; decide +kernel
theorem d_ru_readFact_210 (d : Nat) : decode (q_cc (m_ru_readFact d)) 210 = .ok (.iload_n 1, 1) := by rw [show q_cc (m_ru_readFact d) = prog_7_method_7_code from rfl]; decide +kernel
theorem d_ru_readFact_211 (d : Nat) : decode (q_cc (m_ru_readFact d)) 211 = .ok (.invokevirtual 42, 3) := by rw [show q_cc (m_ru_readFact d) = prog_7_method_7_code from rfl]; decide +kernel
theorem d_ru_readFact_214 (d : Nat) : decode (q_cc (m_ru_readFact d)) 214 = .ok (.ifCond .eq 16, 3) := by rw [show q_cc (m_ru_readFact d) = prog_7_method_7_code from rfl]; decide +kernel
theorem d_ru_readFact_217 (d : Nat) : decode (q_cc (m_ru_readFact d)) 217 = .ok (.aload_n 0, 1) := by rw [show q_cc (m_ru_readFact d) = prog_7_method_7_code from rfl]; decide +kernel
theorem d_ru_readFact_218 (d : Nat) : decode (q_cc (m_ru_readFact d)) 218 = .ok (.iload_n 3, 1) := by rw [show q_cc (m_ru_readFact d) = prog_7_method_7_code from rfl]; decide +kernel
theorem d_ru_readFact_219 (d : Nat) : decode (q_cc (m_ru_readFact d)) 219 = .ok (.ineg, 1) := by rw [show q_cc (m_ru_readFact d) = prog_7_method_7_code from rfl]; decide +kernel
theorem d_ru_readFact_220 (d : Nat) : decode (q_cc (m_ru_readFact d)) 220 = .ok (.invokevirtual 60, 3) := by rw [show q_cc (m_ru_readFact d) = prog_7_method_7_code from rfl]; decide +kernel
theorem d_ru_readFact_223 (d : Nat) : decode (q_cc (m_ru_readFact d)) 223 = .ok (.ifCond .eq 7, 3) := by rw [show q_cc (m_ru_readFact d) = prog_7_method_7_code from rfl]; decide +kernel
theorem d_ru_readFact_226 (d : Nat) : decode (q_cc (m_ru_readFact d)) 226 = .ok (.iconst 1, 1) := by rw [show q_cc (m_ru_readFact d) = prog_7_method_7_code from rfl]; decide +kernel
theorem d_ru_readFact_227 (d : Nat) : decode (q_cc (m_ru_readFact d)) 227 = .ok (.goto 4, 3) := by rw [show q_cc (m_ru_readFact d) = prog_7_method_7_code from rfl]; decide +kernel
theorem d_ru_readFact_230 (d : Nat) : decode (q_cc (m_ru_readFact d)) 230 = .ok (.iconst 0, 1) := by rw [show q_cc (m_ru_readFact d) = prog_7_method_7_code from rfl]; decide +kernel
theorem d_ru_readFact_231 (d : Nat) : decode (q_cc (m_ru_readFact d)) 231 = .ok (.ireturn, 1) := by rw [show q_cc (m_ru_readFact d) = prog_7_method_7_code from rfl]; decide +kernel
theorem d_ru_readSum_0 (d : Nat) : decode (q_cc (m_ru_readSum d)) 0 = .ok (.aload_n 0, 1) := by rw [show q_cc (m_ru_readSum d) = prog_7_method_8_code from rfl]; decide +kernel
theorem d_ru_readSum_1 (d : Nat) : decode (q_cc (m_ru_readSum d)) 1 = .ok (.iload_n 1, 1) := by rw [show q_cc (m_ru_readSum d) = prog_7_method_8_code from rfl]; decide +kernel
theorem d_ru_readSum_2 (d : Nat) : decode (q_cc (m_ru_readSum d)) 2 = .ok (.invokevirtual 86, 3) := by rw [show q_cc (m_ru_readSum d) = prog_7_method_8_code from rfl]; decide +kernel
theorem d_ru_readSum_5 (d : Nat) : decode (q_cc (m_ru_readSum d)) 5 = .ok (.ifCond .ne 5, 3) := by rw [show q_cc (m_ru_readSum d) = prog_7_method_8_code from rfl]; decide +kernel
theorem d_ru_readSum_8 (d : Nat) : decode (q_cc (m_ru_readSum d)) 8 = .ok (.iconst 0, 1) := by rw [show q_cc (m_ru_readSum d) = prog_7_method_8_code from rfl]; decide +kernel
theorem d_ru_readSum_9 (d : Nat) : decode (q_cc (m_ru_readSum d)) 9 = .ok (.ireturn, 1) := by rw [show q_cc (m_ru_readSum d) = prog_7_method_8_code from rfl]; decide +kernel
theorem d_ru_readSum_10 (d : Nat) : decode (q_cc (m_ru_readSum d)) 10 = .ok (.iconst 0, 1) := by rw [show q_cc (m_ru_readSum d) = prog_7_method_8_code from rfl]; decide +kernel
theorem d_ru_readSum_11 (d : Nat) : decode (q_cc (m_ru_readSum d)) 11 = .ok (.istore_n 2, 1) := by rw [show q_cc (m_ru_readSum d) = prog_7_method_8_code from rfl]; decide +kernel
theorem d_ru_readSum_12 (d : Nat) : decode (q_cc (m_ru_readSum d)) 12 = .ok (.iload_n 2, 1) := by rw [show q_cc (m_ru_readSum d) = prog_7_method_8_code from rfl]; decide +kernel
theorem d_ru_readSum_13 (d : Nat) : decode (q_cc (m_ru_readSum d)) 13 = .ok (.sipush 1600, 3) := by rw [show q_cc (m_ru_readSum d) = prog_7_method_8_code from rfl]; decide +kernel
theorem d_ru_readSum_16 (d : Nat) : decode (q_cc (m_ru_readSum d)) 16 = .ok (.if_icmp .ge 59, 3) := by rw [show q_cc (m_ru_readSum d) = prog_7_method_8_code from rfl]; decide +kernel
theorem d_ru_readSum_19 (d : Nat) : decode (q_cc (m_ru_readSum d)) 19 = .ok (.aload_n 0, 1) := by rw [show q_cc (m_ru_readSum d) = prog_7_method_8_code from rfl]; decide +kernel
theorem d_ru_readSum_20 (d : Nat) : decode (q_cc (m_ru_readSum d)) 20 = .ok (.getfield 29, 3) := by rw [show q_cc (m_ru_readSum d) = prog_7_method_8_code from rfl]; decide +kernel
theorem d_ru_readSum_23 (d : Nat) : decode (q_cc (m_ru_readSum d)) 23 = .ok (.invokevirtual 77, 3) := by rw [show q_cc (m_ru_readSum d) = prog_7_method_8_code from rfl]; decide +kernel
theorem d_ru_readSum_26 (d : Nat) : decode (q_cc (m_ru_readSum d)) 26 = .ok (.istore_n 3, 1) := by rw [show q_cc (m_ru_readSum d) = prog_7_method_8_code from rfl]; decide +kernel
theorem d_ru_readSum_27 (d : Nat) : decode (q_cc (m_ru_readSum d)) 27 = .ok (.iload_n 3, 1) := by rw [show q_cc (m_ru_readSum d) = prog_7_method_8_code from rfl]; decide +kernel
theorem d_ru_readSum_28 (d : Nat) : decode (q_cc (m_ru_readSum d)) 28 = .ok (.bipush 43, 2) := by rw [show q_cc (m_ru_readSum d) = prog_7_method_8_code from rfl]; decide +kernel
theorem d_ru_readSum_30 (d : Nat) : decode (q_cc (m_ru_readSum d)) 30 = .ok (.if_icmp .eq 11, 3) := by rw [show q_cc (m_ru_readSum d) = prog_7_method_8_code from rfl]; decide +kernel
theorem d_ru_readSum_33 (d : Nat) : decode (q_cc (m_ru_readSum d)) 33 = .ok (.iload_n 3, 1) := by rw [show q_cc (m_ru_readSum d) = prog_7_method_8_code from rfl]; decide +kernel
theorem d_ru_readSum_34 (d : Nat) : decode (q_cc (m_ru_readSum d)) 34 = .ok (.bipush 45, 2) := by rw [show q_cc (m_ru_readSum d) = prog_7_method_8_code from rfl]; decide +kernel
theorem d_ru_readSum_36 (d : Nat) : decode (q_cc (m_ru_readSum d)) 36 = .ok (.if_icmp .eq 5, 3) := by rw [show q_cc (m_ru_readSum d) = prog_7_method_8_code from rfl]; decide +kernel
theorem d_ru_readSum_39 (d : Nat) : decode (q_cc (m_ru_readSum d)) 39 = .ok (.iconst 1, 1) := by rw [show q_cc (m_ru_readSum d) = prog_7_method_8_code from rfl]; decide +kernel
theorem d_ru_readSum_40 (d : Nat) : decode (q_cc (m_ru_readSum d)) 40 = .ok (.ireturn, 1) := by rw [show q_cc (m_ru_readSum d) = prog_7_method_8_code from rfl]; decide +kernel
theorem d_ru_readSum_41 (d : Nat) : decode (q_cc (m_ru_readSum d)) 41 = .ok (.aload_n 0, 1) := by rw [show q_cc (m_ru_readSum d) = prog_7_method_8_code from rfl]; decide +kernel
theorem d_ru_readSum_42 (d : Nat) : decode (q_cc (m_ru_readSum d)) 42 = .ok (.getfield 29, 3) := by rw [show q_cc (m_ru_readSum d) = prog_7_method_8_code from rfl]; decide +kernel
theorem d_ru_readSum_45 (d : Nat) : decode (q_cc (m_ru_readSum d)) 45 = .ok (.iload_n 3, 1) := by rw [show q_cc (m_ru_readSum d) = prog_7_method_8_code from rfl]; decide +kernel
theorem d_ru_readSum_46 (d : Nat) : decode (q_cc (m_ru_readSum d)) 46 = .ok (.invokevirtual 80, 3) := by rw [show q_cc (m_ru_readSum d) = prog_7_method_8_code from rfl]; decide +kernel
theorem d_ru_readSum_49 (d : Nat) : decode (q_cc (m_ru_readSum d)) 49 = .ok (.ifCond .eq 11, 3) := by rw [show q_cc (m_ru_readSum d) = prog_7_method_8_code from rfl]; decide +kernel
theorem d_ru_readSum_52 (d : Nat) : decode (q_cc (m_ru_readSum d)) 52 = .ok (.aload_n 0, 1) := by rw [show q_cc (m_ru_readSum d) = prog_7_method_8_code from rfl]; decide +kernel
theorem d_ru_readSum_53 (d : Nat) : decode (q_cc (m_ru_readSum d)) 53 = .ok (.iload_n 1, 1) := by rw [show q_cc (m_ru_readSum d) = prog_7_method_8_code from rfl]; decide +kernel
theorem d_ru_readSum_54 (d : Nat) : decode (q_cc (m_ru_readSum d)) 54 = .ok (.invokevirtual 86, 3) := by rw [show q_cc (m_ru_readSum d) = prog_7_method_8_code from rfl]; decide +kernel
theorem d_ru_readSum_57 (d : Nat) : decode (q_cc (m_ru_readSum d)) 57 = .ok (.ifCond .ne 5, 3) := by rw [show q_cc (m_ru_readSum d) = prog_7_method_8_code from rfl]; decide +kernel
theorem d_ru_readSum_60 (d : Nat) : decode (q_cc (m_ru_readSum d)) 60 = .ok (.iconst 0, 1) := by rw [show q_cc (m_ru_readSum d) = prog_7_method_8_code from rfl]; decide +kernel
theorem d_ru_readSum_61 (d : Nat) : decode (q_cc (m_ru_readSum d)) 61 = .ok (.ireturn, 1) := by rw [show q_cc (m_ru_readSum d) = prog_7_method_8_code from rfl]; decide +kernel
theorem d_ru_readSum_62 (d : Nat) : decode (q_cc (m_ru_readSum d)) 62 = .ok (.aload_n 0, 1) := by rw [show q_cc (m_ru_readSum d) = prog_7_method_8_code from rfl]; decide +kernel
theorem d_ru_readSum_63 (d : Nat) : decode (q_cc (m_ru_readSum d)) 63 = .ok (.iload_n 3, 1) := by rw [show q_cc (m_ru_readSum d) = prog_7_method_8_code from rfl]; decide +kernel
theorem d_ru_readSum_64 (d : Nat) : decode (q_cc (m_ru_readSum d)) 64 = .ok (.ineg, 1) := by rw [show q_cc (m_ru_readSum d) = prog_7_method_8_code from rfl]; decide +kernel
theorem d_ru_readSum_65 (d : Nat) : decode (q_cc (m_ru_readSum d)) 65 = .ok (.invokevirtual 60, 3) := by rw [show q_cc (m_ru_readSum d) = prog_7_method_8_code from rfl]; decide +kernel
theorem d_ru_readSum_68 (d : Nat) : decode (q_cc (m_ru_readSum d)) 68 = .ok (.pop, 1) := by rw [show q_cc (m_ru_readSum d) = prog_7_method_8_code from rfl]; decide +kernel
theorem d_ru_readSum_69 (d : Nat) : decode (q_cc (m_ru_readSum d)) 69 = .ok (.iinc 2 1, 3) := by rw [show q_cc (m_ru_readSum d) = prog_7_method_8_code from rfl]; decide +kernel
theorem d_ru_readSum_72 (d : Nat) : decode (q_cc (m_ru_readSum d)) 72 = .ok (.goto (-60), 3) := by rw [show q_cc (m_ru_readSum d) = prog_7_method_8_code from rfl]; decide +kernel
theorem d_ru_readSum_75 (d : Nat) : decode (q_cc (m_ru_readSum d)) 75 = .ok (.iconst 1, 1) := by rw [show q_cc (m_ru_readSum d) = prog_7_method_8_code from rfl]; decide +kernel
theorem d_ru_readSum_76 (d : Nat) : decode (q_cc (m_ru_readSum d)) 76 = .ok (.ireturn, 1) := by rw [show q_cc (m_ru_readSum d) = prog_7_method_8_code from rfl]; decide +kernel
theorem d_ru_readProduct_0 (d : Nat) : decode (q_cc (m_ru_readProduct d)) 0 = .ok (.aload_n 0, 1) := by rw [show q_cc (m_ru_readProduct d) = prog_7_method_9_code from rfl]; decide +kernel
theorem d_ru_readProduct_1 (d : Nat) : decode (q_cc (m_ru_readProduct d)) 1 = .ok (.iload_n 1, 1) := by rw [show q_cc (m_ru_readProduct d) = prog_7_method_9_code from rfl]; decide +kernel
theorem d_ru_readProduct_2 (d : Nat) : decode (q_cc (m_ru_readProduct d)) 2 = .ok (.invokevirtual 89, 3) := by rw [show q_cc (m_ru_readProduct d) = prog_7_method_9_code from rfl]; decide +kernel
theorem d_ru_readProduct_5 (d : Nat) : decode (q_cc (m_ru_readProduct d)) 5 = .ok (.ifCond .ne 5, 3) := by rw [show q_cc (m_ru_readProduct d) = prog_7_method_9_code from rfl]; decide +kernel
theorem d_ru_readProduct_8 (d : Nat) : decode (q_cc (m_ru_readProduct d)) 8 = .ok (.iconst 0, 1) := by rw [show q_cc (m_ru_readProduct d) = prog_7_method_9_code from rfl]; decide +kernel
theorem d_ru_readProduct_9 (d : Nat) : decode (q_cc (m_ru_readProduct d)) 9 = .ok (.ireturn, 1) := by rw [show q_cc (m_ru_readProduct d) = prog_7_method_9_code from rfl]; decide +kernel
theorem d_ru_readProduct_10 (d : Nat) : decode (q_cc (m_ru_readProduct d)) 10 = .ok (.iconst 0, 1) := by rw [show q_cc (m_ru_readProduct d) = prog_7_method_9_code from rfl]; decide +kernel
theorem d_ru_readProduct_11 (d : Nat) : decode (q_cc (m_ru_readProduct d)) 11 = .ok (.istore_n 2, 1) := by rw [show q_cc (m_ru_readProduct d) = prog_7_method_9_code from rfl]; decide +kernel
theorem d_ru_readProduct_12 (d : Nat) : decode (q_cc (m_ru_readProduct d)) 12 = .ok (.iload_n 2, 1) := by rw [show q_cc (m_ru_readProduct d) = prog_7_method_9_code from rfl]; decide +kernel
theorem d_ru_readProduct_13 (d : Nat) : decode (q_cc (m_ru_readProduct d)) 13 = .ok (.sipush 1600, 3) := by rw [show q_cc (m_ru_readProduct d) = prog_7_method_9_code from rfl]; decide +kernel
theorem d_ru_readProduct_16 (d : Nat) : decode (q_cc (m_ru_readProduct d)) 16 = .ok (.if_icmp .ge 59, 3) := by rw [show q_cc (m_ru_readProduct d) = prog_7_method_9_code from rfl]; decide +kernel
theorem d_ru_readProduct_19 (d : Nat) : decode (q_cc (m_ru_readProduct d)) 19 = .ok (.aload_n 0, 1) := by rw [show q_cc (m_ru_readProduct d) = prog_7_method_9_code from rfl]; decide +kernel
theorem d_ru_readProduct_20 (d : Nat) : decode (q_cc (m_ru_readProduct d)) 20 = .ok (.getfield 29, 3) := by rw [show q_cc (m_ru_readProduct d) = prog_7_method_9_code from rfl]; decide +kernel
theorem d_ru_readProduct_23 (d : Nat) : decode (q_cc (m_ru_readProduct d)) 23 = .ok (.invokevirtual 77, 3) := by rw [show q_cc (m_ru_readProduct d) = prog_7_method_9_code from rfl]; decide +kernel
theorem d_ru_readProduct_26 (d : Nat) : decode (q_cc (m_ru_readProduct d)) 26 = .ok (.istore_n 3, 1) := by rw [show q_cc (m_ru_readProduct d) = prog_7_method_9_code from rfl]; decide +kernel
theorem d_ru_readProduct_27 (d : Nat) : decode (q_cc (m_ru_readProduct d)) 27 = .ok (.iload_n 3, 1) := by rw [show q_cc (m_ru_readProduct d) = prog_7_method_9_code from rfl]; decide +kernel
theorem d_ru_readProduct_28 (d : Nat) : decode (q_cc (m_ru_readProduct d)) 28 = .ok (.bipush 42, 2) := by rw [show q_cc (m_ru_readProduct d) = prog_7_method_9_code from rfl]; decide +kernel
theorem d_ru_readProduct_30 (d : Nat) : decode (q_cc (m_ru_readProduct d)) 30 = .ok (.if_icmp .eq 11, 3) := by rw [show q_cc (m_ru_readProduct d) = prog_7_method_9_code from rfl]; decide +kernel
theorem d_ru_readProduct_33 (d : Nat) : decode (q_cc (m_ru_readProduct d)) 33 = .ok (.iload_n 3, 1) := by rw [show q_cc (m_ru_readProduct d) = prog_7_method_9_code from rfl]; decide +kernel
theorem d_ru_readProduct_34 (d : Nat) : decode (q_cc (m_ru_readProduct d)) 34 = .ok (.bipush 47, 2) := by rw [show q_cc (m_ru_readProduct d) = prog_7_method_9_code from rfl]; decide +kernel
theorem d_ru_readProduct_36 (d : Nat) : decode (q_cc (m_ru_readProduct d)) 36 = .ok (.if_icmp .eq 5, 3) := by rw [show q_cc (m_ru_readProduct d) = prog_7_method_9_code from rfl]; decide +kernel
theorem d_ru_readProduct_39 (d : Nat) : decode (q_cc (m_ru_readProduct d)) 39 = .ok (.iconst 1, 1) := by rw [show q_cc (m_ru_readProduct d) = prog_7_method_9_code from rfl]; decide +kernel
theorem d_ru_readProduct_40 (d : Nat) : decode (q_cc (m_ru_readProduct d)) 40 = .ok (.ireturn, 1) := by rw [show q_cc (m_ru_readProduct d) = prog_7_method_9_code from rfl]; decide +kernel
theorem d_ru_readProduct_41 (d : Nat) : decode (q_cc (m_ru_readProduct d)) 41 = .ok (.aload_n 0, 1) := by rw [show q_cc (m_ru_readProduct d) = prog_7_method_9_code from rfl]; decide +kernel
theorem d_ru_readProduct_42 (d : Nat) : decode (q_cc (m_ru_readProduct d)) 42 = .ok (.getfield 29, 3) := by rw [show q_cc (m_ru_readProduct d) = prog_7_method_9_code from rfl]; decide +kernel
theorem d_ru_readProduct_45 (d : Nat) : decode (q_cc (m_ru_readProduct d)) 45 = .ok (.iload_n 3, 1) := by rw [show q_cc (m_ru_readProduct d) = prog_7_method_9_code from rfl]; decide +kernel
theorem d_ru_readProduct_46 (d : Nat) : decode (q_cc (m_ru_readProduct d)) 46 = .ok (.invokevirtual 80, 3) := by rw [show q_cc (m_ru_readProduct d) = prog_7_method_9_code from rfl]; decide +kernel
theorem d_ru_readProduct_49 (d : Nat) : decode (q_cc (m_ru_readProduct d)) 49 = .ok (.ifCond .eq 11, 3) := by rw [show q_cc (m_ru_readProduct d) = prog_7_method_9_code from rfl]; decide +kernel
theorem d_ru_readProduct_52 (d : Nat) : decode (q_cc (m_ru_readProduct d)) 52 = .ok (.aload_n 0, 1) := by rw [show q_cc (m_ru_readProduct d) = prog_7_method_9_code from rfl]; decide +kernel
theorem d_ru_readProduct_53 (d : Nat) : decode (q_cc (m_ru_readProduct d)) 53 = .ok (.iload_n 1, 1) := by rw [show q_cc (m_ru_readProduct d) = prog_7_method_9_code from rfl]; decide +kernel
theorem d_ru_readProduct_54 (d : Nat) : decode (q_cc (m_ru_readProduct d)) 54 = .ok (.invokevirtual 89, 3) := by rw [show q_cc (m_ru_readProduct d) = prog_7_method_9_code from rfl]; decide +kernel
theorem d_ru_readProduct_57 (d : Nat) : decode (q_cc (m_ru_readProduct d)) 57 = .ok (.ifCond .ne 5, 3) := by rw [show q_cc (m_ru_readProduct d) = prog_7_method_9_code from rfl]; decide +kernel
theorem d_ru_readProduct_60 (d : Nat) : decode (q_cc (m_ru_readProduct d)) 60 = .ok (.iconst 0, 1) := by rw [show q_cc (m_ru_readProduct d) = prog_7_method_9_code from rfl]; decide +kernel
theorem d_ru_readProduct_61 (d : Nat) : decode (q_cc (m_ru_readProduct d)) 61 = .ok (.ireturn, 1) := by rw [show q_cc (m_ru_readProduct d) = prog_7_method_9_code from rfl]; decide +kernel
theorem d_ru_readProduct_62 (d : Nat) : decode (q_cc (m_ru_readProduct d)) 62 = .ok (.aload_n 0, 1) := by rw [show q_cc (m_ru_readProduct d) = prog_7_method_9_code from rfl]; decide +kernel
theorem d_ru_readProduct_63 (d : Nat) : decode (q_cc (m_ru_readProduct d)) 63 = .ok (.iload_n 3, 1) := by rw [show q_cc (m_ru_readProduct d) = prog_7_method_9_code from rfl]; decide +kernel
theorem d_ru_readProduct_64 (d : Nat) : decode (q_cc (m_ru_readProduct d)) 64 = .ok (.ineg, 1) := by rw [show q_cc (m_ru_readProduct d) = prog_7_method_9_code from rfl]; decide +kernel
theorem d_ru_readProduct_65 (d : Nat) : decode (q_cc (m_ru_readProduct d)) 65 = .ok (.invokevirtual 60, 3) := by rw [show q_cc (m_ru_readProduct d) = prog_7_method_9_code from rfl]; decide +kernel
theorem d_ru_readProduct_68 (d : Nat) : decode (q_cc (m_ru_readProduct d)) 68 = .ok (.pop, 1) := by rw [show q_cc (m_ru_readProduct d) = prog_7_method_9_code from rfl]; decide +kernel
theorem d_ru_readProduct_69 (d : Nat) : decode (q_cc (m_ru_readProduct d)) 69 = .ok (.iinc 2 1, 3) := by rw [show q_cc (m_ru_readProduct d) = prog_7_method_9_code from rfl]; decide +kernel
theorem d_ru_readProduct_72 (d : Nat) : decode (q_cc (m_ru_readProduct d)) 72 = .ok (.goto (-60), 3) := by rw [show q_cc (m_ru_readProduct d) = prog_7_method_9_code from rfl]; decide +kernel
theorem d_ru_readProduct_75 (d : Nat) : decode (q_cc (m_ru_readProduct d)) 75 = .ok (.iconst 1, 1) := by rw [show q_cc (m_ru_readProduct d) = prog_7_method_9_code from rfl]; decide +kernel
theorem d_ru_readProduct_76 (d : Nat) : decode (q_cc (m_ru_readProduct d)) 76 = .ok (.ireturn, 1) := by rw [show q_cc (m_ru_readProduct d) = prog_7_method_9_code from rfl]; decide +kernel
theorem d_ru_readPart_0 (d : Nat) : decode (q_cc (m_ru_readPart d)) 0 = .ok (.aload_n 0, 1) := by rw [show q_cc (m_ru_readPart d) = prog_7_method_10_code from rfl]; decide +kernel
theorem d_ru_readPart_1 (d : Nat) : decode (q_cc (m_ru_readPart d)) 1 = .ok (.getfield 29, 3) := by rw [show q_cc (m_ru_readPart d) = prog_7_method_10_code from rfl]; decide +kernel
theorem d_ru_readPart_4 (d : Nat) : decode (q_cc (m_ru_readPart d)) 4 = .ok (.invokevirtual 77, 3) := by rw [show q_cc (m_ru_readPart d) = prog_7_method_10_code from rfl]; decide +kernel
theorem d_ru_readPart_7 (d : Nat) : decode (q_cc (m_ru_readPart d)) 7 = .ok (.istore_n 2, 1) := by rw [show q_cc (m_ru_readPart d) = prog_7_method_10_code from rfl]; decide +kernel
theorem d_ru_readPart_8 (d : Nat) : decode (q_cc (m_ru_readPart d)) 8 = .ok (.iload_n 2, 1) := by rw [show q_cc (m_ru_readPart d) = prog_7_method_10_code from rfl]; decide +kernel
theorem d_ru_readPart_9 (d : Nat) : decode (q_cc (m_ru_readPart d)) 9 = .ok (.invokestatic 92, 3) := by rw [show q_cc (m_ru_readPart d) = prog_7_method_10_code from rfl]; decide +kernel
theorem d_ru_readPart_12 (d : Nat) : decode (q_cc (m_ru_readPart d)) 12 = .ok (.ifCond .eq 37, 3) := by rw [show q_cc (m_ru_readPart d) = prog_7_method_10_code from rfl]; decide +kernel
theorem d_ru_readPart_15 (d : Nat) : decode (q_cc (m_ru_readPart d)) 15 = .ok (.aload_n 0, 1) := by rw [show q_cc (m_ru_readPart d) = prog_7_method_10_code from rfl]; decide +kernel
theorem d_ru_readPart_16 (d : Nat) : decode (q_cc (m_ru_readPart d)) 16 = .ok (.getfield 29, 3) := by rw [show q_cc (m_ru_readPart d) = prog_7_method_10_code from rfl]; decide +kernel
theorem d_ru_readPart_19 (d : Nat) : decode (q_cc (m_ru_readPart d)) 19 = .ok (.iconst 0, 1) := by rw [show q_cc (m_ru_readPart d) = prog_7_method_10_code from rfl]; decide +kernel
theorem d_ru_readPart_20 (d : Nat) : decode (q_cc (m_ru_readPart d)) 20 = .ok (.sipush 9999, 3) := by rw [show q_cc (m_ru_readPart d) = prog_7_method_10_code from rfl]; decide +kernel
theorem d_ru_readPart_23 (d : Nat) : decode (q_cc (m_ru_readPart d)) 23 = .ok (.invokevirtual 95, 3) := by rw [show q_cc (m_ru_readPart d) = prog_7_method_10_code from rfl]; decide +kernel
theorem d_ru_readPart_26 (d : Nat) : decode (q_cc (m_ru_readPart d)) 26 = .ok (.ifCond .eq 21, 3) := by rw [show q_cc (m_ru_readPart d) = prog_7_method_10_code from rfl]; decide +kernel
theorem d_ru_readPart_29 (d : Nat) : decode (q_cc (m_ru_readPart d)) 29 = .ok (.aload_n 0, 1) := by rw [show q_cc (m_ru_readPart d) = prog_7_method_10_code from rfl]; decide +kernel
theorem d_ru_readPart_30 (d : Nat) : decode (q_cc (m_ru_readPart d)) 30 = .ok (.aload_n 0, 1) := by rw [show q_cc (m_ru_readPart d) = prog_7_method_10_code from rfl]; decide +kernel
theorem d_ru_readPart_31 (d : Nat) : decode (q_cc (m_ru_readPart d)) 31 = .ok (.getfield 29, 3) := by rw [show q_cc (m_ru_readPart d) = prog_7_method_10_code from rfl]; decide +kernel
theorem d_ru_readPart_34 (d : Nat) : decode (q_cc (m_ru_readPart d)) 34 = .ok (.getfield 99, 3) := by rw [show q_cc (m_ru_readPart d) = prog_7_method_10_code from rfl]; decide +kernel
theorem d_ru_readPart_37 (d : Nat) : decode (q_cc (m_ru_readPart d)) 37 = .ok (.invokevirtual 60, 3) := by rw [show q_cc (m_ru_readPart d) = prog_7_method_10_code from rfl]; decide +kernel
theorem d_ru_readPart_40 (d : Nat) : decode (q_cc (m_ru_readPart d)) 40 = .ok (.ifCond .eq 7, 3) := by rw [show q_cc (m_ru_readPart d) = prog_7_method_10_code from rfl]; decide +kernel
theorem d_ru_readPart_43 (d : Nat) : decode (q_cc (m_ru_readPart d)) 43 = .ok (.iconst 1, 1) := by rw [show q_cc (m_ru_readPart d) = prog_7_method_10_code from rfl]; decide +kernel
theorem d_ru_readPart_44 (d : Nat) : decode (q_cc (m_ru_readPart d)) 44 = .ok (.goto 4, 3) := by rw [show q_cc (m_ru_readPart d) = prog_7_method_10_code from rfl]; decide +kernel
theorem d_ru_readPart_47 (d : Nat) : decode (q_cc (m_ru_readPart d)) 47 = .ok (.iconst 0, 1) := by rw [show q_cc (m_ru_readPart d) = prog_7_method_10_code from rfl]; decide +kernel
theorem d_ru_readPart_48 (d : Nat) : decode (q_cc (m_ru_readPart d)) 48 = .ok (.ireturn, 1) := by rw [show q_cc (m_ru_readPart d) = prog_7_method_10_code from rfl]; decide +kernel
theorem d_ru_readPart_49 (d : Nat) : decode (q_cc (m_ru_readPart d)) 49 = .ok (.iload_n 2, 1) := by rw [show q_cc (m_ru_readPart d) = prog_7_method_10_code from rfl]; decide +kernel
theorem d_ru_readPart_50 (d : Nat) : decode (q_cc (m_ru_readPart d)) 50 = .ok (.bipush 40, 2) := by rw [show q_cc (m_ru_readPart d) = prog_7_method_10_code from rfl]; decide +kernel
theorem d_ru_readPart_52 (d : Nat) : decode (q_cc (m_ru_readPart d)) 52 = .ok (.if_icmp .ne 51, 3) := by rw [show q_cc (m_ru_readPart d) = prog_7_method_10_code from rfl]; decide +kernel
theorem d_ru_readPart_55 (d : Nat) : decode (q_cc (m_ru_readPart d)) 55 = .ok (.aload_n 0, 1) := by rw [show q_cc (m_ru_readPart d) = prog_7_method_10_code from rfl]; decide +kernel
theorem d_ru_readPart_56 (d : Nat) : decode (q_cc (m_ru_readPart d)) 56 = .ok (.iload_n 1, 1) := by rw [show q_cc (m_ru_readPart d) = prog_7_method_10_code from rfl]; decide +kernel
theorem d_ru_readPart_57 (d : Nat) : decode (q_cc (m_ru_readPart d)) 57 = .ok (.invokevirtual 70, 3) := by rw [show q_cc (m_ru_readPart d) = prog_7_method_10_code from rfl]; decide +kernel
theorem d_ru_readPart_60 (d : Nat) : decode (q_cc (m_ru_readPart d)) 60 = .ok (.ifCond .eq 41, 3) := by rw [show q_cc (m_ru_readPart d) = prog_7_method_10_code from rfl]; decide +kernel
theorem d_ru_readPart_63 (d : Nat) : decode (q_cc (m_ru_readPart d)) 63 = .ok (.aload_n 0, 1) := by rw [show q_cc (m_ru_readPart d) = prog_7_method_10_code from rfl]; decide +kernel
theorem d_ru_readPart_64 (d : Nat) : decode (q_cc (m_ru_readPart d)) 64 = .ok (.getfield 29, 3) := by rw [show q_cc (m_ru_readPart d) = prog_7_method_10_code from rfl]; decide +kernel
theorem d_ru_readPart_67 (d : Nat) : decode (q_cc (m_ru_readPart d)) 67 = .ok (.bipush 40, 2) := by rw [show q_cc (m_ru_readPart d) = prog_7_method_10_code from rfl]; decide +kernel
theorem d_ru_readPart_69 (d : Nat) : decode (q_cc (m_ru_readPart d)) 69 = .ok (.invokevirtual 80, 3) := by rw [show q_cc (m_ru_readPart d) = prog_7_method_10_code from rfl]; decide +kernel
theorem d_ru_readPart_72 (d : Nat) : decode (q_cc (m_ru_readPart d)) 72 = .ok (.ifCond .eq 29, 3) := by rw [show q_cc (m_ru_readPart d) = prog_7_method_10_code from rfl]; decide +kernel
theorem d_ru_readPart_75 (d : Nat) : decode (q_cc (m_ru_readPart d)) 75 = .ok (.aload_n 0, 1) := by rw [show q_cc (m_ru_readPart d) = prog_7_method_10_code from rfl]; decide +kernel
theorem d_ru_readPart_76 (d : Nat) : decode (q_cc (m_ru_readPart d)) 76 = .ok (.iload_n 1, 1) := by rw [show q_cc (m_ru_readPart d) = prog_7_method_10_code from rfl]; decide +kernel
theorem d_ru_readPart_77 (d : Nat) : decode (q_cc (m_ru_readPart d)) 77 = .ok (.iconst 1, 1) := by rw [show q_cc (m_ru_readPart d) = prog_7_method_10_code from rfl]; decide +kernel
theorem d_ru_readPart_78 (d : Nat) : decode (q_cc (m_ru_readPart d)) 78 = .ok (.iadd, 1) := by rw [show q_cc (m_ru_readPart d) = prog_7_method_10_code from rfl]; decide +kernel
theorem d_ru_readPart_79 (d : Nat) : decode (q_cc (m_ru_readPart d)) 79 = .ok (.invokevirtual 42, 3) := by rw [show q_cc (m_ru_readPart d) = prog_7_method_10_code from rfl]; decide +kernel
theorem d_ru_readPart_82 (d : Nat) : decode (q_cc (m_ru_readPart d)) 82 = .ok (.ifCond .eq 19, 3) := by rw [show q_cc (m_ru_readPart d) = prog_7_method_10_code from rfl]; decide +kernel
theorem d_ru_readPart_85 (d : Nat) : decode (q_cc (m_ru_readPart d)) 85 = .ok (.aload_n 0, 1) := by rw [show q_cc (m_ru_readPart d) = prog_7_method_10_code from rfl]; decide +kernel
theorem d_ru_readPart_86 (d : Nat) : decode (q_cc (m_ru_readPart d)) 86 = .ok (.getfield 29, 3) := by rw [show q_cc (m_ru_readPart d) = prog_7_method_10_code from rfl]; decide +kernel
theorem d_ru_readPart_89 (d : Nat) : decode (q_cc (m_ru_readPart d)) 89 = .ok (.bipush 41, 2) := by rw [show q_cc (m_ru_readPart d) = prog_7_method_10_code from rfl]; decide +kernel
theorem d_ru_readPart_91 (d : Nat) : decode (q_cc (m_ru_readPart d)) 91 = .ok (.invokevirtual 80, 3) := by rw [show q_cc (m_ru_readPart d) = prog_7_method_10_code from rfl]; decide +kernel
theorem d_ru_readPart_94 (d : Nat) : decode (q_cc (m_ru_readPart d)) 94 = .ok (.ifCond .eq 7, 3) := by rw [show q_cc (m_ru_readPart d) = prog_7_method_10_code from rfl]; decide +kernel
theorem d_ru_readPart_97 (d : Nat) : decode (q_cc (m_ru_readPart d)) 97 = .ok (.iconst 1, 1) := by rw [show q_cc (m_ru_readPart d) = prog_7_method_10_code from rfl]; decide +kernel
theorem d_ru_readPart_98 (d : Nat) : decode (q_cc (m_ru_readPart d)) 98 = .ok (.goto 4, 3) := by rw [show q_cc (m_ru_readPart d) = prog_7_method_10_code from rfl]; decide +kernel
theorem d_ru_readPart_101 (d : Nat) : decode (q_cc (m_ru_readPart d)) 101 = .ok (.iconst 0, 1) := by rw [show q_cc (m_ru_readPart d) = prog_7_method_10_code from rfl]; decide +kernel
theorem d_ru_readPart_102 (d : Nat) : decode (q_cc (m_ru_readPart d)) 102 = .ok (.ireturn, 1) := by rw [show q_cc (m_ru_readPart d) = prog_7_method_10_code from rfl]; decide +kernel
theorem d_ru_readPart_103 (d : Nat) : decode (q_cc (m_ru_readPart d)) 103 = .ok (.aload_n 0, 1) := by rw [show q_cc (m_ru_readPart d) = prog_7_method_10_code from rfl]; decide +kernel
theorem d_ru_readPart_104 (d : Nat) : decode (q_cc (m_ru_readPart d)) 104 = .ok (.getfield 29, 3) := by rw [show q_cc (m_ru_readPart d) = prog_7_method_10_code from rfl]; decide +kernel
theorem d_ru_readPart_107 (d : Nat) : decode (q_cc (m_ru_readPart d)) 107 = .ok (.invokevirtual 66, 3) := by rw [show q_cc (m_ru_readPart d) = prog_7_method_10_code from rfl]; decide +kernel
theorem d_ru_readPart_110 (d : Nat) : decode (q_cc (m_ru_readPart d)) 110 = .ok (.istore_n 3, 1) := by rw [show q_cc (m_ru_readPart d) = prog_7_method_10_code from rfl]; decide +kernel
theorem d_ru_readPart_111 (d : Nat) : decode (q_cc (m_ru_readPart d)) 111 = .ok (.iload_n 3, 1) := by rw [show q_cc (m_ru_readPart d) = prog_7_method_10_code from rfl]; decide +kernel
theorem d_ru_readPart_112 (d : Nat) : decode (q_cc (m_ru_readPart d)) 112 = .ok (.tableswitch 168 3 24 #[104, 168, 168, 168, 168, 168, 104, 104, 168, 168, 168, 168, 168, 168, 168, 168, 168, 104, 104, 104, 132, 132], 104) := by rw [show q_cc (m_ru_readPart d) = prog_7_method_10_code from rfl]; decide +kernel
theorem d_ru_readPart_216 (d : Nat) : decode (q_cc (m_ru_readPart d)) 216 = .ok (.aload_n 0, 1) := by rw [show q_cc (m_ru_readPart d) = prog_7_method_10_code from rfl]; decide +kernel
theorem d_ru_readPart_217 (d : Nat) : decode (q_cc (m_ru_readPart d)) 217 = .ok (.getfield 29, 3) := by rw [show q_cc (m_ru_readPart d) = prog_7_method_10_code from rfl]; decide +kernel
theorem d_ru_readPart_220 (d : Nat) : decode (q_cc (m_ru_readPart d)) 220 = .ok (.invokevirtual 73, 3) := by rw [show q_cc (m_ru_readPart d) = prog_7_method_10_code from rfl]; decide +kernel
theorem d_ru_readPart_223 (d : Nat) : decode (q_cc (m_ru_readPart d)) 223 = .ok (.ifCond .eq 19, 3) := by rw [show q_cc (m_ru_readPart d) = prog_7_method_10_code from rfl]; decide +kernel
theorem d_ru_readPart_226 (d : Nat) : decode (q_cc (m_ru_readPart d)) 226 = .ok (.aload_n 0, 1) := by rw [show q_cc (m_ru_readPart d) = prog_7_method_10_code from rfl]; decide +kernel
theorem d_ru_readPart_227 (d : Nat) : decode (q_cc (m_ru_readPart d)) 227 = .ok (.sipush (-200), 3) := by rw [show q_cc (m_ru_readPart d) = prog_7_method_10_code from rfl]; decide +kernel
theorem d_ru_readPart_230 (d : Nat) : decode (q_cc (m_ru_readPart d)) 230 = .ok (.iload_n 3, 1) := by rw [show q_cc (m_ru_readPart d) = prog_7_method_10_code from rfl]; decide +kernel
theorem d_ru_readPart_231 (d : Nat) : decode (q_cc (m_ru_readPart d)) 231 = .ok (.isub, 1) := by rw [show q_cc (m_ru_readPart d) = prog_7_method_10_code from rfl]; decide +kernel
theorem d_ru_readPart_232 (d : Nat) : decode (q_cc (m_ru_readPart d)) 232 = .ok (.invokevirtual 60, 3) := by rw [show q_cc (m_ru_readPart d) = prog_7_method_10_code from rfl]; decide +kernel
theorem d_ru_readPart_235 (d : Nat) : decode (q_cc (m_ru_readPart d)) 235 = .ok (.ifCond .eq 7, 3) := by rw [show q_cc (m_ru_readPart d) = prog_7_method_10_code from rfl]; decide +kernel
theorem d_ru_readPart_238 (d : Nat) : decode (q_cc (m_ru_readPart d)) 238 = .ok (.iconst 1, 1) := by rw [show q_cc (m_ru_readPart d) = prog_7_method_10_code from rfl]; decide +kernel
theorem d_ru_readPart_239 (d : Nat) : decode (q_cc (m_ru_readPart d)) 239 = .ok (.goto 4, 3) := by rw [show q_cc (m_ru_readPart d) = prog_7_method_10_code from rfl]; decide +kernel
theorem d_ru_readPart_242 (d : Nat) : decode (q_cc (m_ru_readPart d)) 242 = .ok (.iconst 0, 1) := by rw [show q_cc (m_ru_readPart d) = prog_7_method_10_code from rfl]; decide +kernel
theorem d_ru_readPart_243 (d : Nat) : decode (q_cc (m_ru_readPart d)) 243 = .ok (.ireturn, 1) := by rw [show q_cc (m_ru_readPart d) = prog_7_method_10_code from rfl]; decide +kernel
theorem d_ru_readPart_244 (d : Nat) : decode (q_cc (m_ru_readPart d)) 244 = .ok (.aload_n 0, 1) := by rw [show q_cc (m_ru_readPart d) = prog_7_method_10_code from rfl]; decide +kernel
theorem d_ru_readPart_245 (d : Nat) : decode (q_cc (m_ru_readPart d)) 245 = .ok (.getfield 29, 3) := by rw [show q_cc (m_ru_readPart d) = prog_7_method_10_code from rfl]; decide +kernel
theorem d_ru_readPart_248 (d : Nat) : decode (q_cc (m_ru_readPart d)) 248 = .ok (.invokevirtual 73, 3) := by rw [show q_cc (m_ru_readPart d) = prog_7_method_10_code from rfl]; decide +kernel
theorem d_ru_readPart_251 (d : Nat) : decode (q_cc (m_ru_readPart d)) 251 = .ok (.ifCond .eq 27, 3) := by rw [show q_cc (m_ru_readPart d) = prog_7_method_10_code from rfl]; decide +kernel
theorem d_ru_readPart_254 (d : Nat) : decode (q_cc (m_ru_readPart d)) 254 = .ok (.aload_n 0, 1) := by rw [show q_cc (m_ru_readPart d) = prog_7_method_10_code from rfl]; decide +kernel
theorem d_ru_readPart_255 (d : Nat) : decode (q_cc (m_ru_readPart d)) 255 = .ok (.iload_n 1, 1) := by rw [show q_cc (m_ru_readPart d) = prog_7_method_10_code from rfl]; decide +kernel
theorem d_ru_readPart_256 (d : Nat) : decode (q_cc (m_ru_readPart d)) 256 = .ok (.invokevirtual 102, 3) := by rw [show q_cc (m_ru_readPart d) = prog_7_method_10_code from rfl]; decide +kernel
theorem d_ru_readPart_259 (d : Nat) : decode (q_cc (m_ru_readPart d)) 259 = .ok (.ifCond .eq 19, 3) := by rw [show q_cc (m_ru_readPart d) = prog_7_method_10_code from rfl]; decide +kernel
theorem d_ru_readPart_262 (d : Nat) : decode (q_cc (m_ru_readPart d)) 262 = .ok (.aload_n 0, 1) := by rw [show q_cc (m_ru_readPart d) = prog_7_method_10_code from rfl]; decide +kernel
theorem d_ru_readPart_263 (d : Nat) : decode (q_cc (m_ru_readPart d)) 263 = .ok (.sipush (-200), 3) := by rw [show q_cc (m_ru_readPart d) = prog_7_method_10_code from rfl]; decide +kernel
theorem d_ru_readPart_266 (d : Nat) : decode (q_cc (m_ru_readPart d)) 266 = .ok (.iload_n 3, 1) := by rw [show q_cc (m_ru_readPart d) = prog_7_method_10_code from rfl]; decide +kernel
theorem d_ru_readPart_267 (d : Nat) : decode (q_cc (m_ru_readPart d)) 267 = .ok (.isub, 1) := by rw [show q_cc (m_ru_readPart d) = prog_7_method_10_code from rfl]; decide +kernel
theorem d_ru_readPart_268 (d : Nat) : decode (q_cc (m_ru_readPart d)) 268 = .ok (.invokevirtual 60, 3) := by rw [show q_cc (m_ru_readPart d) = prog_7_method_10_code from rfl]; decide +kernel
theorem d_ru_readPart_271 (d : Nat) : decode (q_cc (m_ru_readPart d)) 271 = .ok (.ifCond .eq 7, 3) := by rw [show q_cc (m_ru_readPart d) = prog_7_method_10_code from rfl]; decide +kernel
theorem d_ru_readPart_274 (d : Nat) : decode (q_cc (m_ru_readPart d)) 274 = .ok (.iconst 1, 1) := by rw [show q_cc (m_ru_readPart d) = prog_7_method_10_code from rfl]; decide +kernel
theorem d_ru_readPart_275 (d : Nat) : decode (q_cc (m_ru_readPart d)) 275 = .ok (.goto 4, 3) := by rw [show q_cc (m_ru_readPart d) = prog_7_method_10_code from rfl]; decide +kernel
theorem d_ru_readPart_278 (d : Nat) : decode (q_cc (m_ru_readPart d)) 278 = .ok (.iconst 0, 1) := by rw [show q_cc (m_ru_readPart d) = prog_7_method_10_code from rfl]; decide +kernel
theorem d_ru_readPart_279 (d : Nat) : decode (q_cc (m_ru_readPart d)) 279 = .ok (.ireturn, 1) := by rw [show q_cc (m_ru_readPart d) = prog_7_method_10_code from rfl]; decide +kernel
theorem d_ru_readPart_280 (d : Nat) : decode (q_cc (m_ru_readPart d)) 280 = .ok (.aload_n 0, 1) := by rw [show q_cc (m_ru_readPart d) = prog_7_method_10_code from rfl]; decide +kernel
theorem d_ru_readPart_281 (d : Nat) : decode (q_cc (m_ru_readPart d)) 281 = .ok (.getfield 29, 3) := by rw [show q_cc (m_ru_readPart d) = prog_7_method_10_code from rfl]; decide +kernel
theorem d_ru_readPart_284 (d : Nat) : decode (q_cc (m_ru_readPart d)) 284 = .ok (.invokevirtual 83, 3) := by rw [show q_cc (m_ru_readPart d) = prog_7_method_10_code from rfl]; decide +kernel
theorem d_ru_readPart_287 (d : Nat) : decode (q_cc (m_ru_readPart d)) 287 = .ok (.ireturn, 1) := by rw [show q_cc (m_ru_readPart d) = prog_7_method_10_code from rfl]; decide +kernel
theorem d_ru_readOfTwo_0 (d : Nat) : decode (q_cc (m_ru_readOfTwo d)) 0 = .ok (.aload_n 0, 1) := by rw [show q_cc (m_ru_readOfTwo d) = prog_7_method_11_code from rfl]; decide +kernel
theorem d_ru_readOfTwo_1 (d : Nat) : decode (q_cc (m_ru_readOfTwo d)) 1 = .ok (.getfield 29, 3) := by rw [show q_cc (m_ru_readOfTwo d) = prog_7_method_11_code from rfl]; decide +kernel
theorem d_ru_readOfTwo_4 (d : Nat) : decode (q_cc (m_ru_readOfTwo d)) 4 = .ok (.invokevirtual 77, 3) := by rw [show q_cc (m_ru_readOfTwo d) = prog_7_method_11_code from rfl]; decide +kernel
theorem d_ru_readOfTwo_7 (d : Nat) : decode (q_cc (m_ru_readOfTwo d)) 7 = .ok (.bipush 40, 2) := by rw [show q_cc (m_ru_readOfTwo d) = prog_7_method_11_code from rfl]; decide +kernel
theorem d_ru_readOfTwo_9 (d : Nat) : decode (q_cc (m_ru_readOfTwo d)) 9 = .ok (.if_icmp .eq 11, 3) := by rw [show q_cc (m_ru_readOfTwo d) = prog_7_method_11_code from rfl]; decide +kernel
theorem d_ru_readOfTwo_12 (d : Nat) : decode (q_cc (m_ru_readOfTwo d)) 12 = .ok (.aload_n 0, 1) := by rw [show q_cc (m_ru_readOfTwo d) = prog_7_method_11_code from rfl]; decide +kernel
theorem d_ru_readOfTwo_13 (d : Nat) : decode (q_cc (m_ru_readOfTwo d)) 13 = .ok (.getfield 29, 3) := by rw [show q_cc (m_ru_readOfTwo d) = prog_7_method_11_code from rfl]; decide +kernel
theorem d_ru_readOfTwo_16 (d : Nat) : decode (q_cc (m_ru_readOfTwo d)) 16 = .ok (.invokevirtual 83, 3) := by rw [show q_cc (m_ru_readOfTwo d) = prog_7_method_11_code from rfl]; decide +kernel
theorem d_ru_readOfTwo_19 (d : Nat) : decode (q_cc (m_ru_readOfTwo d)) 19 = .ok (.ireturn, 1) := by rw [show q_cc (m_ru_readOfTwo d) = prog_7_method_11_code from rfl]; decide +kernel
theorem d_ru_readOfTwo_20 (d : Nat) : decode (q_cc (m_ru_readOfTwo d)) 20 = .ok (.aload_n 0, 1) := by rw [show q_cc (m_ru_readOfTwo d) = prog_7_method_11_code from rfl]; decide +kernel
theorem d_ru_readOfTwo_21 (d : Nat) : decode (q_cc (m_ru_readOfTwo d)) 21 = .ok (.iload_n 1, 1) := by rw [show q_cc (m_ru_readOfTwo d) = prog_7_method_11_code from rfl]; decide +kernel
theorem d_ru_readOfTwo_22 (d : Nat) : decode (q_cc (m_ru_readOfTwo d)) 22 = .ok (.invokevirtual 70, 3) := by rw [show q_cc (m_ru_readOfTwo d) = prog_7_method_11_code from rfl]; decide +kernel
theorem d_ru_readOfTwo_25 (d : Nat) : decode (q_cc (m_ru_readOfTwo d)) 25 = .ok (.ifCond .eq 63, 3) := by rw [show q_cc (m_ru_readOfTwo d) = prog_7_method_11_code from rfl]; decide +kernel
theorem d_ru_readOfTwo_28 (d : Nat) : decode (q_cc (m_ru_readOfTwo d)) 28 = .ok (.aload_n 0, 1) := by rw [show q_cc (m_ru_readOfTwo d) = prog_7_method_11_code from rfl]; decide +kernel
theorem d_ru_readOfTwo_29 (d : Nat) : decode (q_cc (m_ru_readOfTwo d)) 29 = .ok (.getfield 29, 3) := by rw [show q_cc (m_ru_readOfTwo d) = prog_7_method_11_code from rfl]; decide +kernel
theorem d_ru_readOfTwo_32 (d : Nat) : decode (q_cc (m_ru_readOfTwo d)) 32 = .ok (.bipush 40, 2) := by rw [show q_cc (m_ru_readOfTwo d) = prog_7_method_11_code from rfl]; decide +kernel
theorem d_ru_readOfTwo_34 (d : Nat) : decode (q_cc (m_ru_readOfTwo d)) 34 = .ok (.invokevirtual 80, 3) := by rw [show q_cc (m_ru_readOfTwo d) = prog_7_method_11_code from rfl]; decide +kernel
theorem d_ru_readOfTwo_37 (d : Nat) : decode (q_cc (m_ru_readOfTwo d)) 37 = .ok (.ifCond .eq 51, 3) := by rw [show q_cc (m_ru_readOfTwo d) = prog_7_method_11_code from rfl]; decide +kernel
theorem d_ru_readOfTwo_40 (d : Nat) : decode (q_cc (m_ru_readOfTwo d)) 40 = .ok (.aload_n 0, 1) := by rw [show q_cc (m_ru_readOfTwo d) = prog_7_method_11_code from rfl]; decide +kernel
theorem d_ru_readOfTwo_41 (d : Nat) : decode (q_cc (m_ru_readOfTwo d)) 41 = .ok (.iload_n 1, 1) := by rw [show q_cc (m_ru_readOfTwo d) = prog_7_method_11_code from rfl]; decide +kernel
theorem d_ru_readOfTwo_42 (d : Nat) : decode (q_cc (m_ru_readOfTwo d)) 42 = .ok (.iconst 1, 1) := by rw [show q_cc (m_ru_readOfTwo d) = prog_7_method_11_code from rfl]; decide +kernel
theorem d_ru_readOfTwo_43 (d : Nat) : decode (q_cc (m_ru_readOfTwo d)) 43 = .ok (.iadd, 1) := by rw [show q_cc (m_ru_readOfTwo d) = prog_7_method_11_code from rfl]; decide +kernel
theorem d_ru_readOfTwo_44 (d : Nat) : decode (q_cc (m_ru_readOfTwo d)) 44 = .ok (.invokevirtual 42, 3) := by rw [show q_cc (m_ru_readOfTwo d) = prog_7_method_11_code from rfl]; decide +kernel
theorem d_ru_readOfTwo_47 (d : Nat) : decode (q_cc (m_ru_readOfTwo d)) 47 = .ok (.ifCond .eq 41, 3) := by rw [show q_cc (m_ru_readOfTwo d) = prog_7_method_11_code from rfl]; decide +kernel
theorem d_ru_readOfTwo_50 (d : Nat) : decode (q_cc (m_ru_readOfTwo d)) 50 = .ok (.aload_n 0, 1) := by rw [show q_cc (m_ru_readOfTwo d) = prog_7_method_11_code from rfl]; decide +kernel
theorem d_ru_readOfTwo_51 (d : Nat) : decode (q_cc (m_ru_readOfTwo d)) 51 = .ok (.getfield 29, 3) := by rw [show q_cc (m_ru_readOfTwo d) = prog_7_method_11_code from rfl]; decide +kernel
theorem d_ru_readOfTwo_54 (d : Nat) : decode (q_cc (m_ru_readOfTwo d)) 54 = .ok (.bipush 44, 2) := by rw [show q_cc (m_ru_readOfTwo d) = prog_7_method_11_code from rfl]; decide +kernel
theorem d_ru_readOfTwo_56 (d : Nat) : decode (q_cc (m_ru_readOfTwo d)) 56 = .ok (.invokevirtual 80, 3) := by rw [show q_cc (m_ru_readOfTwo d) = prog_7_method_11_code from rfl]; decide +kernel
theorem d_ru_readOfTwo_59 (d : Nat) : decode (q_cc (m_ru_readOfTwo d)) 59 = .ok (.ifCond .eq 29, 3) := by rw [show q_cc (m_ru_readOfTwo d) = prog_7_method_11_code from rfl]; decide +kernel
theorem d_ru_readOfTwo_62 (d : Nat) : decode (q_cc (m_ru_readOfTwo d)) 62 = .ok (.aload_n 0, 1) := by rw [show q_cc (m_ru_readOfTwo d) = prog_7_method_11_code from rfl]; decide +kernel
theorem d_ru_readOfTwo_63 (d : Nat) : decode (q_cc (m_ru_readOfTwo d)) 63 = .ok (.iload_n 1, 1) := by rw [show q_cc (m_ru_readOfTwo d) = prog_7_method_11_code from rfl]; decide +kernel
theorem d_ru_readOfTwo_64 (d : Nat) : decode (q_cc (m_ru_readOfTwo d)) 64 = .ok (.iconst 1, 1) := by rw [show q_cc (m_ru_readOfTwo d) = prog_7_method_11_code from rfl]; decide +kernel
theorem d_ru_readOfTwo_65 (d : Nat) : decode (q_cc (m_ru_readOfTwo d)) 65 = .ok (.iadd, 1) := by rw [show q_cc (m_ru_readOfTwo d) = prog_7_method_11_code from rfl]; decide +kernel
theorem d_ru_readOfTwo_66 (d : Nat) : decode (q_cc (m_ru_readOfTwo d)) 66 = .ok (.invokevirtual 42, 3) := by rw [show q_cc (m_ru_readOfTwo d) = prog_7_method_11_code from rfl]; decide +kernel
theorem d_ru_readOfTwo_69 (d : Nat) : decode (q_cc (m_ru_readOfTwo d)) 69 = .ok (.ifCond .eq 19, 3) := by rw [show q_cc (m_ru_readOfTwo d) = prog_7_method_11_code from rfl]; decide +kernel
theorem d_ru_readOfTwo_72 (d : Nat) : decode (q_cc (m_ru_readOfTwo d)) 72 = .ok (.aload_n 0, 1) := by rw [show q_cc (m_ru_readOfTwo d) = prog_7_method_11_code from rfl]; decide +kernel
theorem d_ru_readOfTwo_73 (d : Nat) : decode (q_cc (m_ru_readOfTwo d)) 73 = .ok (.getfield 29, 3) := by rw [show q_cc (m_ru_readOfTwo d) = prog_7_method_11_code from rfl]; decide +kernel
theorem d_ru_readOfTwo_76 (d : Nat) : decode (q_cc (m_ru_readOfTwo d)) 76 = .ok (.bipush 41, 2) := by rw [show q_cc (m_ru_readOfTwo d) = prog_7_method_11_code from rfl]; decide +kernel
theorem d_ru_readOfTwo_78 (d : Nat) : decode (q_cc (m_ru_readOfTwo d)) 78 = .ok (.invokevirtual 80, 3) := by rw [show q_cc (m_ru_readOfTwo d) = prog_7_method_11_code from rfl]; decide +kernel
theorem d_ru_readOfTwo_81 (d : Nat) : decode (q_cc (m_ru_readOfTwo d)) 81 = .ok (.ifCond .eq 7, 3) := by rw [show q_cc (m_ru_readOfTwo d) = prog_7_method_11_code from rfl]; decide +kernel
theorem d_ru_readOfTwo_84 (d : Nat) : decode (q_cc (m_ru_readOfTwo d)) 84 = .ok (.iconst 1, 1) := by rw [show q_cc (m_ru_readOfTwo d) = prog_7_method_11_code from rfl]; decide +kernel
theorem d_ru_readOfTwo_85 (d : Nat) : decode (q_cc (m_ru_readOfTwo d)) 85 = .ok (.goto 4, 3) := by rw [show q_cc (m_ru_readOfTwo d) = prog_7_method_11_code from rfl]; decide +kernel
theorem d_ru_readOfTwo_88 (d : Nat) : decode (q_cc (m_ru_readOfTwo d)) 88 = .ok (.iconst 0, 1) := by rw [show q_cc (m_ru_readOfTwo d) = prog_7_method_11_code from rfl]; decide +kernel
theorem d_ru_readOfTwo_89 (d : Nat) : decode (q_cc (m_ru_readOfTwo d)) 89 = .ok (.ireturn, 1) := by rw [show q_cc (m_ru_readOfTwo d) = prog_7_method_11_code from rfl]; decide +kernel
theorem d_ru_mayOpen_0 : decode (q_cc m_ru_mayOpen) 0 = .ok (.iload_n 1, 1) := by decide +kernel
theorem d_ru_mayOpen_1 : decode (q_cc m_ru_mayOpen) 1 = .ok (.bipush 6, 2) := by decide +kernel
theorem d_ru_mayOpen_3 : decode (q_cc m_ru_mayOpen) 3 = .ok (.if_icmp .lt 21, 3) := by decide +kernel
theorem d_ru_mayOpen_6 : decode (q_cc m_ru_mayOpen) 6 = .ok (.aload_n 0, 1) := by decide +kernel
theorem d_ru_mayOpen_7 : decode (q_cc m_ru_mayOpen) 7 = .ok (.getfield 29, 3) := by decide +kernel
theorem d_ru_mayOpen_10 : decode (q_cc m_ru_mayOpen) 10 = .ok (.iconst 4, 1) := by decide +kernel
theorem d_ru_mayOpen_11 : decode (q_cc m_ru_mayOpen) 11 = .ok (.aload_n 0, 1) := by decide +kernel
theorem d_ru_mayOpen_12 : decode (q_cc m_ru_mayOpen) 12 = .ok (.getfield 29, 3) := by decide +kernel
theorem d_ru_mayOpen_15 : decode (q_cc m_ru_mayOpen) 15 = .ok (.getfield 105, 3) := by decide +kernel
theorem d_ru_mayOpen_18 : decode (q_cc m_ru_mayOpen) 18 = .ok (.invokevirtual 108, 3) := by decide +kernel
theorem d_ru_mayOpen_21 : decode (q_cc m_ru_mayOpen) 21 = .ok (.ifCond .eq 7, 3) := by decide +kernel
theorem d_ru_mayOpen_24 : decode (q_cc m_ru_mayOpen) 24 = .ok (.iconst 1, 1) := by decide +kernel
theorem d_ru_mayOpen_25 : decode (q_cc m_ru_mayOpen) 25 = .ok (.goto 4, 3) := by decide +kernel
theorem d_ru_mayOpen_28 : decode (q_cc m_ru_mayOpen) 28 = .ok (.iconst 0, 1) := by decide +kernel
theorem d_ru_mayOpen_29 : decode (q_cc m_ru_mayOpen) 29 = .ok (.ireturn, 1) := by decide +kernel
theorem d_ru_setPrices_0 : decode (q_cc m_ru_setPrices) 0 = .ok (.iconst 0, 1) := by decide +kernel
theorem d_ru_setPrices_1 : decode (q_cc m_ru_setPrices) 1 = .ok (.istore_n 2, 1) := by decide +kernel
theorem d_ru_setPrices_2 : decode (q_cc m_ru_setPrices) 2 = .ok (.iload_n 2, 1) := by decide +kernel
theorem d_ru_setPrices_3 : decode (q_cc m_ru_setPrices) 3 = .ok (.aload_n 1, 1) := by decide +kernel
theorem d_ru_setPrices_4 : decode (q_cc m_ru_setPrices) 4 = .ok (.getfield 37, 3) := by decide +kernel
theorem d_ru_setPrices_7 : decode (q_cc m_ru_setPrices) 7 = .ok (.iconst 2, 1) := by decide +kernel
theorem d_ru_setPrices_8 : decode (q_cc m_ru_setPrices) 8 = .ok (.iaload, 1) := by decide +kernel
theorem d_ru_setPrices_9 : decode (q_cc m_ru_setPrices) 9 = .ok (.if_icmp .ge 42, 3) := by decide +kernel
theorem d_ru_setPrices_12 : decode (q_cc m_ru_setPrices) 12 = .ok (.iconst 0, 1) := by decide +kernel
theorem d_ru_setPrices_13 : decode (q_cc m_ru_setPrices) 13 = .ok (.istore_n 3, 1) := by decide +kernel
theorem d_ru_setPrices_14 : decode (q_cc m_ru_setPrices) 14 = .ok (.iload_n 3, 1) := by decide +kernel
theorem d_ru_setPrices_15 : decode (q_cc m_ru_setPrices) 15 = .ok (.aload_n 1, 1) := by decide +kernel
theorem d_ru_setPrices_16 : decode (q_cc m_ru_setPrices) 16 = .ok (.getfield 37, 3) := by decide +kernel
theorem d_ru_setPrices_19 : decode (q_cc m_ru_setPrices) 19 = .ok (.iconst 4, 1) := by decide +kernel
theorem d_ru_setPrices_20 : decode (q_cc m_ru_setPrices) 20 = .ok (.iaload, 1) := by decide +kernel
theorem d_ru_setPrices_21 : decode (q_cc m_ru_setPrices) 21 = .ok (.if_icmp .ge 24, 3) := by decide +kernel
theorem d_ru_setPrices_24 : decode (q_cc m_ru_setPrices) 24 = .ok (.aload_n 1, 1) := by decide +kernel
theorem d_ru_setPrices_25 : decode (q_cc m_ru_setPrices) 25 = .ok (.getfield 111, 3) := by decide +kernel
theorem d_ru_setPrices_28 : decode (q_cc m_ru_setPrices) 28 = .ok (.iload_n 2, 1) := by decide +kernel
theorem d_ru_setPrices_29 : decode (q_cc m_ru_setPrices) 29 = .ok (.aaload, 1) := by decide +kernel
theorem d_ru_setPrices_30 : decode (q_cc m_ru_setPrices) 30 = .ok (.iload_n 3, 1) := by decide +kernel
theorem d_ru_setPrices_31 : decode (q_cc m_ru_setPrices) 31 = .ok (.aload_n 0, 1) := by decide +kernel
theorem d_ru_setPrices_32 : decode (q_cc m_ru_setPrices) 32 = .ok (.aload_n 1, 1) := by decide +kernel
theorem d_ru_setPrices_33 : decode (q_cc m_ru_setPrices) 33 = .ok (.iload_n 2, 1) := by decide +kernel
theorem d_ru_setPrices_34 : decode (q_cc m_ru_setPrices) 34 = .ok (.iload_n 3, 1) := by decide +kernel
theorem d_ru_setPrices_35 : decode (q_cc m_ru_setPrices) 35 = .ok (.invokevirtual 115, 3) := by decide +kernel
theorem d_ru_setPrices_38 : decode (q_cc m_ru_setPrices) 38 = .ok (.iastore, 1) := by decide +kernel
theorem d_ru_setPrices_39 : decode (q_cc m_ru_setPrices) 39 = .ok (.iinc 3 1, 3) := by decide +kernel
theorem d_ru_setPrices_42 : decode (q_cc m_ru_setPrices) 42 = .ok (.goto (-28), 3) := by decide +kernel
theorem d_ru_setPrices_45 : decode (q_cc m_ru_setPrices) 45 = .ok (.iinc 2 1, 3) := by decide +kernel
theorem d_ru_setPrices_48 : decode (q_cc m_ru_setPrices) 48 = .ok (.goto (-46), 3) := by decide +kernel
theorem d_ru_setPrices_51 : decode (q_cc m_ru_setPrices) 51 = .ok (.return_, 1) := by decide +kernel
theorem d_ru_priceOf_0 : decode (q_cc m_ru_priceOf) 0 = .ok (.aload_n 0, 1) := by decide +kernel
theorem d_ru_priceOf_1 : decode (q_cc m_ru_priceOf) 1 = .ok (.getfield 23, 3) := by decide +kernel
theorem d_ru_priceOf_4 : decode (q_cc m_ru_priceOf) 4 = .ok (.iconst 3, 1) := by decide +kernel
theorem d_ru_priceOf_5 : decode (q_cc m_ru_priceOf) 5 = .ok (.aload_n 1, 1) := by decide +kernel
theorem d_ru_priceOf_6 : decode (q_cc m_ru_priceOf) 6 = .ok (.getfield 119, 3) := by decide +kernel
theorem d_ru_priceOf_9 : decode (q_cc m_ru_priceOf) 9 = .ok (.iload_n 2, 1) := by decide +kernel
theorem d_ru_priceOf_10 : decode (q_cc m_ru_priceOf) 10 = .ok (.iaload, 1) := by decide +kernel
theorem d_ru_priceOf_11 : decode (q_cc m_ru_priceOf) 11 = .ok (.iastore, 1) := by decide +kernel
theorem d_ru_priceOf_12 : decode (q_cc m_ru_priceOf) 12 = .ok (.aload_n 0, 1) := by decide +kernel
theorem d_ru_priceOf_13 : decode (q_cc m_ru_priceOf) 13 = .ok (.getfield 23, 3) := by decide +kernel
theorem d_ru_priceOf_16 : decode (q_cc m_ru_priceOf) 16 = .ok (.bipush 9, 2) := by decide +kernel
theorem d_ru_priceOf_18 : decode (q_cc m_ru_priceOf) 18 = .ok (.aload_n 1, 1) := by decide +kernel
theorem d_ru_priceOf_19 : decode (q_cc m_ru_priceOf) 19 = .ok (.getfield 122, 3) := by decide +kernel
theorem d_ru_priceOf_22 : decode (q_cc m_ru_priceOf) 22 = .ok (.iload_n 3, 1) := by decide +kernel
theorem d_ru_priceOf_23 : decode (q_cc m_ru_priceOf) 23 = .ok (.aaload, 1) := by decide +kernel
theorem d_ru_priceOf_24 : decode (q_cc m_ru_priceOf) 24 = .ok (.iconst 2, 1) := by decide +kernel
theorem d_ru_priceOf_25 : decode (q_cc m_ru_priceOf) 25 = .ok (.iaload, 1) := by decide +kernel
theorem d_ru_priceOf_26 : decode (q_cc m_ru_priceOf) 26 = .ok (.iastore, 1) := by decide +kernel
theorem d_ru_priceOf_27 : decode (q_cc m_ru_priceOf) 27 = .ok (.aload_n 0, 1) := by decide +kernel
theorem d_ru_priceOf_28 : decode (q_cc m_ru_priceOf) 28 = .ok (.getfield 23, 3) := by decide +kernel
theorem d_ru_priceOf_31 : decode (q_cc m_ru_priceOf) 31 = .ok (.bipush 10, 2) := by decide +kernel
theorem d_ru_priceOf_33 : decode (q_cc m_ru_priceOf) 33 = .ok (.aload_n 1, 1) := by decide +kernel
theorem d_ru_priceOf_34 : decode (q_cc m_ru_priceOf) 34 = .ok (.getfield 122, 3) := by decide +kernel
theorem d_ru_priceOf_37 : decode (q_cc m_ru_priceOf) 37 = .ok (.iload_n 3, 1) := by decide +kernel
theorem d_ru_priceOf_38 : decode (q_cc m_ru_priceOf) 38 = .ok (.aaload, 1) := by decide +kernel
theorem d_ru_priceOf_39 : decode (q_cc m_ru_priceOf) 39 = .ok (.iconst 3, 1) := by decide +kernel
theorem d_ru_priceOf_40 : decode (q_cc m_ru_priceOf) 40 = .ok (.iaload, 1) := by decide +kernel
theorem d_ru_priceOf_41 : decode (q_cc m_ru_priceOf) 41 = .ok (.iastore, 1) := by decide +kernel
theorem d_ru_priceOf_42 : decode (q_cc m_ru_priceOf) 42 = .ok (.aload_n 0, 1) := by decide +kernel
theorem d_ru_priceOf_43 : decode (q_cc m_ru_priceOf) 43 = .ok (.getfield 23, 3) := by decide +kernel
theorem d_ru_priceOf_46 : decode (q_cc m_ru_priceOf) 46 = .ok (.bipush 20, 2) := by decide +kernel
theorem d_ru_priceOf_48 : decode (q_cc m_ru_priceOf) 48 = .ok (.aload_n 1, 1) := by decide +kernel
theorem d_ru_priceOf_49 : decode (q_cc m_ru_priceOf) 49 = .ok (.getfield 122, 3) := by decide +kernel
theorem d_ru_priceOf_52 : decode (q_cc m_ru_priceOf) 52 = .ok (.iload_n 3, 1) := by decide +kernel
theorem d_ru_priceOf_53 : decode (q_cc m_ru_priceOf) 53 = .ok (.aaload, 1) := by decide +kernel
theorem d_ru_priceOf_54 : decode (q_cc m_ru_priceOf) 54 = .ok (.iconst 4, 1) := by decide +kernel
theorem d_ru_priceOf_55 : decode (q_cc m_ru_priceOf) 55 = .ok (.iaload, 1) := by decide +kernel
theorem d_ru_priceOf_56 : decode (q_cc m_ru_priceOf) 56 = .ok (.iastore, 1) := by decide +kernel
theorem d_ru_priceOf_57 : decode (q_cc m_ru_priceOf) 57 = .ok (.aload_n 0, 1) := by decide +kernel
theorem d_ru_priceOf_58 : decode (q_cc m_ru_priceOf) 58 = .ok (.getfield 23, 3) := by decide +kernel
theorem d_ru_priceOf_61 : decode (q_cc m_ru_priceOf) 61 = .ok (.bipush 21, 2) := by decide +kernel
theorem d_ru_priceOf_63 : decode (q_cc m_ru_priceOf) 63 = .ok (.aload_n 1, 1) := by decide +kernel
theorem d_ru_priceOf_64 : decode (q_cc m_ru_priceOf) 64 = .ok (.iload_n 2, 1) := by decide +kernel
theorem d_ru_priceOf_65 : decode (q_cc m_ru_priceOf) 65 = .ok (.iload_n 3, 1) := by decide +kernel
theorem d_ru_priceOf_66 : decode (q_cc m_ru_priceOf) 66 = .ok (.invokevirtual 125, 3) := by decide +kernel
theorem d_ru_priceOf_69 : decode (q_cc m_ru_priceOf) 69 = .ok (.iastore, 1) := by decide +kernel
theorem d_ru_priceOf_70 : decode (q_cc m_ru_priceOf) 70 = .ok (.aload_n 0, 1) := by decide +kernel
theorem d_ru_priceOf_71 : decode (q_cc m_ru_priceOf) 71 = .ok (.getfield 23, 3) := by decide +kernel
theorem d_ru_priceOf_74 : decode (q_cc m_ru_priceOf) 74 = .ok (.bipush 22, 2) := by decide +kernel
theorem d_ru_priceOf_76 : decode (q_cc m_ru_priceOf) 76 = .ok (.aload_n 1, 1) := by decide +kernel
theorem d_ru_priceOf_77 : decode (q_cc m_ru_priceOf) 77 = .ok (.getfield 129, 3) := by decide +kernel
theorem d_ru_priceOf_80 : decode (q_cc m_ru_priceOf) 80 = .ok (.iload_n 2, 1) := by decide +kernel
theorem d_ru_priceOf_81 : decode (q_cc m_ru_priceOf) 81 = .ok (.aaload, 1) := by decide +kernel
theorem d_ru_priceOf_82 : decode (q_cc m_ru_priceOf) 82 = .ok (.iload_n 3, 1) := by decide +kernel
theorem d_ru_priceOf_83 : decode (q_cc m_ru_priceOf) 83 = .ok (.iaload, 1) := by decide +kernel
theorem d_ru_priceOf_84 : decode (q_cc m_ru_priceOf) 84 = .ok (.iastore, 1) := by decide +kernel
theorem d_ru_priceOf_85 : decode (q_cc m_ru_priceOf) 85 = .ok (.aload_n 0, 1) := by decide +kernel
theorem d_ru_priceOf_86 : decode (q_cc m_ru_priceOf) 86 = .ok (.getfield 23, 3) := by decide +kernel
theorem d_ru_priceOf_89 : decode (q_cc m_ru_priceOf) 89 = .ok (.bipush 19, 2) := by decide +kernel
theorem d_ru_priceOf_91 : decode (q_cc m_ru_priceOf) 91 = .ok (.iconst 1, 1) := by decide +kernel
theorem d_ru_priceOf_92 : decode (q_cc m_ru_priceOf) 92 = .ok (.iastore, 1) := by decide +kernel
theorem d_ru_priceOf_93 : decode (q_cc m_ru_priceOf) 93 = .ok (.iconst 0, 1) := by decide +kernel
theorem d_ru_priceOf_94 : decode (q_cc m_ru_priceOf) 94 = .ok (.istore 4, 2) := by decide +kernel
theorem d_ru_priceOf_96 : decode (q_cc m_ru_priceOf) 96 = .ok (.iload 4, 2) := by decide +kernel
theorem d_ru_priceOf_98 : decode (q_cc m_ru_priceOf) 98 = .ok (.aload_n 1, 1) := by decide +kernel
theorem d_ru_priceOf_99 : decode (q_cc m_ru_priceOf) 99 = .ok (.getfield 37, 3) := by decide +kernel
theorem d_ru_priceOf_102 : decode (q_cc m_ru_priceOf) 102 = .ok (.iconst 5, 1) := by decide +kernel
theorem d_ru_priceOf_103 : decode (q_cc m_ru_priceOf) 103 = .ok (.iaload, 1) := by decide +kernel
theorem d_ru_priceOf_104 : decode (q_cc m_ru_priceOf) 104 = .ok (.if_icmp .ge 61, 3) := by decide +kernel
theorem d_ru_priceOf_107 : decode (q_cc m_ru_priceOf) 107 = .ok (.aload_n 0, 1) := by decide +kernel
theorem d_ru_priceOf_108 : decode (q_cc m_ru_priceOf) 108 = .ok (.aload_n 0, 1) := by decide +kernel
theorem d_ru_priceOf_109 : decode (q_cc m_ru_priceOf) 109 = .ok (.getfield 18, 3) := by decide +kernel
theorem d_ru_priceOf_112 : decode (q_cc m_ru_priceOf) 112 = .ok (.iload 4, 2) := by decide +kernel
theorem d_ru_priceOf_114 : decode (q_cc m_ru_priceOf) 114 = .ok (.iaload, 1) := by decide +kernel
theorem d_ru_priceOf_115 : decode (q_cc m_ru_priceOf) 115 = .ok (.aload_n 0, 1) := by decide +kernel
theorem d_ru_priceOf_116 : decode (q_cc m_ru_priceOf) 116 = .ok (.getfield 15, 3) := by decide +kernel
theorem d_ru_priceOf_119 : decode (q_cc m_ru_priceOf) 119 = .ok (.iload 4, 2) := by decide +kernel
theorem d_ru_priceOf_121 : decode (q_cc m_ru_priceOf) 121 = .ok (.iconst 1, 1) := by decide +kernel
theorem d_ru_priceOf_122 : decode (q_cc m_ru_priceOf) 122 = .ok (.iadd, 1) := by decide +kernel
theorem d_ru_priceOf_123 : decode (q_cc m_ru_priceOf) 123 = .ok (.iaload, 1) := by decide +kernel
theorem d_ru_priceOf_124 : decode (q_cc m_ru_priceOf) 124 = .ok (.invokevirtual 132, 3) := by decide +kernel
theorem d_ru_priceOf_127 : decode (q_cc m_ru_priceOf) 127 = .ok (.ifCond .eq 32, 3) := by decide +kernel
theorem d_ru_priceOf_130 : decode (q_cc m_ru_priceOf) 130 = .ok (.iconst 0, 1) := by decide +kernel
theorem d_ru_priceOf_131 : decode (q_cc m_ru_priceOf) 131 = .ok (.sipush 999, 3) := by decide +kernel
theorem d_ru_priceOf_134 : decode (q_cc m_ru_priceOf) 134 = .ok (.aload_n 0, 1) := by decide +kernel
theorem d_ru_priceOf_135 : decode (q_cc m_ru_priceOf) 135 = .ok (.aload_n 0, 1) := by decide +kernel
theorem d_ru_priceOf_136 : decode (q_cc m_ru_priceOf) 136 = .ok (.getfield 15, 3) := by decide +kernel
theorem d_ru_priceOf_139 : decode (q_cc m_ru_priceOf) 139 = .ok (.iload 4, 2) := by decide +kernel
theorem d_ru_priceOf_141 : decode (q_cc m_ru_priceOf) 141 = .ok (.iaload, 1) := by decide +kernel
theorem d_ru_priceOf_142 : decode (q_cc m_ru_priceOf) 142 = .ok (.aload_n 0, 1) := by decide +kernel
theorem d_ru_priceOf_143 : decode (q_cc m_ru_priceOf) 143 = .ok (.getfield 18, 3) := by decide +kernel
theorem d_ru_priceOf_146 : decode (q_cc m_ru_priceOf) 146 = .ok (.iload 4, 2) := by decide +kernel
theorem d_ru_priceOf_148 : decode (q_cc m_ru_priceOf) 148 = .ok (.iaload, 1) := by decide +kernel
theorem d_ru_priceOf_149 : decode (q_cc m_ru_priceOf) 149 = .ok (.invokevirtual 132, 3) := by decide +kernel
theorem d_ru_priceOf_152 : decode (q_cc m_ru_priceOf) 152 = .ok (.invokestatic 135, 3) := by decide +kernel
theorem d_ru_priceOf_155 : decode (q_cc m_ru_priceOf) 155 = .ok (.invokestatic 140, 3) := by decide +kernel
theorem d_ru_priceOf_158 : decode (q_cc m_ru_priceOf) 158 = .ok (.ireturn, 1) := by decide +kernel
theorem d_ru_priceOf_159 : decode (q_cc m_ru_priceOf) 159 = .ok (.iinc 4 1, 3) := by decide +kernel
theorem d_ru_priceOf_162 : decode (q_cc m_ru_priceOf) 162 = .ok (.goto (-66), 3) := by decide +kernel
theorem d_ru_priceOf_165 : decode (q_cc m_ru_priceOf) 165 = .ok (.aload_n 1, 1) := by decide +kernel
theorem d_ru_priceOf_166 : decode (q_cc m_ru_priceOf) 166 = .ok (.getfield 119, 3) := by decide +kernel
theorem d_ru_priceOf_169 : decode (q_cc m_ru_priceOf) 169 = .ok (.iload_n 2, 1) := by decide +kernel
theorem d_ru_priceOf_170 : decode (q_cc m_ru_priceOf) 170 = .ok (.iaload, 1) := by decide +kernel
theorem d_ru_priceOf_171 : decode (q_cc m_ru_priceOf) 171 = .ok (.ireturn, 1) := by decide +kernel
theorem d_ru_reckon_0 : decode (q_cc m_ru_reckon) 0 = .ok (.aload_n 0, 1) := by decide +kernel
theorem d_ru_reckon_1 : decode (q_cc m_ru_reckon) 1 = .ok (.iconst 0, 1) := by decide +kernel
theorem d_ru_reckon_2 : decode (q_cc m_ru_reckon) 2 = .ok (.putfield 143, 3) := by decide +kernel
theorem d_ru_reckon_5 : decode (q_cc m_ru_reckon) 5 = .ok (.iload_n 1, 1) := by decide +kernel
theorem d_ru_reckon_6 : decode (q_cc m_ru_reckon) 6 = .ok (.istore_n 3, 1) := by decide +kernel
theorem d_ru_reckon_7 : decode (q_cc m_ru_reckon) 7 = .ok (.iload_n 3, 1) := by decide +kernel
theorem d_ru_reckon_8 : decode (q_cc m_ru_reckon) 8 = .ok (.iload_n 2, 1) := by decide +kernel
theorem d_ru_reckon_9 : decode (q_cc m_ru_reckon) 9 = .ok (.if_icmp .ge 67, 3) := by decide +kernel
theorem d_ru_reckon_12 : decode (q_cc m_ru_reckon) 12 = .ok (.aload_n 0, 1) := by decide +kernel
theorem d_ru_reckon_13 : decode (q_cc m_ru_reckon) 13 = .ok (.getfield 9, 3) := by decide +kernel
theorem d_ru_reckon_16 : decode (q_cc m_ru_reckon) 16 = .ok (.iload_n 3, 1) := by decide +kernel
theorem d_ru_reckon_17 : decode (q_cc m_ru_reckon) 17 = .ok (.iaload, 1) := by decide +kernel
theorem d_ru_reckon_18 : decode (q_cc m_ru_reckon) 18 = .ok (.istore 4, 2) := by decide +kernel
theorem d_ru_reckon_20 : decode (q_cc m_ru_reckon) 20 = .ok (.iload 4, 2) := by decide +kernel
theorem d_ru_reckon_22 : decode (q_cc m_ru_reckon) 22 = .ok (.ifCond .lt 12, 3) := by decide +kernel
theorem d_ru_reckon_25 : decode (q_cc m_ru_reckon) 25 = .ok (.aload_n 0, 1) := by decide +kernel
theorem d_ru_reckon_26 : decode (q_cc m_ru_reckon) 26 = .ok (.iload 4, 2) := by decide +kernel
theorem d_ru_reckon_28 : decode (q_cc m_ru_reckon) 28 = .ok (.invokevirtual 146, 3) := by decide +kernel
theorem d_ru_reckon_31 : decode (q_cc m_ru_reckon) 31 = .ok (.goto 39, 3) := by decide +kernel
theorem d_ru_reckon_34 : decode (q_cc m_ru_reckon) 34 = .ok (.iload 4, 2) := by decide +kernel
theorem d_ru_reckon_36 : decode (q_cc m_ru_reckon) 36 = .ok (.sipush (-200), 3) := by decide +kernel
theorem d_ru_reckon_39 : decode (q_cc m_ru_reckon) 39 = .ok (.if_icmp .le 21, 3) := by decide +kernel
theorem d_ru_reckon_42 : decode (q_cc m_ru_reckon) 42 = .ok (.aload_n 0, 1) := by decide +kernel
theorem d_ru_reckon_43 : decode (q_cc m_ru_reckon) 43 = .ok (.iload 4, 2) := by decide +kernel
theorem d_ru_reckon_45 : decode (q_cc m_ru_reckon) 45 = .ok (.ineg, 1) := by decide +kernel
theorem d_ru_reckon_46 : decode (q_cc m_ru_reckon) 46 = .ok (.aload_n 0, 1) := by decide +kernel
theorem d_ru_reckon_47 : decode (q_cc m_ru_reckon) 47 = .ok (.invokevirtual 150, 3) := by decide +kernel
theorem d_ru_reckon_50 : decode (q_cc m_ru_reckon) 50 = .ok (.aload_n 0, 1) := by decide +kernel
theorem d_ru_reckon_51 : decode (q_cc m_ru_reckon) 51 = .ok (.invokevirtual 150, 3) := by decide +kernel
theorem d_ru_reckon_54 : decode (q_cc m_ru_reckon) 54 = .ok (.invokevirtual 153, 3) := by decide +kernel
theorem d_ru_reckon_57 : decode (q_cc m_ru_reckon) 57 = .ok (.goto 13, 3) := by decide +kernel
theorem d_ru_reckon_60 : decode (q_cc m_ru_reckon) 60 = .ok (.aload_n 0, 1) := by decide +kernel
theorem d_ru_reckon_61 : decode (q_cc m_ru_reckon) 61 = .ok (.sipush (-200), 3) := by decide +kernel
theorem d_ru_reckon_64 : decode (q_cc m_ru_reckon) 64 = .ok (.iload 4, 2) := by decide +kernel
theorem d_ru_reckon_66 : decode (q_cc m_ru_reckon) 66 = .ok (.isub, 1) := by decide +kernel
theorem d_ru_reckon_67 : decode (q_cc m_ru_reckon) 67 = .ok (.invokevirtual 157, 3) := by decide +kernel
theorem d_ru_reckon_70 : decode (q_cc m_ru_reckon) 70 = .ok (.iinc 3 1, 3) := by decide +kernel
theorem d_ru_reckon_73 : decode (q_cc m_ru_reckon) 73 = .ok (.goto (-66), 3) := by decide +kernel
theorem d_ru_reckon_76 : decode (q_cc m_ru_reckon) 76 = .ok (.aload_n 0, 1) := by decide +kernel
theorem d_ru_reckon_77 : decode (q_cc m_ru_reckon) 77 = .ok (.invokevirtual 150, 3) := by decide +kernel
theorem d_ru_reckon_80 : decode (q_cc m_ru_reckon) 80 = .ok (.ireturn, 1) := by decide +kernel
theorem d_ru_push_0 : decode (q_cc m_ru_push) 0 = .ok (.aload_n 0, 1) := by decide +kernel
theorem d_ru_push_1 : decode (q_cc m_ru_push) 1 = .ok (.getfield 143, 3) := by decide +kernel
theorem d_ru_push_4 : decode (q_cc m_ru_push) 4 = .ok (.aload_n 0, 1) := by decide +kernel
theorem d_ru_push_5 : decode (q_cc m_ru_push) 5 = .ok (.getfield 26, 3) := by decide +kernel
theorem d_ru_push_8 : decode (q_cc m_ru_push) 8 = .ok (.arraylength, 1) := by decide +kernel
theorem d_ru_push_9 : decode (q_cc m_ru_push) 9 = .ok (.if_icmp .ge 23, 3) := by decide +kernel
theorem d_ru_push_12 : decode (q_cc m_ru_push) 12 = .ok (.aload_n 0, 1) := by decide +kernel
theorem d_ru_push_13 : decode (q_cc m_ru_push) 13 = .ok (.getfield 26, 3) := by decide +kernel
theorem d_ru_push_16 : decode (q_cc m_ru_push) 16 = .ok (.aload_n 0, 1) := by decide +kernel
theorem d_ru_push_17 : decode (q_cc m_ru_push) 17 = .ok (.getfield 143, 3) := by decide +kernel
theorem d_ru_push_20 : decode (q_cc m_ru_push) 20 = .ok (.iload_n 1, 1) := by decide +kernel
theorem d_ru_push_21 : decode (q_cc m_ru_push) 21 = .ok (.iastore, 1) := by decide +kernel
theorem d_ru_push_22 : decode (q_cc m_ru_push) 22 = .ok (.aload_n 0, 1) := by decide +kernel
theorem d_ru_push_23 : decode (q_cc m_ru_push) 23 = .ok (.dup, 1) := by decide +kernel
theorem d_ru_push_24 : decode (q_cc m_ru_push) 24 = .ok (.getfield 143, 3) := by decide +kernel
theorem d_ru_push_27 : decode (q_cc m_ru_push) 27 = .ok (.iconst 1, 1) := by decide +kernel
theorem d_ru_push_28 : decode (q_cc m_ru_push) 28 = .ok (.iadd, 1) := by decide +kernel
theorem d_ru_push_29 : decode (q_cc m_ru_push) 29 = .ok (.putfield 143, 3) := by decide +kernel
theorem d_ru_push_32 : decode (q_cc m_ru_push) 32 = .ok (.return_, 1) := by decide +kernel
theorem d_ru_pop_0 : decode (q_cc m_ru_pop) 0 = .ok (.aload_n 0, 1) := by decide +kernel
theorem d_ru_pop_1 : decode (q_cc m_ru_pop) 1 = .ok (.getfield 143, 3) := by decide +kernel
theorem d_ru_pop_4 : decode (q_cc m_ru_pop) 4 = .ok (.ifCond .ne 5, 3) := by decide +kernel
theorem d_ru_pop_7 : decode (q_cc m_ru_pop) 7 = .ok (.iconst 0, 1) := by decide +kernel
theorem d_ru_pop_8 : decode (q_cc m_ru_pop) 8 = .ok (.ireturn, 1) := by decide +kernel
theorem d_ru_pop_9 : decode (q_cc m_ru_pop) 9 = .ok (.aload_n 0, 1) := by decide +kernel
theorem d_ru_pop_10 : decode (q_cc m_ru_pop) 10 = .ok (.dup, 1) := by decide +kernel
theorem d_ru_pop_11 : decode (q_cc m_ru_pop) 11 = .ok (.getfield 143, 3) := by decide +kernel
theorem d_ru_pop_14 : decode (q_cc m_ru_pop) 14 = .ok (.iconst 1, 1) := by decide +kernel
theorem d_ru_pop_15 : decode (q_cc m_ru_pop) 15 = .ok (.isub, 1) := by decide +kernel
theorem d_ru_pop_16 : decode (q_cc m_ru_pop) 16 = .ok (.putfield 143, 3) := by decide +kernel
theorem d_ru_pop_19 : decode (q_cc m_ru_pop) 19 = .ok (.aload_n 0, 1) := by decide +kernel
theorem d_ru_pop_20 : decode (q_cc m_ru_pop) 20 = .ok (.getfield 26, 3) := by decide +kernel
theorem d_ru_pop_23 : decode (q_cc m_ru_pop) 23 = .ok (.aload_n 0, 1) := by decide +kernel
theorem d_ru_pop_24 : decode (q_cc m_ru_pop) 24 = .ok (.getfield 143, 3) := by decide +kernel
theorem d_ru_pop_27 : decode (q_cc m_ru_pop) 27 = .ok (.iaload, 1) := by decide +kernel
theorem d_ru_pop_28 : decode (q_cc m_ru_pop) 28 = .ok (.ireturn, 1) := by decide +kernel
theorem d_ru_doWord_0 : decode (q_cc m_ru_doWord) 0 = .ok (.iload_n 1, 1) := by decide +kernel
theorem d_ru_doWord_1 : decode (q_cc m_ru_doWord) 1 = .ok (.tableswitch 100 16 24 #[64, 82, 51, 100, 100, 100, 100, 82, 64], 51) := by decide +kernel
theorem d_ru_doWord_52 : decode (q_cc m_ru_doWord) 52 = .ok (.aload_n 0, 1) := by decide +kernel
theorem d_ru_doWord_53 : decode (q_cc m_ru_doWord) 53 = .ok (.iconst 1, 1) := by decide +kernel
theorem d_ru_doWord_54 : decode (q_cc m_ru_doWord) 54 = .ok (.aload_n 0, 1) := by decide +kernel
theorem d_ru_doWord_55 : decode (q_cc m_ru_doWord) 55 = .ok (.invokevirtual 150, 3) := by decide +kernel
theorem d_ru_doWord_58 : decode (q_cc m_ru_doWord) 58 = .ok (.isub, 1) := by decide +kernel
theorem d_ru_doWord_59 : decode (q_cc m_ru_doWord) 59 = .ok (.invokevirtual 146, 3) := by decide +kernel
theorem d_ru_doWord_62 : decode (q_cc m_ru_doWord) 62 = .ok (.goto 49, 3) := by decide +kernel
theorem d_ru_doWord_65 : decode (q_cc m_ru_doWord) 65 = .ok (.aload_n 0, 1) := by decide +kernel
theorem d_ru_doWord_66 : decode (q_cc m_ru_doWord) 66 = .ok (.aload_n 0, 1) := by decide +kernel
theorem d_ru_doWord_67 : decode (q_cc m_ru_doWord) 67 = .ok (.invokevirtual 150, 3) := by decide +kernel
theorem d_ru_doWord_70 : decode (q_cc m_ru_doWord) 70 = .ok (.aload_n 0, 1) := by decide +kernel
theorem d_ru_doWord_71 : decode (q_cc m_ru_doWord) 71 = .ok (.invokevirtual 150, 3) := by decide +kernel
theorem d_ru_doWord_74 : decode (q_cc m_ru_doWord) 74 = .ok (.invokestatic 140, 3) := by decide +kernel
theorem d_ru_doWord_77 : decode (q_cc m_ru_doWord) 77 = .ok (.invokevirtual 146, 3) := by decide +kernel
theorem d_ru_doWord_80 : decode (q_cc m_ru_doWord) 80 = .ok (.goto 31, 3) := by decide +kernel
theorem d_ru_doWord_83 : decode (q_cc m_ru_doWord) 83 = .ok (.aload_n 0, 1) := by decide +kernel
theorem d_ru_doWord_84 : decode (q_cc m_ru_doWord) 84 = .ok (.aload_n 0, 1) := by decide +kernel
theorem d_ru_doWord_85 : decode (q_cc m_ru_doWord) 85 = .ok (.invokevirtual 150, 3) := by decide +kernel
theorem d_ru_doWord_88 : decode (q_cc m_ru_doWord) 88 = .ok (.aload_n 0, 1) := by decide +kernel
theorem d_ru_doWord_89 : decode (q_cc m_ru_doWord) 89 = .ok (.invokevirtual 150, 3) := by decide +kernel
theorem d_ru_doWord_92 : decode (q_cc m_ru_doWord) 92 = .ok (.invokestatic 135, 3) := by decide +kernel
theorem d_ru_doWord_95 : decode (q_cc m_ru_doWord) 95 = .ok (.invokevirtual 146, 3) := by decide +kernel
theorem d_ru_doWord_98 : decode (q_cc m_ru_doWord) 98 = .ok (.goto 13, 3) := by decide +kernel
theorem d_ru_doWord_101 : decode (q_cc m_ru_doWord) 101 = .ok (.aload_n 0, 1) := by decide +kernel
theorem d_ru_doWord_102 : decode (q_cc m_ru_doWord) 102 = .ok (.aload_n 0, 1) := by decide +kernel
theorem d_ru_doWord_103 : decode (q_cc m_ru_doWord) 103 = .ok (.getfield 23, 3) := by decide +kernel
theorem d_ru_doWord_106 : decode (q_cc m_ru_doWord) 106 = .ok (.iload_n 1, 1) := by decide +kernel
theorem d_ru_doWord_107 : decode (q_cc m_ru_doWord) 107 = .ok (.iaload, 1) := by decide +kernel
theorem d_ru_doWord_108 : decode (q_cc m_ru_doWord) 108 = .ok (.invokevirtual 146, 3) := by decide +kernel
theorem d_ru_doWord_111 : decode (q_cc m_ru_doWord) 111 = .ok (.return_, 1) := by decide +kernel
theorem d_ru_doSign_0 : decode (q_cc m_ru_doSign) 0 = .ok (.iload_n 1, 1) := by decide +kernel
theorem d_ru_doSign_1 : decode (q_cc m_ru_doSign) 1 = .ok (.lookupswitch 158 #[(42, 89), (43, 59), (45, 74), (47, 104), (60, 124), (62, 141)], 59) := by decide +kernel
theorem d_ru_doSign_60 : decode (q_cc m_ru_doSign) 60 = .ok (.aload_n 0, 1) := by decide +kernel
theorem d_ru_doSign_61 : decode (q_cc m_ru_doSign) 61 = .ok (.iload_n 3, 1) := by decide +kernel
theorem d_ru_doSign_62 : decode (q_cc m_ru_doSign) 62 = .ok (.i2l, 1) := by decide +kernel
theorem d_ru_doSign_63 : decode (q_cc m_ru_doSign) 63 = .ok (.iload_n 2, 1) := by decide +kernel
theorem d_ru_doSign_64 : decode (q_cc m_ru_doSign) 64 = .ok (.i2l, 1) := by decide +kernel
theorem d_ru_doSign_65 : decode (q_cc m_ru_doSign) 65 = .ok (.ladd, 1) := by decide +kernel
theorem d_ru_doSign_66 : decode (q_cc m_ru_doSign) 66 = .ok (.invokestatic 160, 3) := by decide +kernel
theorem d_ru_doSign_69 : decode (q_cc m_ru_doSign) 69 = .ok (.invokevirtual 146, 3) := by decide +kernel
theorem d_ru_doSign_72 : decode (q_cc m_ru_doSign) 72 = .ok (.goto 101, 3) := by decide +kernel
theorem d_ru_doSign_75 : decode (q_cc m_ru_doSign) 75 = .ok (.aload_n 0, 1) := by decide +kernel
theorem d_ru_doSign_76 : decode (q_cc m_ru_doSign) 76 = .ok (.iload_n 3, 1) := by decide +kernel
theorem d_ru_doSign_77 : decode (q_cc m_ru_doSign) 77 = .ok (.i2l, 1) := by decide +kernel
theorem d_ru_doSign_78 : decode (q_cc m_ru_doSign) 78 = .ok (.iload_n 2, 1) := by decide +kernel
theorem d_ru_doSign_79 : decode (q_cc m_ru_doSign) 79 = .ok (.i2l, 1) := by decide +kernel
theorem d_ru_doSign_80 : decode (q_cc m_ru_doSign) 80 = .ok (.lsub, 1) := by decide +kernel
theorem d_ru_doSign_81 : decode (q_cc m_ru_doSign) 81 = .ok (.invokestatic 160, 3) := by decide +kernel
theorem d_ru_doSign_84 : decode (q_cc m_ru_doSign) 84 = .ok (.invokevirtual 146, 3) := by decide +kernel
theorem d_ru_doSign_87 : decode (q_cc m_ru_doSign) 87 = .ok (.goto 86, 3) := by decide +kernel
theorem d_ru_doSign_90 : decode (q_cc m_ru_doSign) 90 = .ok (.aload_n 0, 1) := by decide +kernel
theorem d_ru_doSign_91 : decode (q_cc m_ru_doSign) 91 = .ok (.iload_n 3, 1) := by decide +kernel
theorem d_ru_doSign_92 : decode (q_cc m_ru_doSign) 92 = .ok (.i2l, 1) := by decide +kernel
theorem d_ru_doSign_93 : decode (q_cc m_ru_doSign) 93 = .ok (.iload_n 2, 1) := by decide +kernel
theorem d_ru_doSign_94 : decode (q_cc m_ru_doSign) 94 = .ok (.i2l, 1) := by decide +kernel
theorem d_ru_doSign_95 : decode (q_cc m_ru_doSign) 95 = .ok (.lmul, 1) := by decide +kernel
theorem d_ru_doSign_96 : decode (q_cc m_ru_doSign) 96 = .ok (.invokestatic 160, 3) := by decide +kernel
theorem d_ru_doSign_99 : decode (q_cc m_ru_doSign) 99 = .ok (.invokevirtual 146, 3) := by decide +kernel
theorem d_ru_doSign_102 : decode (q_cc m_ru_doSign) 102 = .ok (.goto 71, 3) := by decide +kernel
theorem d_ru_doSign_105 : decode (q_cc m_ru_doSign) 105 = .ok (.aload_n 0, 1) := by decide +kernel
theorem d_ru_doSign_106 : decode (q_cc m_ru_doSign) 106 = .ok (.iload_n 2, 1) := by decide +kernel
theorem d_ru_doSign_107 : decode (q_cc m_ru_doSign) 107 = .ok (.ifCond .ne 7, 3) := by decide +kernel
theorem d_ru_doSign_110 : decode (q_cc m_ru_doSign) 110 = .ok (.iconst 0, 1) := by decide +kernel
theorem d_ru_doSign_111 : decode (q_cc m_ru_doSign) 111 = .ok (.goto 8, 3) := by decide +kernel
theorem d_ru_doSign_114 : decode (q_cc m_ru_doSign) 114 = .ok (.iload_n 3, 1) := by decide +kernel
theorem d_ru_doSign_115 : decode (q_cc m_ru_doSign) 115 = .ok (.iload_n 2, 1) := by decide +kernel
theorem d_ru_doSign_116 : decode (q_cc m_ru_doSign) 116 = .ok (.invokestatic 164, 3) := by decide +kernel
theorem d_ru_doSign_119 : decode (q_cc m_ru_doSign) 119 = .ok (.invokevirtual 146, 3) := by decide +kernel
theorem d_ru_doSign_122 : decode (q_cc m_ru_doSign) 122 = .ok (.goto 51, 3) := by decide +kernel
theorem d_ru_doSign_125 : decode (q_cc m_ru_doSign) 125 = .ok (.aload_n 0, 1) := by decide +kernel
theorem d_ru_doSign_126 : decode (q_cc m_ru_doSign) 126 = .ok (.iload_n 3, 1) := by decide +kernel
theorem d_ru_doSign_127 : decode (q_cc m_ru_doSign) 127 = .ok (.iload_n 2, 1) := by decide +kernel
theorem d_ru_doSign_128 : decode (q_cc m_ru_doSign) 128 = .ok (.if_icmp .ge 7, 3) := by decide +kernel
theorem d_ru_doSign_131 : decode (q_cc m_ru_doSign) 131 = .ok (.iconst 1, 1) := by decide +kernel
theorem d_ru_doSign_132 : decode (q_cc m_ru_doSign) 132 = .ok (.goto 4, 3) := by decide +kernel
theorem d_ru_doSign_135 : decode (q_cc m_ru_doSign) 135 = .ok (.iconst 0, 1) := by decide +kernel
theorem d_ru_doSign_136 : decode (q_cc m_ru_doSign) 136 = .ok (.invokevirtual 146, 3) := by decide +kernel
theorem d_ru_doSign_139 : decode (q_cc m_ru_doSign) 139 = .ok (.goto 34, 3) := by decide +kernel
theorem d_ru_doSign_142 : decode (q_cc m_ru_doSign) 142 = .ok (.aload_n 0, 1) := by decide +kernel
theorem d_ru_doSign_143 : decode (q_cc m_ru_doSign) 143 = .ok (.iload_n 3, 1) := by decide +kernel
theorem d_ru_doSign_144 : decode (q_cc m_ru_doSign) 144 = .ok (.iload_n 2, 1) := by decide +kernel
theorem d_ru_doSign_145 : decode (q_cc m_ru_doSign) 145 = .ok (.if_icmp .le 7, 3) := by decide +kernel
theorem d_ru_doSign_148 : decode (q_cc m_ru_doSign) 148 = .ok (.iconst 1, 1) := by decide +kernel
theorem d_ru_doSign_149 : decode (q_cc m_ru_doSign) 149 = .ok (.goto 4, 3) := by decide +kernel
theorem d_ru_doSign_152 : decode (q_cc m_ru_doSign) 152 = .ok (.iconst 0, 1) := by decide +kernel
theorem d_ru_doSign_153 : decode (q_cc m_ru_doSign) 153 = .ok (.invokevirtual 146, 3) := by decide +kernel
theorem d_ru_doSign_156 : decode (q_cc m_ru_doSign) 156 = .ok (.goto 17, 3) := by decide +kernel
theorem d_ru_doSign_159 : decode (q_cc m_ru_doSign) 159 = .ok (.aload_n 0, 1) := by decide +kernel
theorem d_ru_doSign_160 : decode (q_cc m_ru_doSign) 160 = .ok (.iload_n 3, 1) := by decide +kernel
theorem d_ru_doSign_161 : decode (q_cc m_ru_doSign) 161 = .ok (.iload_n 2, 1) := by decide +kernel
theorem d_ru_doSign_162 : decode (q_cc m_ru_doSign) 162 = .ok (.if_icmp .ne 7, 3) := by decide +kernel
theorem d_ru_doSign_165 : decode (q_cc m_ru_doSign) 165 = .ok (.iconst 1, 1) := by decide +kernel
theorem d_ru_doSign_166 : decode (q_cc m_ru_doSign) 166 = .ok (.goto 4, 3) := by decide +kernel
theorem d_ru_doSign_169 : decode (q_cc m_ru_doSign) 169 = .ok (.iconst 0, 1) := by decide +kernel
theorem d_ru_doSign_170 : decode (q_cc m_ru_doSign) 170 = .ok (.invokevirtual 146, 3) := by decide +kernel
theorem d_ru_doSign_173 : decode (q_cc m_ru_doSign) 173 = .ok (.return_, 1) := by decide +kernel
theorem d_ru_bounded_0 : decode (q_cc m_ru_bounded) 0 = .ok (.ldc2_w 167, 3) := by decide +kernel
theorem d_ru_bounded_3 : decode (q_cc m_ru_bounded) 3 = .ok (.ldc2_w 169, 3) := by decide +kernel
theorem d_ru_bounded_6 : decode (q_cc m_ru_bounded) 6 = .ok (.lload_n 0, 1) := by decide +kernel
theorem d_ru_bounded_7 : decode (q_cc m_ru_bounded) 7 = .ok (.invokestatic 171, 3) := by decide +kernel
theorem d_ru_bounded_10 : decode (q_cc m_ru_bounded) 10 = .ok (.invokestatic 174, 3) := by decide +kernel
theorem d_ru_bounded_13 : decode (q_cc m_ru_bounded) 13 = .ok (.l2i, 1) := by decide +kernel
theorem d_ru_bounded_14 : decode (q_cc m_ru_bounded) 14 = .ok (.ireturn, 1) := by decide +kernel
theorem d_tp_init_0 : decode (q_cc m_tp_init) 0 = .ok (.aload_n 0, 1) := by decide +kernel
theorem d_tp_init_1 : decode (q_cc m_tp_init) 1 = .ok (.invokespecial 3, 3) := by decide +kernel
theorem d_tp_init_4 : decode (q_cc m_tp_init) 4 = .ok (.aload_n 0, 1) := by decide +kernel
theorem d_tp_init_5 : decode (q_cc m_tp_init) 5 = .ok (.sipush 1600, 3) := by decide +kernel
theorem d_tp_init_8 : decode (q_cc m_tp_init) 8 = .ok (.newarray .int, 2) := by decide +kernel
theorem d_tp_init_10 : decode (q_cc m_tp_init) 10 = .ok (.putfield 9, 3) := by decide +kernel
theorem d_tp_init_13 : decode (q_cc m_tp_init) 13 = .ok (.aload_n 0, 1) := by decide +kernel
theorem d_tp_init_14 : decode (q_cc m_tp_init) 14 = .ok (.iconst (-1), 1) := by decide +kernel
theorem d_tp_init_15 : decode (q_cc m_tp_init) 15 = .ok (.putfield 15, 3) := by decide +kernel
theorem d_tp_init_18 : decode (q_cc m_tp_init) 18 = .ok (.return_, 1) := by decide +kernel
theorem d_tp_append_0 : decode (q_cc m_tp_append) 0 = .ok (.bipush 24, 2) := by decide +kernel
theorem d_tp_append_2 : decode (q_cc m_tp_append) 2 = .ok (.istore_n 2, 1) := by decide +kernel
theorem d_tp_append_3 : decode (q_cc m_tp_append) 3 = .ok (.iload_n 2, 1) := by decide +kernel
theorem d_tp_append_4 : decode (q_cc m_tp_append) 4 = .ok (.ifCond .lt 45, 3) := by decide +kernel
theorem d_tp_append_7 : decode (q_cc m_tp_append) 7 = .ok (.aload_n 0, 1) := by decide +kernel
theorem d_tp_append_8 : decode (q_cc m_tp_append) 8 = .ok (.getfield 19, 3) := by decide +kernel
theorem d_tp_append_11 : decode (q_cc m_tp_append) 11 = .ok (.sipush 1600, 3) := by decide +kernel
theorem d_tp_append_14 : decode (q_cc m_tp_append) 14 = .ok (.if_icmp .ge 35, 3) := by decide +kernel
theorem d_tp_append_17 : decode (q_cc m_tp_append) 17 = .ok (.aload_n 0, 1) := by decide +kernel
theorem d_tp_append_18 : decode (q_cc m_tp_append) 18 = .ok (.getfield 9, 3) := by decide +kernel
theorem d_tp_append_21 : decode (q_cc m_tp_append) 21 = .ok (.aload_n 0, 1) := by decide +kernel
theorem d_tp_append_22 : decode (q_cc m_tp_append) 22 = .ok (.getfield 19, 3) := by decide +kernel
theorem d_tp_append_25 : decode (q_cc m_tp_append) 25 = .ok (.iload_n 1, 1) := by decide +kernel
theorem d_tp_append_26 : decode (q_cc m_tp_append) 26 = .ok (.iload_n 2, 1) := by decide +kernel
theorem d_tp_append_27 : decode (q_cc m_tp_append) 27 = .ok (.ishr, 1) := by decide +kernel
theorem d_tp_append_28 : decode (q_cc m_tp_append) 28 = .ok (.sipush 255, 3) := by decide +kernel
theorem d_tp_append_31 : decode (q_cc m_tp_append) 31 = .ok (.iand, 1) := by decide +kernel
theorem d_tp_append_32 : decode (q_cc m_tp_append) 32 = .ok (.iastore, 1) := by decide +kernel
theorem d_tp_append_33 : decode (q_cc m_tp_append) 33 = .ok (.aload_n 0, 1) := by decide +kernel
theorem d_tp_append_34 : decode (q_cc m_tp_append) 34 = .ok (.dup, 1) := by decide +kernel
theorem d_tp_append_35 : decode (q_cc m_tp_append) 35 = .ok (.getfield 19, 3) := by decide +kernel
theorem d_tp_append_38 : decode (q_cc m_tp_append) 38 = .ok (.iconst 1, 1) := by decide +kernel
theorem d_tp_append_39 : decode (q_cc m_tp_append) 39 = .ok (.iadd, 1) := by decide +kernel
theorem d_tp_append_40 : decode (q_cc m_tp_append) 40 = .ok (.putfield 19, 3) := by decide +kernel
theorem d_tp_append_43 : decode (q_cc m_tp_append) 43 = .ok (.iinc 2 (-8), 3) := by decide +kernel
theorem d_tp_append_46 : decode (q_cc m_tp_append) 46 = .ok (.goto (-43), 3) := by decide +kernel
theorem d_tp_append_49 : decode (q_cc m_tp_append) 49 = .ok (.return_, 1) := by decide +kernel
theorem d_tp_rewind_0 : decode (q_cc m_tp_rewind) 0 = .ok (.aload_n 0, 1) := by decide +kernel
theorem d_tp_rewind_1 : decode (q_cc m_tp_rewind) 1 = .ok (.iconst 0, 1) := by decide +kernel
theorem d_tp_rewind_2 : decode (q_cc m_tp_rewind) 2 = .ok (.putfield 22, 3) := by decide +kernel
theorem d_tp_rewind_5 : decode (q_cc m_tp_rewind) 5 = .ok (.aload_n 0, 1) := by decide +kernel
theorem d_tp_rewind_6 : decode (q_cc m_tp_rewind) 6 = .ok (.iconst (-1), 1) := by decide +kernel
theorem d_tp_rewind_7 : decode (q_cc m_tp_rewind) 7 = .ok (.putfield 25, 3) := by decide +kernel
theorem d_tp_rewind_10 : decode (q_cc m_tp_rewind) 10 = .ok (.aload_n 0, 1) := by decide +kernel
theorem d_tp_rewind_11 : decode (q_cc m_tp_rewind) 11 = .ok (.iconst 0, 1) := by decide +kernel
theorem d_tp_rewind_12 : decode (q_cc m_tp_rewind) 12 = .ok (.putfield 28, 3) := by decide +kernel
theorem d_tp_rewind_15 : decode (q_cc m_tp_rewind) 15 = .ok (.aload_n 0, 1) := by decide +kernel
theorem d_tp_rewind_16 : decode (q_cc m_tp_rewind) 16 = .ok (.iconst (-1), 1) := by decide +kernel
theorem d_tp_rewind_17 : decode (q_cc m_tp_rewind) 17 = .ok (.putfield 15, 3) := by decide +kernel
theorem d_tp_rewind_20 : decode (q_cc m_tp_rewind) 20 = .ok (.return_, 1) := by decide +kernel
theorem d_tp_fail_0 : decode (q_cc m_tp_fail) 0 = .ok (.aload_n 0, 1) := by decide +kernel
theorem d_tp_fail_1 : decode (q_cc m_tp_fail) 1 = .ok (.iload_n 1, 1) := by decide +kernel
theorem d_tp_fail_2 : decode (q_cc m_tp_fail) 2 = .ok (.putfield 28, 3) := by decide +kernel
theorem d_tp_fail_5 : decode (q_cc m_tp_fail) 5 = .ok (.aload_n 0, 1) := by decide +kernel
theorem d_tp_fail_6 : decode (q_cc m_tp_fail) 6 = .ok (.iload_n 2, 1) := by decide +kernel
theorem d_tp_fail_7 : decode (q_cc m_tp_fail) 7 = .ok (.putfield 15, 3) := by decide +kernel
theorem d_tp_fail_10 : decode (q_cc m_tp_fail) 10 = .ok (.iconst 0, 1) := by decide +kernel
theorem d_tp_fail_11 : decode (q_cc m_tp_fail) 11 = .ok (.ireturn, 1) := by decide +kernel
theorem d_tp_failHere_0 : decode (q_cc m_tp_failHere) 0 = .ok (.aload_n 0, 1) := by decide +kernel
theorem d_tp_failHere_1 : decode (q_cc m_tp_failHere) 1 = .ok (.iconst 1, 1) := by decide +kernel
theorem d_tp_failHere_2 : decode (q_cc m_tp_failHere) 2 = .ok (.aload_n 0, 1) := by decide +kernel
theorem d_tp_failHere_3 : decode (q_cc m_tp_failHere) 3 = .ok (.getfield 22, 3) := by decide +kernel
theorem d_tp_failHere_6 : decode (q_cc m_tp_failHere) 6 = .ok (.invokevirtual 31, 3) := by decide +kernel
theorem d_tp_failHere_9 : decode (q_cc m_tp_failHere) 9 = .ok (.ireturn, 1) := by decide +kernel
theorem d_tp_skipBlanks_0 : decode (q_cc m_tp_skipBlanks) 0 = .ok (.aload_n 0, 1) := by decide +kernel
theorem d_tp_skipBlanks_1 : decode (q_cc m_tp_skipBlanks) 1 = .ok (.getfield 22, 3) := by decide +kernel
theorem d_tp_skipBlanks_4 : decode (q_cc m_tp_skipBlanks) 4 = .ok (.aload_n 0, 1) := by decide +kernel
theorem d_tp_skipBlanks_5 : decode (q_cc m_tp_skipBlanks) 5 = .ok (.getfield 19, 3) := by decide +kernel
theorem d_tp_skipBlanks_8 : decode (q_cc m_tp_skipBlanks) 8 = .ok (.if_icmp .ge 44, 3) := by decide +kernel
theorem d_tp_skipBlanks_11 : decode (q_cc m_tp_skipBlanks) 11 = .ok (.aload_n 0, 1) := by decide +kernel
theorem d_tp_skipBlanks_12 : decode (q_cc m_tp_skipBlanks) 12 = .ok (.getfield 9, 3) := by decide +kernel
theorem d_tp_skipBlanks_15 : decode (q_cc m_tp_skipBlanks) 15 = .ok (.aload_n 0, 1) := by decide +kernel
theorem d_tp_skipBlanks_16 : decode (q_cc m_tp_skipBlanks) 16 = .ok (.getfield 22, 3) := by decide +kernel
theorem d_tp_skipBlanks_19 : decode (q_cc m_tp_skipBlanks) 19 = .ok (.iaload, 1) := by decide +kernel
theorem d_tp_skipBlanks_20 : decode (q_cc m_tp_skipBlanks) 20 = .ok (.bipush 10, 2) := by decide +kernel
theorem d_tp_skipBlanks_22 : decode (q_cc m_tp_skipBlanks) 22 = .ok (.if_icmp .eq 17, 3) := by decide +kernel
theorem d_tp_skipBlanks_25 : decode (q_cc m_tp_skipBlanks) 25 = .ok (.aload_n 0, 1) := by decide +kernel
theorem d_tp_skipBlanks_26 : decode (q_cc m_tp_skipBlanks) 26 = .ok (.getfield 9, 3) := by decide +kernel
theorem d_tp_skipBlanks_29 : decode (q_cc m_tp_skipBlanks) 29 = .ok (.aload_n 0, 1) := by decide +kernel
theorem d_tp_skipBlanks_30 : decode (q_cc m_tp_skipBlanks) 30 = .ok (.getfield 22, 3) := by decide +kernel
theorem d_tp_skipBlanks_33 : decode (q_cc m_tp_skipBlanks) 33 = .ok (.iaload, 1) := by decide +kernel
theorem d_tp_skipBlanks_34 : decode (q_cc m_tp_skipBlanks) 34 = .ok (.bipush 32, 2) := by decide +kernel
theorem d_tp_skipBlanks_36 : decode (q_cc m_tp_skipBlanks) 36 = .ok (.if_icmp .ne 16, 3) := by decide +kernel
theorem d_tp_skipBlanks_39 : decode (q_cc m_tp_skipBlanks) 39 = .ok (.aload_n 0, 1) := by decide +kernel
theorem d_tp_skipBlanks_40 : decode (q_cc m_tp_skipBlanks) 40 = .ok (.dup, 1) := by decide +kernel
theorem d_tp_skipBlanks_41 : decode (q_cc m_tp_skipBlanks) 41 = .ok (.getfield 22, 3) := by decide +kernel
theorem d_tp_skipBlanks_44 : decode (q_cc m_tp_skipBlanks) 44 = .ok (.iconst 1, 1) := by decide +kernel
theorem d_tp_skipBlanks_45 : decode (q_cc m_tp_skipBlanks) 45 = .ok (.iadd, 1) := by decide +kernel
theorem d_tp_skipBlanks_46 : decode (q_cc m_tp_skipBlanks) 46 = .ok (.putfield 22, 3) := by decide +kernel
theorem d_tp_skipBlanks_49 : decode (q_cc m_tp_skipBlanks) 49 = .ok (.goto (-49), 3) := by decide +kernel
theorem d_tp_skipBlanks_52 : decode (q_cc m_tp_skipBlanks) 52 = .ok (.aload_n 0, 1) := by decide +kernel
theorem d_tp_skipBlanks_53 : decode (q_cc m_tp_skipBlanks) 53 = .ok (.getfield 22, 3) := by decide +kernel
theorem d_tp_skipBlanks_56 : decode (q_cc m_tp_skipBlanks) 56 = .ok (.aload_n 0, 1) := by decide +kernel
theorem d_tp_skipBlanks_57 : decode (q_cc m_tp_skipBlanks) 57 = .ok (.getfield 19, 3) := by decide +kernel
theorem d_tp_skipBlanks_60 : decode (q_cc m_tp_skipBlanks) 60 = .ok (.if_icmp .ge 15, 3) := by decide +kernel
theorem d_tp_skipBlanks_63 : decode (q_cc m_tp_skipBlanks) 63 = .ok (.aload_n 0, 1) := by decide +kernel
theorem d_tp_skipBlanks_64 : decode (q_cc m_tp_skipBlanks) 64 = .ok (.getfield 9, 3) := by decide +kernel
theorem d_tp_skipBlanks_67 : decode (q_cc m_tp_skipBlanks) 67 = .ok (.aload_n 0, 1) := by decide +kernel
theorem d_tp_skipBlanks_68 : decode (q_cc m_tp_skipBlanks) 68 = .ok (.getfield 22, 3) := by decide +kernel
theorem d_tp_skipBlanks_71 : decode (q_cc m_tp_skipBlanks) 71 = .ok (.iaload, 1) := by decide +kernel
theorem d_tp_skipBlanks_72 : decode (q_cc m_tp_skipBlanks) 72 = .ok (.goto 4, 3) := by decide +kernel
theorem d_tp_skipBlanks_75 : decode (q_cc m_tp_skipBlanks) 75 = .ok (.iconst (-1), 1) := by decide +kernel
theorem d_tp_skipBlanks_76 : decode (q_cc m_tp_skipBlanks) 76 = .ok (.ireturn, 1) := by decide +kernel
theorem d_tp_takeSign_0 : decode (q_cc m_tp_takeSign) 0 = .ok (.aload_n 0, 1) := by decide +kernel
theorem d_tp_takeSign_1 : decode (q_cc m_tp_takeSign) 1 = .ok (.invokevirtual 35, 3) := by decide +kernel
theorem d_tp_takeSign_4 : decode (q_cc m_tp_takeSign) 4 = .ok (.iload_n 1, 1) := by decide +kernel
theorem d_tp_takeSign_5 : decode (q_cc m_tp_takeSign) 5 = .ok (.if_icmp .eq 13, 3) := by decide +kernel
theorem d_tp_takeSign_8 : decode (q_cc m_tp_takeSign) 8 = .ok (.aload_n 0, 1) := by decide +kernel
theorem d_tp_takeSign_9 : decode (q_cc m_tp_takeSign) 9 = .ok (.iconst 1, 1) := by decide +kernel
theorem d_tp_takeSign_10 : decode (q_cc m_tp_takeSign) 10 = .ok (.aload_n 0, 1) := by decide +kernel
theorem d_tp_takeSign_11 : decode (q_cc m_tp_takeSign) 11 = .ok (.getfield 22, 3) := by decide +kernel
theorem d_tp_takeSign_14 : decode (q_cc m_tp_takeSign) 14 = .ok (.invokevirtual 31, 3) := by decide +kernel
theorem d_tp_takeSign_17 : decode (q_cc m_tp_takeSign) 17 = .ok (.ireturn, 1) := by decide +kernel
theorem d_tp_takeSign_18 : decode (q_cc m_tp_takeSign) 18 = .ok (.aload_n 0, 1) := by decide +kernel
theorem d_tp_takeSign_19 : decode (q_cc m_tp_takeSign) 19 = .ok (.dup, 1) := by decide +kernel
theorem d_tp_takeSign_20 : decode (q_cc m_tp_takeSign) 20 = .ok (.getfield 22, 3) := by decide +kernel
theorem d_tp_takeSign_23 : decode (q_cc m_tp_takeSign) 23 = .ok (.iconst 1, 1) := by decide +kernel

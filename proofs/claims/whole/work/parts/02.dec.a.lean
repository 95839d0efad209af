theorem dX0_init_0 : decode cX0_init 0 = .ok (.aload_n 0, 1) := by decide +kernel
theorem dX0_init_1 : decode cX0_init 1 = .ok (.invokespecial 3, 3) := by decide +kernel
theorem dX0_init_4 : decode cX0_init 4 = .ok (.aload_n 0, 1) := by decide +kernel
theorem dX0_init_5 : decode cX0_init 5 = .ok (.bipush 10, 2) := by decide +kernel
theorem dX0_init_7 : decode cX0_init 7 = .ok (.newarray .int, 2) := by decide +kernel
theorem dX0_init_9 : decode cX0_init 9 = .ok (.putfield 9, 3) := by decide +kernel
theorem dX0_init_12 : decode cX0_init 12 = .ok (.aload_n 0, 1) := by decide +kernel
theorem dX0_init_13 : decode cX0_init 13 = .ok (.bipush 10, 2) := by decide +kernel
theorem dX0_init_15 : decode cX0_init 15 = .ok (.newarray .int, 2) := by decide +kernel
theorem dX0_init_17 : decode cX0_init 17 = .ok (.putfield 15, 3) := by decide +kernel
theorem dX0_init_20 : decode cX0_init 20 = .ok (.return_, 1) := by decide +kernel
theorem dX0_leastOf_0 : decode cX0_leastOf 0 = .ok (.aload_n 0, 1) := by decide +kernel
theorem dX0_leastOf_1 : decode cX0_leastOf 1 = .ok (.getfield 9, 3) := by decide +kernel
theorem dX0_leastOf_4 : decode cX0_leastOf 4 = .ok (.iload_n 1, 1) := by decide +kernel
theorem dX0_leastOf_5 : decode cX0_leastOf 5 = .ok (.iaload, 1) := by decide +kernel
theorem dX0_leastOf_6 : decode cX0_leastOf 6 = .ok (.aload_n 2, 1) := by decide +kernel
theorem dX0_leastOf_7 : decode cX0_leastOf 7 = .ok (.getfield 18, 3) := by decide +kernel
theorem dX0_leastOf_10 : decode cX0_leastOf 10 = .ok (.imul, 1) := by decide +kernel
theorem dX0_leastOf_11 : decode cX0_leastOf 11 = .ok (.bipush 10, 2) := by decide +kernel
theorem dX0_leastOf_13 : decode cX0_leastOf 13 = .ok (.idiv, 1) := by decide +kernel
theorem dX0_leastOf_14 : decode cX0_leastOf 14 = .ok (.ireturn, 1) := by decide +kernel
theorem dX0_greatestOf_0 : decode cX0_greatestOf 0 = .ok (.aload_n 0, 1) := by decide +kernel
theorem dX0_greatestOf_1 : decode cX0_greatestOf 1 = .ok (.getfield 15, 3) := by decide +kernel
theorem dX0_greatestOf_4 : decode cX0_greatestOf 4 = .ok (.iload_n 1, 1) := by decide +kernel
theorem dX0_greatestOf_5 : decode cX0_greatestOf 5 = .ok (.iaload, 1) := by decide +kernel
theorem dX0_greatestOf_6 : decode cX0_greatestOf 6 = .ok (.aload_n 2, 1) := by decide +kernel
theorem dX0_greatestOf_7 : decode cX0_greatestOf 7 = .ok (.getfield 24, 3) := by decide +kernel
theorem dX0_greatestOf_10 : decode cX0_greatestOf 10 = .ok (.imul, 1) := by decide +kernel
theorem dX0_greatestOf_11 : decode cX0_greatestOf 11 = .ok (.bipush 9, 2) := by decide +kernel
theorem dX0_greatestOf_13 : decode cX0_greatestOf 13 = .ok (.iadd, 1) := by decide +kernel
theorem dX0_greatestOf_14 : decode cX0_greatestOf 14 = .ok (.bipush 10, 2) := by decide +kernel
theorem dX0_greatestOf_16 : decode cX0_greatestOf 16 = .ok (.idiv, 1) := by decide +kernel
theorem dX0_greatestOf_17 : decode cX0_greatestOf 17 = .ok (.ireturn, 1) := by decide +kernel
theorem dX1_init_0 : decode cX1_init 0 = .ok (.aload_n 0, 1) := by decide +kernel
theorem dX1_init_1 : decode cX1_init 1 = .ok (.invokespecial 5, 3) := by decide +kernel
theorem dX1_init_4 : decode cX1_init 4 = .ok (.aload_n 0, 1) := by decide +kernel
theorem dX1_init_5 : decode cX1_init 5 = .ok (.bipush 80, 2) := by decide +kernel
theorem dX1_init_7 : decode cX1_init 7 = .ok (.newarray .boolean, 2) := by decide +kernel
theorem dX1_init_9 : decode cX1_init 9 = .ok (.putfield 11, 3) := by decide +kernel
theorem dX1_init_12 : decode cX1_init 12 = .ok (.aload_n 0, 1) := by decide +kernel
theorem dX1_init_13 : decode cX1_init 13 = .ok (.bipush 80, 2) := by decide +kernel
theorem dX1_init_15 : decode cX1_init 15 = .ok (.newarray .int, 2) := by decide +kernel
theorem dX1_init_17 : decode cX1_init 17 = .ok (.putfield 15, 3) := by decide +kernel
theorem dX1_init_20 : decode cX1_init 20 = .ok (.aload_n 0, 1) := by decide +kernel
theorem dX1_init_21 : decode cX1_init 21 = .ok (.bipush 80, 2) := by decide +kernel
theorem dX1_init_23 : decode cX1_init 23 = .ok (.newarray .int, 2) := by decide +kernel
theorem dX1_init_25 : decode cX1_init 25 = .ok (.putfield 19, 3) := by decide +kernel
theorem dX1_init_28 : decode cX1_init 28 = .ok (.aload_n 0, 1) := by decide +kernel
theorem dX1_init_29 : decode cX1_init 29 = .ok (.bipush 80, 2) := by decide +kernel
theorem dX1_init_31 : decode cX1_init 31 = .ok (.newarray .int, 2) := by decide +kernel
theorem dX1_init_33 : decode cX1_init 33 = .ok (.putfield 22, 3) := by decide +kernel
theorem dX1_init_36 : decode cX1_init 36 = .ok (.aload_n 0, 1) := by decide +kernel
theorem dX1_init_37 : decode cX1_init 37 = .ok (.bipush 80, 2) := by decide +kernel
theorem dX1_init_39 : decode cX1_init 39 = .ok (.newarray .int, 2) := by decide +kernel
theorem dX1_init_41 : decode cX1_init 41 = .ok (.putfield 25, 3) := by decide +kernel
theorem dX1_init_44 : decode cX1_init 44 = .ok (.aload_n 0, 1) := by decide +kernel
theorem dX1_init_45 : decode cX1_init 45 = .ok (.bipush 80, 2) := by decide +kernel
theorem dX1_init_47 : decode cX1_init 47 = .ok (.newarray .int, 2) := by decide +kernel
theorem dX1_init_49 : decode cX1_init 49 = .ok (.putfield 28, 3) := by decide +kernel
theorem dX1_init_52 : decode cX1_init 52 = .ok (.aload_n 0, 1) := by decide +kernel
theorem dX1_init_53 : decode cX1_init 53 = .ok (.bipush 80, 2) := by decide +kernel
theorem dX1_init_55 : decode cX1_init 55 = .ok (.newarray .int, 2) := by decide +kernel
theorem dX1_init_57 : decode cX1_init 57 = .ok (.putfield 31, 3) := by decide +kernel
theorem dX1_init_60 : decode cX1_init 60 = .ok (.aload_n 0, 1) := by decide +kernel
theorem dX1_init_61 : decode cX1_init 61 = .ok (.iconst 0, 1) := by decide +kernel
theorem dX1_init_62 : decode cX1_init 62 = .ok (.putfield 34, 3) := by decide +kernel
theorem dX1_init_65 : decode cX1_init 65 = .ok (.aload_n 0, 1) := by decide +kernel
theorem dX1_init_66 : decode cX1_init 66 = .ok (.iconst 0, 1) := by decide +kernel
theorem dX1_init_67 : decode cX1_init 67 = .ok (.putfield 38, 3) := by decide +kernel
theorem dX1_init_70 : decode cX1_init 70 = .ok (.aload_n 0, 1) := by decide +kernel
theorem dX1_init_71 : decode cX1_init 71 = .ok (.bipush 17, 2) := by decide +kernel
theorem dX1_init_73 : decode cX1_init 73 = .ok (.newarray .int, 2) := by decide +kernel
theorem dX1_init_75 : decode cX1_init 75 = .ok (.putfield 41, 3) := by decide +kernel
theorem dX1_init_78 : decode cX1_init 78 = .ok (.aload_n 0, 1) := by decide +kernel
theorem dX1_init_79 : decode cX1_init 79 = .ok (.bipush 17, 2) := by decide +kernel
theorem dX1_init_81 : decode cX1_init 81 = .ok (.newarray .int, 2) := by decide +kernel
theorem dX1_init_83 : decode cX1_init 83 = .ok (.putfield 44, 3) := by decide +kernel
theorem dX1_init_86 : decode cX1_init 86 = .ok (.aload_n 0, 1) := by decide +kernel
theorem dX1_init_87 : decode cX1_init 87 = .ok (.bipush 80, 2) := by decide +kernel
theorem dX1_init_89 : decode cX1_init 89 = .ok (.newarray .boolean, 2) := by decide +kernel
theorem dX1_init_91 : decode cX1_init 91 = .ok (.putfield 47, 3) := by decide +kernel
theorem dX1_init_94 : decode cX1_init 94 = .ok (.aload_n 0, 1) := by decide +kernel
theorem dX1_init_95 : decode cX1_init 95 = .ok (.bipush 10, 2) := by decide +kernel
theorem dX1_init_97 : decode cX1_init 97 = .ok (.newarray .int, 2) := by decide +kernel
theorem dX1_init_99 : decode cX1_init 99 = .ok (.putfield 50, 3) := by decide +kernel
theorem dX1_init_102 : decode cX1_init 102 = .ok (.aload_n 0, 1) := by decide +kernel
theorem dX1_init_103 : decode cX1_init 103 = .ok (.bipush 10, 2) := by decide +kernel
theorem dX1_init_105 : decode cX1_init 105 = .ok (.newarray .int, 2) := by decide +kernel
theorem dX1_init_107 : decode cX1_init 107 = .ok (.putfield 53, 3) := by decide +kernel
theorem dX1_init_110 : decode cX1_init 110 = .ok (.aload_n 0, 1) := by decide +kernel
theorem dX1_init_111 : decode cX1_init 111 = .ok (.bipush 10, 2) := by decide +kernel
theorem dX1_init_113 : decode cX1_init 113 = .ok (.newarray .boolean, 2) := by decide +kernel
theorem dX1_init_115 : decode cX1_init 115 = .ok (.putfield 56, 3) := by decide +kernel
theorem dX1_init_118 : decode cX1_init 118 = .ok (.return_, 1) := by decide +kernel
theorem dX1_clear_0 : decode cX1_clear 0 = .ok (.iconst 0, 1) := by decide +kernel
theorem dX1_clear_1 : decode cX1_clear 1 = .ok (.istore_n 1, 1) := by decide +kernel
theorem dX1_clear_2 : decode cX1_clear 2 = .ok (.iload_n 1, 1) := by decide +kernel
theorem dX1_clear_3 : decode cX1_clear 3 = .ok (.bipush 80, 2) := by decide +kernel
theorem dX1_clear_5 : decode cX1_clear 5 = .ok (.if_icmp .ge 16, 3) := by decide +kernel
theorem dX1_clear_8 : decode cX1_clear 8 = .ok (.aload_n 0, 1) := by decide +kernel
theorem dX1_clear_9 : decode cX1_clear 9 = .ok (.getfield 11, 3) := by decide +kernel
theorem dX1_clear_12 : decode cX1_clear 12 = .ok (.iload_n 1, 1) := by decide +kernel
theorem dX1_clear_13 : decode cX1_clear 13 = .ok (.iconst 0, 1) := by decide +kernel
theorem dX1_clear_14 : decode cX1_clear 14 = .ok (.bastore, 1) := by decide +kernel
theorem dX1_clear_15 : decode cX1_clear 15 = .ok (.iinc 1 1, 3) := by decide +kernel
theorem dX1_clear_18 : decode cX1_clear 18 = .ok (.goto (-16), 3) := by decide +kernel
theorem dX1_clear_21 : decode cX1_clear 21 = .ok (.aload_n 0, 1) := by decide +kernel
theorem dX1_clear_22 : decode cX1_clear 22 = .ok (.iconst 0, 1) := by decide +kernel
theorem dX1_clear_23 : decode cX1_clear 23 = .ok (.putfield 38, 3) := by decide +kernel
theorem dX1_clear_26 : decode cX1_clear 26 = .ok (.return_, 1) := by decide +kernel
theorem dX1_tie_0 : decode cX1_tie 0 = .ok (.aload_n 0, 1) := by decide +kernel
theorem dX1_tie_1 : decode cX1_tie 1 = .ok (.getfield 11, 3) := by decide +kernel
theorem dX1_tie_4 : decode cX1_tie 4 = .ok (.iload_n 1, 1) := by decide +kernel
theorem dX1_tie_5 : decode cX1_tie 5 = .ok (.iconst 1, 1) := by decide +kernel
theorem dX1_tie_6 : decode cX1_tie 6 = .ok (.bastore, 1) := by decide +kernel
theorem dX1_tie_7 : decode cX1_tie 7 = .ok (.aload_n 0, 1) := by decide +kernel
theorem dX1_tie_8 : decode cX1_tie 8 = .ok (.getfield 15, 3) := by decide +kernel
theorem dX1_tie_11 : decode cX1_tie 11 = .ok (.iload_n 1, 1) := by decide +kernel
theorem dX1_tie_12 : decode cX1_tie 12 = .ok (.iload_n 2, 1) := by decide +kernel
theorem dX1_tie_13 : decode cX1_tie 13 = .ok (.iastore, 1) := by decide +kernel
theorem dX1_tie_14 : decode cX1_tie 14 = .ok (.aload_n 0, 1) := by decide +kernel
theorem dX1_tie_15 : decode cX1_tie 15 = .ok (.getfield 19, 3) := by decide +kernel
theorem dX1_tie_18 : decode cX1_tie 18 = .ok (.iload_n 1, 1) := by decide +kernel
theorem dX1_tie_19 : decode cX1_tie 19 = .ok (.iload_n 3, 1) := by decide +kernel
theorem dX1_tie_20 : decode cX1_tie 20 = .ok (.iastore, 1) := by decide +kernel
theorem dX1_tie_21 : decode cX1_tie 21 = .ok (.aload_n 0, 1) := by decide +kernel
theorem dX1_tie_22 : decode cX1_tie 22 = .ok (.getfield 22, 3) := by decide +kernel
theorem dX1_tie_25 : decode cX1_tie 25 = .ok (.iload_n 1, 1) := by decide +kernel
theorem dX1_tie_26 : decode cX1_tie 26 = .ok (.iload 4, 2) := by decide +kernel
theorem dX1_tie_28 : decode cX1_tie 28 = .ok (.iastore, 1) := by decide +kernel
theorem dX1_tie_29 : decode cX1_tie 29 = .ok (.return_, 1) := by decide +kernel
theorem dX1_span_0 : decode cX1_span 0 = .ok (.aload_n 0, 1) := by decide +kernel
theorem dX1_span_1 : decode cX1_span 1 = .ok (.getfield 25, 3) := by decide +kernel
theorem dX1_span_4 : decode cX1_span 4 = .ok (.iload_n 1, 1) := by decide +kernel
theorem dX1_span_5 : decode cX1_span 5 = .ok (.iload_n 2, 1) := by decide +kernel
theorem dX1_span_6 : decode cX1_span 6 = .ok (.iastore, 1) := by decide +kernel
theorem dX1_span_7 : decode cX1_span 7 = .ok (.aload_n 0, 1) := by decide +kernel
theorem dX1_span_8 : decode cX1_span 8 = .ok (.getfield 28, 3) := by decide +kernel
theorem dX1_span_11 : decode cX1_span 11 = .ok (.iload_n 1, 1) := by decide +kernel
theorem dX1_span_12 : decode cX1_span 12 = .ok (.iload_n 3, 1) := by decide +kernel
theorem dX1_span_13 : decode cX1_span 13 = .ok (.iastore, 1) := by decide +kernel
theorem dX1_span_14 : decode cX1_span 14 = .ok (.return_, 1) := by decide +kernel
theorem dX1_leaveOut_0 : decode cX1_leaveOut 0 = .ok (.aload_n 0, 1) := by decide +kernel
theorem dX1_leaveOut_1 : decode cX1_leaveOut 1 = .ok (.iconst 0, 1) := by decide +kernel
theorem dX1_leaveOut_2 : decode cX1_leaveOut 2 = .ok (.putfield 34, 3) := by decide +kernel
theorem dX1_leaveOut_5 : decode cX1_leaveOut 5 = .ok (.iconst 0, 1) := by decide +kernel
theorem dX1_leaveOut_6 : decode cX1_leaveOut 6 = .ok (.istore 4, 2) := by decide +kernel
theorem dX1_leaveOut_8 : decode cX1_leaveOut 8 = .ok (.iload 4, 2) := by decide +kernel
theorem dX1_leaveOut_10 : decode cX1_leaveOut 10 = .ok (.bipush 80, 2) := by decide +kernel
theorem dX1_leaveOut_12 : decode cX1_leaveOut 12 = .ok (.if_icmp .ge 63, 3) := by decide +kernel
theorem dX1_leaveOut_15 : decode cX1_leaveOut 15 = .ok (.aload_n 0, 1) := by decide +kernel
theorem dX1_leaveOut_16 : decode cX1_leaveOut 16 = .ok (.getfield 11, 3) := by decide +kernel
theorem dX1_leaveOut_19 : decode cX1_leaveOut 19 = .ok (.iload 4, 2) := by decide +kernel
theorem dX1_leaveOut_21 : decode cX1_leaveOut 21 = .ok (.baload, 1) := by decide +kernel
theorem dX1_leaveOut_22 : decode cX1_leaveOut 22 = .ok (.ifCond .eq 47, 3) := by decide +kernel
theorem dX1_leaveOut_25 : decode cX1_leaveOut 25 = .ok (.aload_n 0, 1) := by decide +kernel
theorem dX1_leaveOut_26 : decode cX1_leaveOut 26 = .ok (.getfield 15, 3) := by decide +kernel
theorem dX1_leaveOut_29 : decode cX1_leaveOut 29 = .ok (.iload 4, 2) := by decide +kernel
theorem dX1_leaveOut_31 : decode cX1_leaveOut 31 = .ok (.iaload, 1) := by decide +kernel
theorem dX1_leaveOut_32 : decode cX1_leaveOut 32 = .ok (.iload_n 1, 1) := by decide +kernel
theorem dX1_leaveOut_33 : decode cX1_leaveOut 33 = .ok (.if_icmp .eq 36, 3) := by decide +kernel
theorem dX1_leaveOut_36 : decode cX1_leaveOut 36 = .ok (.iload 4, 2) := by decide +kernel
theorem dX1_leaveOut_38 : decode cX1_leaveOut 38 = .ok (.iload_n 2, 1) := by decide +kernel
theorem dX1_leaveOut_39 : decode cX1_leaveOut 39 = .ok (.if_icmp .eq 30, 3) := by decide +kernel
theorem dX1_leaveOut_42 : decode cX1_leaveOut 42 = .ok (.iload 4, 2) := by decide +kernel
theorem dX1_leaveOut_44 : decode cX1_leaveOut 44 = .ok (.iload_n 3, 1) := by decide +kernel
theorem dX1_leaveOut_45 : decode cX1_leaveOut 45 = .ok (.if_icmp .eq 24, 3) := by decide +kernel
theorem dX1_leaveOut_48 : decode cX1_leaveOut 48 = .ok (.aload_n 0, 1) := by decide +kernel
theorem dX1_leaveOut_49 : decode cX1_leaveOut 49 = .ok (.getfield 31, 3) := by decide +kernel
theorem dX1_leaveOut_52 : decode cX1_leaveOut 52 = .ok (.aload_n 0, 1) := by decide +kernel
theorem dX1_leaveOut_53 : decode cX1_leaveOut 53 = .ok (.getfield 34, 3) := by decide +kernel
theorem dX1_leaveOut_56 : decode cX1_leaveOut 56 = .ok (.iload 4, 2) := by decide +kernel
theorem dX1_leaveOut_58 : decode cX1_leaveOut 58 = .ok (.iastore, 1) := by decide +kernel
theorem dX1_leaveOut_59 : decode cX1_leaveOut 59 = .ok (.aload_n 0, 1) := by decide +kernel
theorem dX1_leaveOut_60 : decode cX1_leaveOut 60 = .ok (.dup, 1) := by decide +kernel
theorem dX1_leaveOut_61 : decode cX1_leaveOut 61 = .ok (.getfield 34, 3) := by decide +kernel
theorem dX1_leaveOut_64 : decode cX1_leaveOut 64 = .ok (.iconst 1, 1) := by decide +kernel
theorem dX1_leaveOut_65 : decode cX1_leaveOut 65 = .ok (.iadd, 1) := by decide +kernel
theorem dX1_leaveOut_66 : decode cX1_leaveOut 66 = .ok (.putfield 34, 3) := by decide +kernel
theorem dX1_leaveOut_69 : decode cX1_leaveOut 69 = .ok (.iinc 4 1, 3) := by decide +kernel
theorem dX1_leaveOut_72 : decode cX1_leaveOut 72 = .ok (.goto (-64), 3) := by decide +kernel
theorem dX1_leaveOut_75 : decode cX1_leaveOut 75 = .ok (.return_, 1) := by decide +kernel
theorem dX1_widen_0 : decode cX1_widen 0 = .ok (.aload_n 0, 1) := by decide +kernel
theorem dX1_widen_1 : decode cX1_widen 1 = .ok (.iload_n 1, 1) := by decide +kernel
theorem dX1_widen_2 : decode cX1_widen 2 = .ok (.putfield 38, 3) := by decide +kernel
theorem dX1_widen_5 : decode cX1_widen 5 = .ok (.return_, 1) := by decide +kernel
theorem dX1_quarrels_0 : decode cX1_quarrels 0 = .ok (.aload_n 0, 1) := by decide +kernel
theorem dX1_quarrels_1 : decode cX1_quarrels 1 = .ok (.invokevirtual 59, 3) := by decide +kernel
theorem dX1_quarrels_4 : decode cX1_quarrels 4 = .ok (.iconst (-1), 1) := by decide +kernel
theorem dX1_quarrels_5 : decode cX1_quarrels 5 = .ok (.if_icmp .eq 7, 3) := by decide +kernel
theorem dX1_quarrels_8 : decode cX1_quarrels 8 = .ok (.iconst 1, 1) := by decide +kernel
theorem dX1_quarrels_9 : decode cX1_quarrels 9 = .ok (.goto 4, 3) := by decide +kernel
theorem dX1_quarrels_12 : decode cX1_quarrels 12 = .ok (.iconst 0, 1) := by decide +kernel
theorem dX1_quarrels_13 : decode cX1_quarrels 13 = .ok (.ireturn, 1) := by decide +kernel
theorem dX1_findRing_0 : decode cX1_findRing 0 = .ok (.aload_n 0, 1) := by decide +kernel
theorem dX1_findRing_1 : decode cX1_findRing 1 = .ok (.invokevirtual 59, 3) := by decide +kernel
theorem dX1_findRing_4 : decode cX1_findRing 4 = .ok (.istore_n 2, 1) := by decide +kernel
theorem dX1_findRing_5 : decode cX1_findRing 5 = .ok (.iload_n 2, 1) := by decide +kernel
theorem dX1_findRing_6 : decode cX1_findRing 6 = .ok (.iconst (-1), 1) := by decide +kernel
theorem dX1_findRing_7 : decode cX1_findRing 7 = .ok (.if_icmp .ne 5, 3) := by decide +kernel
theorem dX1_findRing_10 : decode cX1_findRing 10 = .ok (.iconst 0, 1) := by decide +kernel
theorem dX1_findRing_11 : decode cX1_findRing 11 = .ok (.ireturn, 1) := by decide +kernel
theorem dX1_findRing_12 : decode cX1_findRing 12 = .ok (.iconst 0, 1) := by decide +kernel
theorem dX1_findRing_13 : decode cX1_findRing 13 = .ok (.istore_n 3, 1) := by decide +kernel
theorem dX1_findRing_14 : decode cX1_findRing 14 = .ok (.iload_n 3, 1) := by decide +kernel
theorem dX1_findRing_15 : decode cX1_findRing 15 = .ok (.bipush 17, 2) := by decide +kernel
theorem dX1_findRing_17 : decode cX1_findRing 17 = .ok (.if_icmp .ge 31, 3) := by decide +kernel
theorem dX1_findRing_20 : decode cX1_findRing 20 = .ok (.aload_n 0, 1) := by decide +kernel
theorem dX1_findRing_21 : decode cX1_findRing 21 = .ok (.getfield 44, 3) := by decide +kernel
theorem dX1_findRing_24 : decode cX1_findRing 24 = .ok (.iload_n 2, 1) := by decide +kernel
theorem dX1_findRing_25 : decode cX1_findRing 25 = .ok (.iaload, 1) := by decide +kernel
theorem dX1_findRing_26 : decode cX1_findRing 26 = .ok (.iconst (-1), 1) := by decide +kernel
theorem dX1_findRing_27 : decode cX1_findRing 27 = .ok (.if_icmp .eq 21, 3) := by decide +kernel
theorem dX1_findRing_30 : decode cX1_findRing 30 = .ok (.aload_n 0, 1) := by decide +kernel
theorem dX1_findRing_31 : decode cX1_findRing 31 = .ok (.aload_n 0, 1) := by decide +kernel
theorem dX1_findRing_32 : decode cX1_findRing 32 = .ok (.getfield 44, 3) := by decide +kernel
theorem dX1_findRing_35 : decode cX1_findRing 35 = .ok (.iload_n 2, 1) := by decide +kernel
theorem dX1_findRing_36 : decode cX1_findRing 36 = .ok (.iaload, 1) := by decide +kernel
theorem dX1_findRing_37 : decode cX1_findRing 37 = .ok (.iload_n 2, 1) := by decide +kernel
theorem dX1_findRing_38 : decode cX1_findRing 38 = .ok (.invokevirtual 63, 3) := by decide +kernel
theorem dX1_findRing_41 : decode cX1_findRing 41 = .ok (.istore_n 2, 1) := by decide +kernel
theorem dX1_findRing_42 : decode cX1_findRing 42 = .ok (.iinc 3 1, 3) := by decide +kernel
theorem dX1_findRing_45 : decode cX1_findRing 45 = .ok (.goto (-31), 3) := by decide +kernel
theorem dX1_findRing_48 : decode cX1_findRing 48 = .ok (.iload_n 2, 1) := by decide +kernel
theorem dX1_findRing_49 : decode cX1_findRing 49 = .ok (.istore_n 3, 1) := by decide +kernel
theorem dX1_findRing_50 : decode cX1_findRing 50 = .ok (.iconst 0, 1) := by decide +kernel
theorem dX1_findRing_51 : decode cX1_findRing 51 = .ok (.istore 4, 2) := by decide +kernel
theorem dX1_findRing_53 : decode cX1_findRing 53 = .ok (.iload 4, 2) := by decide +kernel
theorem dX1_findRing_55 : decode cX1_findRing 55 = .ok (.bipush 17, 2) := by decide +kernel
theorem dX1_findRing_57 : decode cX1_findRing 57 = .ok (.if_icmp .ge 53, 3) := by decide +kernel
theorem dX1_findRing_60 : decode cX1_findRing 60 = .ok (.iload 4, 2) := by decide +kernel
theorem dX1_findRing_62 : decode cX1_findRing 62 = .ok (.aload_n 1, 1) := by decide +kernel
theorem dX1_findRing_63 : decode cX1_findRing 63 = .ok (.arraylength, 1) := by decide +kernel
theorem dX1_findRing_64 : decode cX1_findRing 64 = .ok (.if_icmp .ge 46, 3) := by decide +kernel
theorem dX1_findRing_67 : decode cX1_findRing 67 = .ok (.aload_n 0, 1) := by decide +kernel
theorem dX1_findRing_68 : decode cX1_findRing 68 = .ok (.getfield 44, 3) := by decide +kernel
theorem dX1_findRing_71 : decode cX1_findRing 71 = .ok (.iload_n 2, 1) := by decide +kernel
theorem dX1_findRing_72 : decode cX1_findRing 72 = .ok (.iaload, 1) := by decide +kernel
theorem dX1_findRing_73 : decode cX1_findRing 73 = .ok (.iconst (-1), 1) := by decide +kernel
theorem dX1_findRing_74 : decode cX1_findRing 74 = .ok (.if_icmp .eq 36, 3) := by decide +kernel
theorem dX1_findRing_77 : decode cX1_findRing 77 = .ok (.aload_n 1, 1) := by decide +kernel
theorem dX1_findRing_78 : decode cX1_findRing 78 = .ok (.iload 4, 2) := by decide +kernel
theorem dX1_findRing_80 : decode cX1_findRing 80 = .ok (.aload_n 0, 1) := by decide +kernel
theorem dX1_findRing_81 : decode cX1_findRing 81 = .ok (.getfield 44, 3) := by decide +kernel
theorem dX1_findRing_84 : decode cX1_findRing 84 = .ok (.iload_n 2, 1) := by decide +kernel
theorem dX1_findRing_85 : decode cX1_findRing 85 = .ok (.iaload, 1) := by decide +kernel
theorem dX1_findRing_86 : decode cX1_findRing 86 = .ok (.iastore, 1) := by decide +kernel
theorem dX1_findRing_87 : decode cX1_findRing 87 = .ok (.iinc 4 1, 3) := by decide +kernel
theorem dX1_findRing_90 : decode cX1_findRing 90 = .ok (.aload_n 0, 1) := by decide +kernel
theorem dX1_findRing_91 : decode cX1_findRing 91 = .ok (.aload_n 0, 1) := by decide +kernel
theorem dX1_findRing_92 : decode cX1_findRing 92 = .ok (.getfield 44, 3) := by decide +kernel
theorem dX1_findRing_95 : decode cX1_findRing 95 = .ok (.iload_n 2, 1) := by decide +kernel
theorem dX1_findRing_96 : decode cX1_findRing 96 = .ok (.iaload, 1) := by decide +kernel
theorem dX1_findRing_97 : decode cX1_findRing 97 = .ok (.iload_n 2, 1) := by decide +kernel
theorem dX1_findRing_98 : decode cX1_findRing 98 = .ok (.invokevirtual 63, 3) := by decide +kernel
theorem dX1_findRing_101 : decode cX1_findRing 101 = .ok (.istore_n 2, 1) := by decide +kernel
theorem dX1_findRing_102 : decode cX1_findRing 102 = .ok (.iload_n 2, 1) := by decide +kernel
theorem dX1_findRing_103 : decode cX1_findRing 103 = .ok (.iload_n 3, 1) := by decide +kernel
theorem dX1_findRing_104 : decode cX1_findRing 104 = .ok (.if_icmp .ne (-51), 3) := by decide +kernel
theorem dX1_findRing_107 : decode cX1_findRing 107 = .ok (.goto 3, 3) := by decide +kernel
theorem dX1_findRing_110 : decode cX1_findRing 110 = .ok (.iload 4, 2) := by decide +kernel
theorem dX1_findRing_112 : decode cX1_findRing 112 = .ok (.ireturn, 1) := by decide +kernel
theorem dX1_findUnrest_0 : decode cX1_findUnrest 0 = .ok (.iconst 0, 1) := by decide +kernel
theorem dX1_findUnrest_1 : decode cX1_findUnrest 1 = .ok (.istore_n 1, 1) := by decide +kernel
theorem dX1_findUnrest_2 : decode cX1_findUnrest 2 = .ok (.iload_n 1, 1) := by decide +kernel
theorem dX1_findUnrest_3 : decode cX1_findUnrest 3 = .ok (.bipush 17, 2) := by decide +kernel
theorem dX1_findUnrest_5 : decode cX1_findUnrest 5 = .ok (.if_icmp .ge 23, 3) := by decide +kernel
theorem dX1_findUnrest_8 : decode cX1_findUnrest 8 = .ok (.aload_n 0, 1) := by decide +kernel
theorem dX1_findUnrest_9 : decode cX1_findUnrest 9 = .ok (.getfield 41, 3) := by decide +kernel
theorem dX1_findUnrest_12 : decode cX1_findUnrest 12 = .ok (.iload_n 1, 1) := by decide +kernel
theorem dX1_findUnrest_13 : decode cX1_findUnrest 13 = .ok (.iconst 0, 1) := by decide +kernel
theorem dX1_findUnrest_14 : decode cX1_findUnrest 14 = .ok (.iastore, 1) := by decide +kernel
theorem dX1_findUnrest_15 : decode cX1_findUnrest 15 = .ok (.aload_n 0, 1) := by decide +kernel
theorem dX1_findUnrest_16 : decode cX1_findUnrest 16 = .ok (.getfield 44, 3) := by decide +kernel
theorem dX1_findUnrest_19 : decode cX1_findUnrest 19 = .ok (.iload_n 1, 1) := by decide +kernel
theorem dX1_findUnrest_20 : decode cX1_findUnrest 20 = .ok (.iconst (-1), 1) := by decide +kernel
theorem dX1_findUnrest_21 : decode cX1_findUnrest 21 = .ok (.iastore, 1) := by decide +kernel
theorem dX1_findUnrest_22 : decode cX1_findUnrest 22 = .ok (.iinc 1 1, 3) := by decide +kernel
theorem dX1_findUnrest_25 : decode cX1_findUnrest 25 = .ok (.goto (-23), 3) := by decide +kernel
theorem dX1_findUnrest_28 : decode cX1_findUnrest 28 = .ok (.iconst 0, 1) := by decide +kernel
theorem dX1_findUnrest_29 : decode cX1_findUnrest 29 = .ok (.istore_n 1, 1) := by decide +kernel
theorem dX1_findUnrest_30 : decode cX1_findUnrest 30 = .ok (.iconst 0, 1) := by decide +kernel
theorem dX1_findUnrest_31 : decode cX1_findUnrest 31 = .ok (.istore_n 2, 1) := by decide +kernel
theorem dX1_findUnrest_32 : decode cX1_findUnrest 32 = .ok (.iload_n 2, 1) := by decide +kernel
theorem dX1_findUnrest_33 : decode cX1_findUnrest 33 = .ok (.bipush 17, 2) := by decide +kernel
theorem dX1_findUnrest_35 : decode cX1_findUnrest 35 = .ok (.if_icmp .ge 20, 3) := by decide +kernel
theorem dX1_findUnrest_38 : decode cX1_findUnrest 38 = .ok (.iload_n 1, 1) := by decide +kernel
theorem dX1_findUnrest_39 : decode cX1_findUnrest 39 = .ok (.iconst (-1), 1) := by decide +kernel
theorem dX1_findUnrest_40 : decode cX1_findUnrest 40 = .ok (.if_icmp .eq 15, 3) := by decide +kernel
theorem dX1_findUnrest_43 : decode cX1_findUnrest 43 = .ok (.aload_n 0, 1) := by decide +kernel
theorem dX1_findUnrest_44 : decode cX1_findUnrest 44 = .ok (.iconst 1, 1) := by decide +kernel
theorem dX1_findUnrest_45 : decode cX1_findUnrest 45 = .ok (.invokevirtual 67, 3) := by decide +kernel
theorem dX1_findUnrest_48 : decode cX1_findUnrest 48 = .ok (.istore_n 1, 1) := by decide +kernel
theorem dX1_findUnrest_49 : decode cX1_findUnrest 49 = .ok (.iinc 2 1, 3) := by decide +kernel
theorem dX1_findUnrest_52 : decode cX1_findUnrest 52 = .ok (.goto (-20), 3) := by decide +kernel
theorem dX1_findUnrest_55 : decode cX1_findUnrest 55 = .ok (.iload_n 1, 1) := by decide +kernel
theorem dX1_findUnrest_56 : decode cX1_findUnrest 56 = .ok (.ireturn, 1) := by decide +kernel
theorem dX1_reach_0 : decode cX1_reach 0 = .ok (.iconst 0, 1) := by decide +kernel
theorem dX1_reach_1 : decode cX1_reach 1 = .ok (.istore_n 3, 1) := by decide +kernel
theorem dX1_reach_2 : decode cX1_reach 2 = .ok (.iload_n 3, 1) := by decide +kernel
theorem dX1_reach_3 : decode cX1_reach 3 = .ok (.bipush 17, 2) := by decide +kernel
theorem dX1_reach_5 : decode cX1_reach 5 = .ok (.if_icmp .ge 24, 3) := by decide +kernel
theorem dX1_reach_8 : decode cX1_reach 8 = .ok (.aload_n 0, 1) := by decide +kernel
theorem dX1_reach_9 : decode cX1_reach 9 = .ok (.getfield 41, 3) := by decide +kernel
theorem dX1_reach_12 : decode cX1_reach 12 = .ok (.iload_n 3, 1) := by decide +kernel
theorem dX1_reach_13 : decode cX1_reach 13 = .ok (.ldc 71, 2) := by decide +kernel
theorem dX1_reach_15 : decode cX1_reach 15 = .ok (.iastore, 1) := by decide +kernel
theorem dX1_reach_16 : decode cX1_reach 16 = .ok (.aload_n 0, 1) := by decide +kernel
theorem dX1_reach_17 : decode cX1_reach 17 = .ok (.getfield 44, 3) := by decide +kernel
theorem dX1_reach_20 : decode cX1_reach 20 = .ok (.iload_n 3, 1) := by decide +kernel
theorem dX1_reach_21 : decode cX1_reach 21 = .ok (.iconst (-1), 1) := by decide +kernel
theorem dX1_reach_22 : decode cX1_reach 22 = .ok (.iastore, 1) := by decide +kernel
theorem dX1_reach_23 : decode cX1_reach 23 = .ok (.iinc 3 1, 3) := by decide +kernel
theorem dX1_reach_26 : decode cX1_reach 26 = .ok (.goto (-24), 3) := by decide +kernel
theorem dX1_reach_29 : decode cX1_reach 29 = .ok (.aload_n 0, 1) := by decide +kernel
theorem dX1_reach_30 : decode cX1_reach 30 = .ok (.getfield 41, 3) := by decide +kernel
theorem dX1_reach_33 : decode cX1_reach 33 = .ok (.iload_n 1, 1) := by decide +kernel
theorem dX1_reach_34 : decode cX1_reach 34 = .ok (.iconst 0, 1) := by decide +kernel
theorem dX1_reach_35 : decode cX1_reach 35 = .ok (.iastore, 1) := by decide +kernel
theorem dX1_reach_36 : decode cX1_reach 36 = .ok (.iload_n 1, 1) := by decide +kernel
theorem dX1_reach_37 : decode cX1_reach 37 = .ok (.istore_n 3, 1) := by decide +kernel
theorem dX1_reach_38 : decode cX1_reach 38 = .ok (.iconst 0, 1) := by decide +kernel
theorem dX1_reach_39 : decode cX1_reach 39 = .ok (.istore 4, 2) := by decide +kernel
theorem dX1_reach_41 : decode cX1_reach 41 = .ok (.iload 4, 2) := by decide +kernel
theorem dX1_reach_43 : decode cX1_reach 43 = .ok (.bipush 17, 2) := by decide +kernel
theorem dX1_reach_45 : decode cX1_reach 45 = .ok (.if_icmp .ge 20, 3) := by decide +kernel
theorem dX1_reach_48 : decode cX1_reach 48 = .ok (.iload_n 3, 1) := by decide +kernel
theorem dX1_reach_49 : decode cX1_reach 49 = .ok (.iconst (-1), 1) := by decide +kernel
theorem dX1_reach_50 : decode cX1_reach 50 = .ok (.if_icmp .eq 15, 3) := by decide +kernel
theorem dX1_reach_53 : decode cX1_reach 53 = .ok (.aload_n 0, 1) := by decide +kernel
theorem dX1_reach_54 : decode cX1_reach 54 = .ok (.iload_n 2, 1) := by decide +kernel
theorem dX1_reach_55 : decode cX1_reach 55 = .ok (.invokevirtual 67, 3) := by decide +kernel
theorem dX1_reach_58 : decode cX1_reach 58 = .ok (.istore_n 3, 1) := by decide +kernel
theorem dX1_reach_59 : decode cX1_reach 59 = .ok (.iinc 4 1, 3) := by decide +kernel
theorem dX1_reach_62 : decode cX1_reach 62 = .ok (.goto (-21), 3) := by decide +kernel
theorem dX1_reach_65 : decode cX1_reach 65 = .ok (.return_, 1) := by decide +kernel
theorem dX1_isReached_0 : decode cX1_isReached 0 = .ok (.aload_n 0, 1) := by decide +kernel
theorem dX1_isReached_1 : decode cX1_isReached 1 = .ok (.getfield 41, 3) := by decide +kernel
theorem dX1_isReached_4 : decode cX1_isReached 4 = .ok (.iload_n 1, 1) := by decide +kernel
theorem dX1_isReached_5 : decode cX1_isReached 5 = .ok (.iaload, 1) := by decide +kernel
theorem dX1_isReached_6 : decode cX1_isReached 6 = .ok (.ldc 71, 2) := by decide +kernel
theorem dX1_isReached_8 : decode cX1_isReached 8 = .ok (.if_icmp .eq 7, 3) := by decide +kernel
theorem dX1_isReached_11 : decode cX1_isReached 11 = .ok (.iconst 1, 1) := by decide +kernel
theorem dX1_isReached_12 : decode cX1_isReached 12 = .ok (.goto 4, 3) := by decide +kernel
theorem dX1_isReached_15 : decode cX1_isReached 15 = .ok (.iconst 0, 1) := by decide +kernel
theorem dX1_isReached_16 : decode cX1_isReached 16 = .ok (.ireturn, 1) := by decide +kernel
theorem dX1_bound_0 : decode cX1_bound 0 = .ok (.iload_n 2, 1) := by decide +kernel
theorem dX1_bound_1 : decode cX1_bound 1 = .ok (.iconst 1, 1) := by decide +kernel
theorem dX1_bound_2 : decode cX1_bound 2 = .ok (.if_icmp .ne 12, 3) := by decide +kernel
theorem dX1_bound_5 : decode cX1_bound 5 = .ok (.aload_n 0, 1) := by decide +kernel
theorem dX1_bound_6 : decode cX1_bound 6 = .ok (.getfield 41, 3) := by decide +kernel
theorem dX1_bound_9 : decode cX1_bound 9 = .ok (.iload_n 1, 1) := by decide +kernel
theorem dX1_bound_10 : decode cX1_bound 10 = .ok (.iaload, 1) := by decide +kernel
theorem dX1_bound_11 : decode cX1_bound 11 = .ok (.goto 10, 3) := by decide +kernel
theorem dX1_bound_14 : decode cX1_bound 14 = .ok (.aload_n 0, 1) := by decide +kernel
theorem dX1_bound_15 : decode cX1_bound 15 = .ok (.getfield 41, 3) := by decide +kernel
theorem dX1_bound_18 : decode cX1_bound 18 = .ok (.iload_n 1, 1) := by decide +kernel
theorem dX1_bound_19 : decode cX1_bound 19 = .ok (.iaload, 1) := by decide +kernel
theorem dX1_bound_20 : decode cX1_bound 20 = .ok (.ineg, 1) := by decide +kernel
theorem dX1_bound_21 : decode cX1_bound 21 = .ok (.ireturn, 1) := by decide +kernel
theorem dX1_markWay_0 : decode cX1_markWay 0 = .ok (.iconst 0, 1) := by decide +kernel
theorem dX1_markWay_1 : decode cX1_markWay 1 = .ok (.istore_n 2, 1) := by decide +kernel
theorem dX1_markWay_2 : decode cX1_markWay 2 = .ok (.iload_n 2, 1) := by decide +kernel
theorem dX1_markWay_3 : decode cX1_markWay 3 = .ok (.bipush 80, 2) := by decide +kernel
theorem dX1_markWay_5 : decode cX1_markWay 5 = .ok (.if_icmp .ge 16, 3) := by decide +kernel
theorem dX1_markWay_8 : decode cX1_markWay 8 = .ok (.aload_n 0, 1) := by decide +kernel
theorem dX1_markWay_9 : decode cX1_markWay 9 = .ok (.getfield 47, 3) := by decide +kernel
theorem dX1_markWay_12 : decode cX1_markWay 12 = .ok (.iload_n 2, 1) := by decide +kernel
theorem dX1_markWay_13 : decode cX1_markWay 13 = .ok (.iconst 0, 1) := by decide +kernel
theorem dX1_markWay_14 : decode cX1_markWay 14 = .ok (.bastore, 1) := by decide +kernel
theorem dX1_markWay_15 : decode cX1_markWay 15 = .ok (.iinc 2 1, 3) := by decide +kernel
theorem dX1_markWay_18 : decode cX1_markWay 18 = .ok (.goto (-16), 3) := by decide +kernel
theorem dX1_markWay_21 : decode cX1_markWay 21 = .ok (.iload_n 1, 1) := by decide +kernel
theorem dX1_markWay_22 : decode cX1_markWay 22 = .ok (.istore_n 2, 1) := by decide +kernel
theorem dX1_markWay_23 : decode cX1_markWay 23 = .ok (.iconst 0, 1) := by decide +kernel
theorem dX1_markWay_24 : decode cX1_markWay 24 = .ok (.istore_n 3, 1) := by decide +kernel
theorem dX1_markWay_25 : decode cX1_markWay 25 = .ok (.iload_n 3, 1) := by decide +kernel
theorem dX1_markWay_26 : decode cX1_markWay 26 = .ok (.bipush 17, 2) := by decide +kernel
theorem dX1_markWay_28 : decode cX1_markWay 28 = .ok (.if_icmp .ge 43, 3) := by decide +kernel
theorem dX1_markWay_31 : decode cX1_markWay 31 = .ok (.aload_n 0, 1) := by decide +kernel
theorem dX1_markWay_32 : decode cX1_markWay 32 = .ok (.getfield 44, 3) := by decide +kernel
theorem dX1_markWay_35 : decode cX1_markWay 35 = .ok (.iload_n 2, 1) := by decide +kernel
theorem dX1_markWay_36 : decode cX1_markWay 36 = .ok (.iaload, 1) := by decide +kernel
theorem dX1_markWay_37 : decode cX1_markWay 37 = .ok (.iconst (-1), 1) := by decide +kernel
theorem dX1_markWay_38 : decode cX1_markWay 38 = .ok (.if_icmp .eq 33, 3) := by decide +kernel
theorem dX1_markWay_41 : decode cX1_markWay 41 = .ok (.aload_n 0, 1) := by decide +kernel
theorem dX1_markWay_42 : decode cX1_markWay 42 = .ok (.getfield 47, 3) := by decide +kernel
theorem dX1_markWay_45 : decode cX1_markWay 45 = .ok (.aload_n 0, 1) := by decide +kernel
theorem dX1_markWay_46 : decode cX1_markWay 46 = .ok (.getfield 44, 3) := by decide +kernel
theorem dX1_markWay_49 : decode cX1_markWay 49 = .ok (.iload_n 2, 1) := by decide +kernel
theorem dX1_markWay_50 : decode cX1_markWay 50 = .ok (.iaload, 1) := by decide +kernel
theorem dX1_markWay_51 : decode cX1_markWay 51 = .ok (.iconst 1, 1) := by decide +kernel
theorem dX1_markWay_52 : decode cX1_markWay 52 = .ok (.bastore, 1) := by decide +kernel
theorem dX1_markWay_53 : decode cX1_markWay 53 = .ok (.aload_n 0, 1) := by decide +kernel
theorem dX1_markWay_54 : decode cX1_markWay 54 = .ok (.aload_n 0, 1) := by decide +kernel
theorem dX1_markWay_55 : decode cX1_markWay 55 = .ok (.getfield 44, 3) := by decide +kernel
theorem dX1_markWay_58 : decode cX1_markWay 58 = .ok (.iload_n 2, 1) := by decide +kernel
theorem dX1_markWay_59 : decode cX1_markWay 59 = .ok (.iaload, 1) := by decide +kernel
theorem dX1_markWay_60 : decode cX1_markWay 60 = .ok (.iload_n 2, 1) := by decide +kernel
theorem dX1_markWay_61 : decode cX1_markWay 61 = .ok (.invokevirtual 63, 3) := by decide +kernel
theorem dX1_markWay_64 : decode cX1_markWay 64 = .ok (.istore_n 2, 1) := by decide +kernel
theorem dX1_markWay_65 : decode cX1_markWay 65 = .ok (.iinc 3 1, 3) := by decide +kernel
theorem dX1_markWay_68 : decode cX1_markWay 68 = .ok (.goto (-43), 3) := by decide +kernel
theorem dX1_markWay_71 : decode cX1_markWay 71 = .ok (.return_, 1) := by decide +kernel
theorem dX1_findEnds_0 : decode cX1_findEnds 0 = .ok (.aload_n 0, 1) := by decide +kernel
theorem dX1_findEnds_1 : decode cX1_findEnds 1 = .ok (.bipush 16, 2) := by decide +kernel
theorem dX1_findEnds_3 : decode cX1_findEnds 3 = .ok (.iconst 1, 1) := by decide +kernel
theorem dX1_findEnds_4 : decode cX1_findEnds 4 = .ok (.invokevirtual 72, 3) := by decide +kernel
theorem dX1_findEnds_7 : decode cX1_findEnds 7 = .ok (.iconst 0, 1) := by decide +kernel
theorem dX1_findEnds_8 : decode cX1_findEnds 8 = .ok (.istore_n 1, 1) := by decide +kernel
theorem dX1_findEnds_9 : decode cX1_findEnds 9 = .ok (.iload_n 1, 1) := by decide +kernel
theorem dX1_findEnds_10 : decode cX1_findEnds 10 = .ok (.bipush 10, 2) := by decide +kernel
theorem dX1_findEnds_12 : decode cX1_findEnds 12 = .ok (.if_icmp .ge 32, 3) := by decide +kernel
theorem dX1_findEnds_15 : decode cX1_findEnds 15 = .ok (.aload_n 0, 1) := by decide +kernel
theorem dX1_findEnds_16 : decode cX1_findEnds 16 = .ok (.getfield 56, 3) := by decide +kernel
theorem dX1_findEnds_19 : decode cX1_findEnds 19 = .ok (.iload_n 1, 1) := by decide +kernel
theorem dX1_findEnds_20 : decode cX1_findEnds 20 = .ok (.aload_n 0, 1) := by decide +kernel
theorem dX1_findEnds_21 : decode cX1_findEnds 21 = .ok (.iload_n 1, 1) := by decide +kernel
theorem dX1_findEnds_22 : decode cX1_findEnds 22 = .ok (.invokevirtual 76, 3) := by decide +kernel
theorem dX1_findEnds_25 : decode cX1_findEnds 25 = .ok (.bastore, 1) := by decide +kernel
theorem dX1_findEnds_26 : decode cX1_findEnds 26 = .ok (.aload_n 0, 1) := by decide +kernel
theorem dX1_findEnds_27 : decode cX1_findEnds 27 = .ok (.getfield 53, 3) := by decide +kernel
theorem dX1_findEnds_30 : decode cX1_findEnds 30 = .ok (.iload_n 1, 1) := by decide +kernel
theorem dX1_findEnds_31 : decode cX1_findEnds 31 = .ok (.aload_n 0, 1) := by decide +kernel
theorem dX1_findEnds_32 : decode cX1_findEnds 32 = .ok (.iload_n 1, 1) := by decide +kernel
theorem dX1_findEnds_33 : decode cX1_findEnds 33 = .ok (.iconst 1, 1) := by decide +kernel
theorem dX1_findEnds_34 : decode cX1_findEnds 34 = .ok (.invokevirtual 80, 3) := by decide +kernel
theorem dX1_findEnds_37 : decode cX1_findEnds 37 = .ok (.iastore, 1) := by decide +kernel
theorem dX1_findEnds_38 : decode cX1_findEnds 38 = .ok (.iinc 1 1, 3) := by decide +kernel
theorem dX1_findEnds_41 : decode cX1_findEnds 41 = .ok (.goto (-32), 3) := by decide +kernel
theorem dX1_findEnds_44 : decode cX1_findEnds 44 = .ok (.aload_n 0, 1) := by decide +kernel
theorem dX1_findEnds_45 : decode cX1_findEnds 45 = .ok (.bipush 16, 2) := by decide +kernel
theorem dX1_findEnds_47 : decode cX1_findEnds 47 = .ok (.iconst 0, 1) := by decide +kernel
theorem dX1_findEnds_48 : decode cX1_findEnds 48 = .ok (.invokevirtual 72, 3) := by decide +kernel
theorem dX1_findEnds_51 : decode cX1_findEnds 51 = .ok (.iconst 0, 1) := by decide +kernel
theorem dX1_findEnds_52 : decode cX1_findEnds 52 = .ok (.istore_n 1, 1) := by decide +kernel
theorem dX1_findEnds_53 : decode cX1_findEnds 53 = .ok (.iload_n 1, 1) := by decide +kernel
theorem dX1_findEnds_54 : decode cX1_findEnds 54 = .ok (.bipush 10, 2) := by decide +kernel
theorem dX1_findEnds_56 : decode cX1_findEnds 56 = .ok (.if_icmp .ge 21, 3) := by decide +kernel
theorem dX1_findEnds_59 : decode cX1_findEnds 59 = .ok (.aload_n 0, 1) := by decide +kernel
theorem dX1_findEnds_60 : decode cX1_findEnds 60 = .ok (.getfield 50, 3) := by decide +kernel
theorem dX1_findEnds_63 : decode cX1_findEnds 63 = .ok (.iload_n 1, 1) := by decide +kernel
theorem dX1_findEnds_64 : decode cX1_findEnds 64 = .ok (.aload_n 0, 1) := by decide +kernel
theorem dX1_findEnds_65 : decode cX1_findEnds 65 = .ok (.iload_n 1, 1) := by decide +kernel
theorem dX1_findEnds_66 : decode cX1_findEnds 66 = .ok (.iconst 0, 1) := by decide +kernel
theorem dX1_findEnds_67 : decode cX1_findEnds 67 = .ok (.invokevirtual 80, 3) := by decide +kernel
theorem dX1_findEnds_70 : decode cX1_findEnds 70 = .ok (.iastore, 1) := by decide +kernel
theorem dX1_findEnds_71 : decode cX1_findEnds 71 = .ok (.iinc 1 1, 3) := by decide +kernel
theorem dX1_findEnds_74 : decode cX1_findEnds 74 = .ok (.goto (-21), 3) := by decide +kernel
theorem dX1_findEnds_77 : decode cX1_findEnds 77 = .ok (.return_, 1) := by decide +kernel
theorem dX1_liesWithinFar_0 : decode cX1_liesWithinFar 0 = .ok (.aload_n 0, 1) := by decide +kernel
theorem dX1_liesWithinFar_1 : decode cX1_liesWithinFar 1 = .ok (.getfield 56, 3) := by decide +kernel
theorem dX1_liesWithinFar_4 : decode cX1_liesWithinFar 4 = .ok (.iload_n 1, 1) := by decide +kernel
theorem dX1_liesWithinFar_5 : decode cX1_liesWithinFar 5 = .ok (.baload, 1) := by decide +kernel
theorem dX1_liesWithinFar_6 : decode cX1_liesWithinFar 6 = .ok (.ifCond .eq 27, 3) := by decide +kernel
theorem dX1_liesWithinFar_9 : decode cX1_liesWithinFar 9 = .ok (.aload_n 0, 1) := by decide +kernel
theorem dX1_liesWithinFar_10 : decode cX1_liesWithinFar 10 = .ok (.getfield 50, 3) := by decide +kernel
theorem dX1_liesWithinFar_13 : decode cX1_liesWithinFar 13 = .ok (.iload_n 1, 1) := by decide +kernel
theorem dX1_liesWithinFar_14 : decode cX1_liesWithinFar 14 = .ok (.iaload, 1) := by decide +kernel
theorem dX1_liesWithinFar_15 : decode cX1_liesWithinFar 15 = .ok (.ifCond .lt 18, 3) := by decide +kernel
theorem dX1_liesWithinFar_18 : decode cX1_liesWithinFar 18 = .ok (.aload_n 0, 1) := by decide +kernel
theorem dX1_liesWithinFar_19 : decode cX1_liesWithinFar 19 = .ok (.getfield 53, 3) := by decide +kernel
theorem dX1_liesWithinFar_22 : decode cX1_liesWithinFar 22 = .ok (.iload_n 1, 1) := by decide +kernel
theorem dX1_liesWithinFar_23 : decode cX1_liesWithinFar 23 = .ok (.iaload, 1) := by decide +kernel
theorem dX1_liesWithinFar_24 : decode cX1_liesWithinFar 24 = .ok (.ldc 83, 2) := by decide +kernel
theorem dX1_liesWithinFar_26 : decode cX1_liesWithinFar 26 = .ok (.if_icmp .gt 7, 3) := by decide +kernel
theorem dX1_liesWithinFar_29 : decode cX1_liesWithinFar 29 = .ok (.iconst 1, 1) := by decide +kernel
theorem dX1_liesWithinFar_30 : decode cX1_liesWithinFar 30 = .ok (.goto 4, 3) := by decide +kernel
theorem dX1_liesWithinFar_33 : decode cX1_liesWithinFar 33 = .ok (.iconst 0, 1) := by decide +kernel
theorem dX1_liesWithinFar_34 : decode cX1_liesWithinFar 34 = .ok (.ireturn, 1) := by decide +kernel
theorem dX1_otherEnd_0 : decode cX1_otherEnd 0 = .ok (.aload_n 0, 1) := by decide +kernel
theorem dX1_otherEnd_1 : decode cX1_otherEnd 1 = .ok (.getfield 19, 3) := by decide +kernel
theorem dX1_otherEnd_4 : decode cX1_otherEnd 4 = .ok (.iload_n 1, 1) := by decide +kernel
theorem dX1_otherEnd_5 : decode cX1_otherEnd 5 = .ok (.iaload, 1) := by decide +kernel
theorem dX1_otherEnd_6 : decode cX1_otherEnd 6 = .ok (.iload_n 2, 1) := by decide +kernel
theorem dX1_otherEnd_7 : decode cX1_otherEnd 7 = .ok (.if_icmp .ne 12, 3) := by decide +kernel
theorem dX1_otherEnd_10 : decode cX1_otherEnd 10 = .ok (.aload_n 0, 1) := by decide +kernel
theorem dX1_otherEnd_11 : decode cX1_otherEnd 11 = .ok (.getfield 22, 3) := by decide +kernel
theorem dX1_otherEnd_14 : decode cX1_otherEnd 14 = .ok (.iload_n 1, 1) := by decide +kernel
theorem dX1_otherEnd_15 : decode cX1_otherEnd 15 = .ok (.iaload, 1) := by decide +kernel
theorem dX1_otherEnd_16 : decode cX1_otherEnd 16 = .ok (.goto 9, 3) := by decide +kernel
theorem dX1_otherEnd_19 : decode cX1_otherEnd 19 = .ok (.aload_n 0, 1) := by decide +kernel
theorem dX1_otherEnd_20 : decode cX1_otherEnd 20 = .ok (.getfield 19, 3) := by decide +kernel
theorem dX1_otherEnd_23 : decode cX1_otherEnd 23 = .ok (.iload_n 1, 1) := by decide +kernel
theorem dX1_otherEnd_24 : decode cX1_otherEnd 24 = .ok (.iaload, 1) := by decide +kernel
theorem dX1_otherEnd_25 : decode cX1_otherEnd 25 = .ok (.ireturn, 1) := by decide +kernel
theorem dX1_relaxAll_0 : decode cX1_relaxAll 0 = .ok (.iconst (-1), 1) := by decide +kernel
theorem dX1_relaxAll_1 : decode cX1_relaxAll 1 = .ok (.istore_n 2, 1) := by decide +kernel
theorem dX1_relaxAll_2 : decode cX1_relaxAll 2 = .ok (.iconst 0, 1) := by decide +kernel
theorem dX1_relaxAll_3 : decode cX1_relaxAll 3 = .ok (.istore_n 3, 1) := by decide +kernel
theorem dX1_relaxAll_4 : decode cX1_relaxAll 4 = .ok (.iload_n 3, 1) := by decide +kernel
theorem dX1_relaxAll_5 : decode cX1_relaxAll 5 = .ok (.aload_n 0, 1) := by decide +kernel
theorem dX1_relaxAll_6 : decode cX1_relaxAll 6 = .ok (.getfield 34, 3) := by decide +kernel
theorem dX1_relaxAll_9 : decode cX1_relaxAll 9 = .ok (.if_icmp .ge 143, 3) := by decide +kernel
theorem dX1_relaxAll_12 : decode cX1_relaxAll 12 = .ok (.aload_n 0, 1) := by decide +kernel
theorem dX1_relaxAll_13 : decode cX1_relaxAll 13 = .ok (.getfield 31, 3) := by decide +kernel
theorem dX1_relaxAll_16 : decode cX1_relaxAll 16 = .ok (.iload_n 3, 1) := by decide +kernel
theorem dX1_relaxAll_17 : decode cX1_relaxAll 17 = .ok (.iaload, 1) := by decide +kernel
theorem dX1_relaxAll_18 : decode cX1_relaxAll 18 = .ok (.istore 4, 2) := by decide +kernel
theorem dX1_relaxAll_20 : decode cX1_relaxAll 20 = .ok (.iload_n 1, 1) := by decide +kernel
theorem dX1_relaxAll_21 : decode cX1_relaxAll 21 = .ok (.iconst 1, 1) := by decide +kernel
theorem dX1_relaxAll_22 : decode cX1_relaxAll 22 = .ok (.if_icmp .ne 13, 3) := by decide +kernel
theorem dX1_relaxAll_25 : decode cX1_relaxAll 25 = .ok (.aload_n 0, 1) := by decide +kernel
theorem dX1_relaxAll_26 : decode cX1_relaxAll 26 = .ok (.getfield 28, 3) := by decide +kernel
theorem dX1_relaxAll_29 : decode cX1_relaxAll 29 = .ok (.iload 4, 2) := by decide +kernel
theorem dX1_relaxAll_31 : decode cX1_relaxAll 31 = .ok (.iaload, 1) := by decide +kernel
theorem dX1_relaxAll_32 : decode cX1_relaxAll 32 = .ok (.goto 11, 3) := by decide +kernel
theorem dX1_relaxAll_35 : decode cX1_relaxAll 35 = .ok (.aload_n 0, 1) := by decide +kernel
theorem dX1_relaxAll_36 : decode cX1_relaxAll 36 = .ok (.getfield 25, 3) := by decide +kernel
theorem dX1_relaxAll_39 : decode cX1_relaxAll 39 = .ok (.iload 4, 2) := by decide +kernel
theorem dX1_relaxAll_41 : decode cX1_relaxAll 41 = .ok (.iaload, 1) := by decide +kernel
theorem dX1_relaxAll_42 : decode cX1_relaxAll 42 = .ok (.ineg, 1) := by decide +kernel
theorem dX1_relaxAll_43 : decode cX1_relaxAll 43 = .ok (.aload_n 0, 1) := by decide +kernel
theorem dX1_relaxAll_44 : decode cX1_relaxAll 44 = .ok (.getfield 38, 3) := by decide +kernel
theorem dX1_relaxAll_47 : decode cX1_relaxAll 47 = .ok (.iadd, 1) := by decide +kernel
theorem dX1_relaxAll_48 : decode cX1_relaxAll 48 = .ok (.istore 5, 2) := by decide +kernel
theorem dX1_relaxAll_50 : decode cX1_relaxAll 50 = .ok (.iload_n 1, 1) := by decide +kernel
theorem dX1_relaxAll_51 : decode cX1_relaxAll 51 = .ok (.iconst 1, 1) := by decide +kernel
theorem dX1_relaxAll_52 : decode cX1_relaxAll 52 = .ok (.if_icmp .ne 14, 3) := by decide +kernel
theorem dX1_relaxAll_55 : decode cX1_relaxAll 55 = .ok (.aload_n 0, 1) := by decide +kernel
theorem dX1_relaxAll_56 : decode cX1_relaxAll 56 = .ok (.getfield 25, 3) := by decide +kernel
theorem dX1_relaxAll_59 : decode cX1_relaxAll 59 = .ok (.iload 4, 2) := by decide +kernel
theorem dX1_relaxAll_61 : decode cX1_relaxAll 61 = .ok (.iaload, 1) := by decide +kernel
theorem dX1_relaxAll_62 : decode cX1_relaxAll 62 = .ok (.ineg, 1) := by decide +kernel
theorem dX1_relaxAll_63 : decode cX1_relaxAll 63 = .ok (.goto 10, 3) := by decide +kernel
theorem dX1_relaxAll_66 : decode cX1_relaxAll 66 = .ok (.aload_n 0, 1) := by decide +kernel
theorem dX1_relaxAll_67 : decode cX1_relaxAll 67 = .ok (.getfield 28, 3) := by decide +kernel
theorem dX1_relaxAll_70 : decode cX1_relaxAll 70 = .ok (.iload 4, 2) := by decide +kernel
theorem dX1_relaxAll_72 : decode cX1_relaxAll 72 = .ok (.iaload, 1) := by decide +kernel
theorem dX1_relaxAll_73 : decode cX1_relaxAll 73 = .ok (.aload_n 0, 1) := by decide +kernel
theorem dX1_relaxAll_74 : decode cX1_relaxAll 74 = .ok (.getfield 38, 3) := by decide +kernel
theorem dX1_relaxAll_77 : decode cX1_relaxAll 77 = .ok (.iadd, 1) := by decide +kernel
theorem dX1_relaxAll_78 : decode cX1_relaxAll 78 = .ok (.istore 6, 2) := by decide +kernel
theorem dX1_relaxAll_80 : decode cX1_relaxAll 80 = .ok (.aload_n 0, 1) := by decide +kernel
theorem dX1_relaxAll_81 : decode cX1_relaxAll 81 = .ok (.iload 4, 2) := by decide +kernel
theorem dX1_relaxAll_83 : decode cX1_relaxAll 83 = .ok (.aload_n 0, 1) := by decide +kernel
theorem dX1_relaxAll_84 : decode cX1_relaxAll 84 = .ok (.getfield 19, 3) := by decide +kernel
theorem dX1_relaxAll_87 : decode cX1_relaxAll 87 = .ok (.iload 4, 2) := by decide +kernel
theorem dX1_relaxAll_89 : decode cX1_relaxAll 89 = .ok (.iaload, 1) := by decide +kernel
theorem dX1_relaxAll_90 : decode cX1_relaxAll 90 = .ok (.aload_n 0, 1) := by decide +kernel
theorem dX1_relaxAll_91 : decode cX1_relaxAll 91 = .ok (.getfield 22, 3) := by decide +kernel
theorem dX1_relaxAll_94 : decode cX1_relaxAll 94 = .ok (.iload 4, 2) := by decide +kernel
theorem dX1_relaxAll_96 : decode cX1_relaxAll 96 = .ok (.iaload, 1) := by decide +kernel
theorem dX1_relaxAll_97 : decode cX1_relaxAll 97 = .ok (.iload 5, 2) := by decide +kernel
theorem dX1_relaxAll_99 : decode cX1_relaxAll 99 = .ok (.invokevirtual 84, 3) := by decide +kernel
theorem dX1_relaxAll_102 : decode cX1_relaxAll 102 = .ok (.ifCond .eq 11, 3) := by decide +kernel
theorem dX1_relaxAll_105 : decode cX1_relaxAll 105 = .ok (.aload_n 0, 1) := by decide +kernel
theorem dX1_relaxAll_106 : decode cX1_relaxAll 106 = .ok (.getfield 22, 3) := by decide +kernel
theorem dX1_relaxAll_109 : decode cX1_relaxAll 109 = .ok (.iload 4, 2) := by decide +kernel
theorem dX1_relaxAll_111 : decode cX1_relaxAll 111 = .ok (.iaload, 1) := by decide +kernel
theorem dX1_relaxAll_112 : decode cX1_relaxAll 112 = .ok (.istore_n 2, 1) := by decide +kernel
theorem dX1_relaxAll_113 : decode cX1_relaxAll 113 = .ok (.aload_n 0, 1) := by decide +kernel
theorem dX1_relaxAll_114 : decode cX1_relaxAll 114 = .ok (.iload 4, 2) := by decide +kernel
theorem dX1_relaxAll_116 : decode cX1_relaxAll 116 = .ok (.aload_n 0, 1) := by decide +kernel
theorem dX1_relaxAll_117 : decode cX1_relaxAll 117 = .ok (.getfield 22, 3) := by decide +kernel
theorem dX1_relaxAll_120 : decode cX1_relaxAll 120 = .ok (.iload 4, 2) := by decide +kernel
theorem dX1_relaxAll_122 : decode cX1_relaxAll 122 = .ok (.iaload, 1) := by decide +kernel
theorem dX1_relaxAll_123 : decode cX1_relaxAll 123 = .ok (.aload_n 0, 1) := by decide +kernel
theorem dX1_relaxAll_124 : decode cX1_relaxAll 124 = .ok (.getfield 19, 3) := by decide +kernel
theorem dX1_relaxAll_127 : decode cX1_relaxAll 127 = .ok (.iload 4, 2) := by decide +kernel
theorem dX1_relaxAll_129 : decode cX1_relaxAll 129 = .ok (.iaload, 1) := by decide +kernel
theorem dX1_relaxAll_130 : decode cX1_relaxAll 130 = .ok (.iload 6, 2) := by decide +kernel
theorem dX1_relaxAll_132 : decode cX1_relaxAll 132 = .ok (.invokevirtual 84, 3) := by decide +kernel
theorem dX1_relaxAll_135 : decode cX1_relaxAll 135 = .ok (.ifCond .eq 11, 3) := by decide +kernel
theorem dX1_relaxAll_138 : decode cX1_relaxAll 138 = .ok (.aload_n 0, 1) := by decide +kernel
theorem dX1_relaxAll_139 : decode cX1_relaxAll 139 = .ok (.getfield 19, 3) := by decide +kernel
theorem dX1_relaxAll_142 : decode cX1_relaxAll 142 = .ok (.iload 4, 2) := by decide +kernel
theorem dX1_relaxAll_144 : decode cX1_relaxAll 144 = .ok (.iaload, 1) := by decide +kernel
theorem dX1_relaxAll_145 : decode cX1_relaxAll 145 = .ok (.istore_n 2, 1) := by decide +kernel
theorem dX1_relaxAll_146 : decode cX1_relaxAll 146 = .ok (.iinc 3 1, 3) := by decide +kernel
theorem dX1_relaxAll_149 : decode cX1_relaxAll 149 = .ok (.goto (-145), 3) := by decide +kernel
theorem dX1_relaxAll_152 : decode cX1_relaxAll 152 = .ok (.iload_n 2, 1) := by decide +kernel
theorem dX1_relaxAll_153 : decode cX1_relaxAll 153 = .ok (.ireturn, 1) := by decide +kernel
theorem dX1_relax_0 : decode cX1_relax 0 = .ok (.aload_n 0, 1) := by decide +kernel
theorem dX1_relax_1 : decode cX1_relax 1 = .ok (.getfield 41, 3) := by decide +kernel
theorem dX1_relax_4 : decode cX1_relax 4 = .ok (.iload_n 2, 1) := by decide +kernel
theorem dX1_relax_5 : decode cX1_relax 5 = .ok (.iaload, 1) := by decide +kernel
theorem dX1_relax_6 : decode cX1_relax 6 = .ok (.ldc 71, 2) := by decide +kernel
theorem dX1_relax_8 : decode cX1_relax 8 = .ok (.if_icmp .eq 21, 3) := by decide +kernel
theorem dX1_relax_11 : decode cX1_relax 11 = .ok (.aload_n 0, 1) := by decide +kernel
theorem dX1_relax_12 : decode cX1_relax 12 = .ok (.getfield 41, 3) := by decide +kernel
theorem dX1_relax_15 : decode cX1_relax 15 = .ok (.iload_n 2, 1) := by decide +kernel
theorem dX1_relax_16 : decode cX1_relax 16 = .ok (.iaload, 1) := by decide +kernel
theorem dX1_relax_17 : decode cX1_relax 17 = .ok (.iload 4, 2) := by decide +kernel
theorem dX1_relax_19 : decode cX1_relax 19 = .ok (.iadd, 1) := by decide +kernel
theorem dX1_relax_20 : decode cX1_relax 20 = .ok (.aload_n 0, 1) := by decide +kernel
theorem dX1_relax_21 : decode cX1_relax 21 = .ok (.getfield 41, 3) := by decide +kernel
theorem dX1_relax_24 : decode cX1_relax 24 = .ok (.iload_n 3, 1) := by decide +kernel
theorem dX1_relax_25 : decode cX1_relax 25 = .ok (.iaload, 1) := by decide +kernel
theorem dX1_relax_26 : decode cX1_relax 26 = .ok (.if_icmp .lt 5, 3) := by decide +kernel
theorem dX1_relax_29 : decode cX1_relax 29 = .ok (.iconst 0, 1) := by decide +kernel
theorem dX1_relax_30 : decode cX1_relax 30 = .ok (.ireturn, 1) := by decide +kernel
theorem dX1_relax_31 : decode cX1_relax 31 = .ok (.aload_n 0, 1) := by decide +kernel
theorem dX1_relax_32 : decode cX1_relax 32 = .ok (.getfield 41, 3) := by decide +kernel
theorem dX1_relax_35 : decode cX1_relax 35 = .ok (.iload_n 3, 1) := by decide +kernel
theorem dX1_relax_36 : decode cX1_relax 36 = .ok (.aload_n 0, 1) := by decide +kernel
theorem dX1_relax_37 : decode cX1_relax 37 = .ok (.getfield 41, 3) := by decide +kernel
theorem dX1_relax_40 : decode cX1_relax 40 = .ok (.iload_n 2, 1) := by decide +kernel
theorem dX1_relax_41 : decode cX1_relax 41 = .ok (.iaload, 1) := by decide +kernel
theorem dX1_relax_42 : decode cX1_relax 42 = .ok (.iload 4, 2) := by decide +kernel
theorem dX1_relax_44 : decode cX1_relax 44 = .ok (.iadd, 1) := by decide +kernel
theorem dX1_relax_45 : decode cX1_relax 45 = .ok (.iastore, 1) := by decide +kernel
theorem dX1_relax_46 : decode cX1_relax 46 = .ok (.aload_n 0, 1) := by decide +kernel
theorem dX1_relax_47 : decode cX1_relax 47 = .ok (.getfield 44, 3) := by decide +kernel
theorem dX1_relax_50 : decode cX1_relax 50 = .ok (.iload_n 3, 1) := by decide +kernel
theorem dX1_relax_51 : decode cX1_relax 51 = .ok (.iload_n 1, 1) := by decide +kernel
theorem dX1_relax_52 : decode cX1_relax 52 = .ok (.iastore, 1) := by decide +kernel
theorem dX1_relax_53 : decode cX1_relax 53 = .ok (.iconst 1, 1) := by decide +kernel
theorem dX1_relax_54 : decode cX1_relax 54 = .ok (.ireturn, 1) := by decide +kernel
theorem dX2_init_0 : decode cX2_init 0 = .ok (.aload_n 0, 1) := by decide +kernel
theorem dX2_init_1 : decode cX2_init 1 = .ok (.invokespecial 3, 3) := by decide +kernel
theorem dX2_init_4 : decode cX2_init 4 = .ok (.aload_n 0, 1) := by decide +kernel
theorem dX2_init_5 : decode cX2_init 5 = .ok (.sipush 240, 3) := by decide +kernel
theorem dX2_init_8 : decode cX2_init 8 = .ok (.newarray .int, 2) := by decide +kernel
theorem dX2_init_10 : decode cX2_init 10 = .ok (.putfield 11, 3) := by decide +kernel
theorem dX2_init_13 : decode cX2_init 13 = .ok (.aload_n 0, 1) := by decide +kernel
theorem dX2_init_14 : decode cX2_init 14 = .ok (.iconst 0, 1) := by decide +kernel
theorem dX2_init_15 : decode cX2_init 15 = .ok (.putfield 15, 3) := by decide +kernel
theorem dX2_init_18 : decode cX2_init 18 = .ok (.aload_n 0, 1) := by decide +kernel
theorem dX2_init_19 : decode cX2_init 19 = .ok (.iconst 0, 1) := by decide +kernel
theorem dX2_init_20 : decode cX2_init 20 = .ok (.putfield 19, 3) := by decide +kernel
theorem dX2_init_23 : decode cX2_init 23 = .ok (.aload_n 0, 1) := by decide +kernel
theorem dX2_init_24 : decode cX2_init 24 = .ok (.iconst (-1), 1) := by decide +kernel
theorem dX2_init_25 : decode cX2_init 25 = .ok (.putfield 22, 3) := by decide +kernel
theorem dX2_init_28 : decode cX2_init 28 = .ok (.aload_n 0, 1) := by decide +kernel
theorem dX2_init_29 : decode cX2_init 29 = .ok (.iconst 0, 1) := by decide +kernel
theorem dX2_init_30 : decode cX2_init 30 = .ok (.putfield 25, 3) := by decide +kernel
theorem dX2_init_33 : decode cX2_init 33 = .ok (.aload_n 0, 1) := by decide +kernel
theorem dX2_init_34 : decode cX2_init 34 = .ok (.iconst 5, 1) := by decide +kernel
theorem dX2_init_35 : decode cX2_init 35 = .ok (.newarray .int, 2) := by decide +kernel
theorem dX2_init_37 : decode cX2_init 37 = .ok (.putfield 28, 3) := by decide +kernel
theorem dX2_init_40 : decode cX2_init 40 = .ok (.aload_n 0, 1) := by decide +kernel
theorem dX2_init_41 : decode cX2_init 41 = .ok (.iconst 0, 1) := by decide +kernel
theorem dX2_init_42 : decode cX2_init 42 = .ok (.putfield 31, 3) := by decide +kernel
theorem dX2_init_45 : decode cX2_init 45 = .ok (.return_, 1) := by decide +kernel
theorem dX2_append_0 : decode cX2_append 0 = .ok (.aload_n 0, 1) := by decide +kernel
theorem dX2_append_1 : decode cX2_append 1 = .ok (.getfield 15, 3) := by decide +kernel
theorem dX2_append_4 : decode cX2_append 4 = .ok (.sipush 240, 3) := by decide +kernel
theorem dX2_append_7 : decode cX2_append 7 = .ok (.if_icmp .ge 23, 3) := by decide +kernel
theorem dX2_append_10 : decode cX2_append 10 = .ok (.aload_n 0, 1) := by decide +kernel
theorem dX2_append_11 : decode cX2_append 11 = .ok (.getfield 11, 3) := by decide +kernel
theorem dX2_append_14 : decode cX2_append 14 = .ok (.aload_n 0, 1) := by decide +kernel
theorem dX2_append_15 : decode cX2_append 15 = .ok (.getfield 15, 3) := by decide +kernel
theorem dX2_append_18 : decode cX2_append 18 = .ok (.iload_n 1, 1) := by decide +kernel
theorem dX2_append_19 : decode cX2_append 19 = .ok (.iastore, 1) := by decide +kernel
theorem dX2_append_20 : decode cX2_append 20 = .ok (.aload_n 0, 1) := by decide +kernel
theorem dX2_append_21 : decode cX2_append 21 = .ok (.dup, 1) := by decide +kernel
theorem dX2_append_22 : decode cX2_append 22 = .ok (.getfield 15, 3) := by decide +kernel
theorem dX2_append_25 : decode cX2_append 25 = .ok (.iconst 1, 1) := by decide +kernel
theorem dX2_append_26 : decode cX2_append 26 = .ok (.iadd, 1) := by decide +kernel
theorem dX2_append_27 : decode cX2_append 27 = .ok (.putfield 15, 3) := by decide +kernel
theorem dX2_append_30 : decode cX2_append 30 = .ok (.return_, 1) := by decide +kernel
theorem dX2_readInto_0 : decode cX2_readInto 0 = .ok (.aload_n 1, 1) := by decide +kernel
theorem dX2_readInto_1 : decode cX2_readInto 1 = .ok (.invokevirtual 34, 3) := by decide +kernel
theorem dX2_readInto_4 : decode cX2_readInto 4 = .ok (.aload_n 0, 1) := by decide +kernel
theorem dX2_readInto_5 : decode cX2_readInto 5 = .ok (.iconst 0, 1) := by decide +kernel
theorem dX2_readInto_6 : decode cX2_readInto 6 = .ok (.putfield 19, 3) := by decide +kernel
theorem dX2_readInto_9 : decode cX2_readInto 9 = .ok (.aload_n 0, 1) := by decide +kernel
theorem dX2_readInto_10 : decode cX2_readInto 10 = .ok (.iconst (-1), 1) := by decide +kernel
theorem dX2_readInto_11 : decode cX2_readInto 11 = .ok (.putfield 22, 3) := by decide +kernel
theorem dX2_readInto_14 : decode cX2_readInto 14 = .ok (.aload_n 0, 1) := by decide +kernel
theorem dX2_readInto_15 : decode cX2_readInto 15 = .ok (.iconst 0, 1) := by decide +kernel
theorem dX2_readInto_16 : decode cX2_readInto 16 = .ok (.putfield 25, 3) := by decide +kernel
theorem dX2_readInto_19 : decode cX2_readInto 19 = .ok (.iconst 0, 1) := by decide +kernel
theorem dX2_readInto_20 : decode cX2_readInto 20 = .ok (.istore_n 2, 1) := by decide +kernel
theorem dX2_readInto_21 : decode cX2_readInto 21 = .ok (.iconst 0, 1) := by decide +kernel
theorem dX2_readInto_22 : decode cX2_readInto 22 = .ok (.istore_n 3, 1) := by decide +kernel
theorem dX2_readInto_23 : decode cX2_readInto 23 = .ok (.iload_n 3, 1) := by decide +kernel
theorem dX2_readInto_24 : decode cX2_readInto 24 = .ok (.sipush 240, 3) := by decide +kernel
theorem dX2_readInto_27 : decode cX2_readInto 27 = .ok (.if_icmp .ge 47, 3) := by decide +kernel
theorem dX2_readInto_30 : decode cX2_readInto 30 = .ok (.aload_n 0, 1) := by decide +kernel
theorem dX2_readInto_31 : decode cX2_readInto 31 = .ok (.invokevirtual 39, 3) := by decide +kernel
theorem dX2_readInto_34 : decode cX2_readInto 34 = .ok (.aload_n 0, 1) := by decide +kernel
theorem dX2_readInto_35 : decode cX2_readInto 35 = .ok (.getfield 25, 3) := by decide +kernel
theorem dX2_readInto_38 : decode cX2_readInto 38 = .ok (.aload_n 0, 1) := by decide +kernel
theorem dX2_readInto_39 : decode cX2_readInto 39 = .ok (.getfield 15, 3) := by decide +kernel
theorem dX2_readInto_42 : decode cX2_readInto 42 = .ok (.if_icmp .ge 32, 3) := by decide +kernel
theorem dX2_readInto_45 : decode cX2_readInto 45 = .ok (.aload_n 0, 1) := by decide +kernel
theorem dX2_readInto_46 : decode cX2_readInto 46 = .ok (.aload_n 1, 1) := by decide +kernel
theorem dX2_readInto_47 : decode cX2_readInto 47 = .ok (.iload_n 2, 1) := by decide +kernel
theorem dX2_readInto_48 : decode cX2_readInto 48 = .ok (.invokevirtual 42, 3) := by decide +kernel
theorem dX2_readInto_51 : decode cX2_readInto 51 = .ok (.ifCond .eq 23, 3) := by decide +kernel
theorem dX2_readInto_54 : decode cX2_readInto 54 = .ok (.aload_n 0, 1) := by decide +kernel
theorem dX2_readInto_55 : decode cX2_readInto 55 = .ok (.aload_n 1, 1) := by decide +kernel
theorem dX2_readInto_56 : decode cX2_readInto 56 = .ok (.invokevirtual 46, 3) := by decide +kernel
theorem dX2_readInto_59 : decode cX2_readInto 59 = .ok (.ifCond .ne 6, 3) := by decide +kernel
theorem dX2_readInto_62 : decode cX2_readInto 62 = .ok (.goto 12, 3) := by decide +kernel
theorem dX2_readInto_65 : decode cX2_readInto 65 = .ok (.iinc 2 1, 3) := by decide +kernel
theorem dX2_readInto_68 : decode cX2_readInto 68 = .ok (.iinc 3 1, 3) := by decide +kernel
theorem dX2_readInto_71 : decode cX2_readInto 71 = .ok (.goto (-48), 3) := by decide +kernel
theorem dX2_readInto_74 : decode cX2_readInto 74 = .ok (.aload_n 0, 1) := by decide +kernel
theorem dX2_readInto_75 : decode cX2_readInto 75 = .ok (.iconst 0, 1) := by decide +kernel
theorem dX2_readInto_76 : decode cX2_readInto 76 = .ok (.putfield 15, 3) := by decide +kernel
theorem dX2_readInto_79 : decode cX2_readInto 79 = .ok (.iload_n 2, 1) := by decide +kernel
theorem dX2_readInto_80 : decode cX2_readInto 80 = .ok (.ireturn, 1) := by decide +kernel
theorem dX2_mayBegin_0 : decode cX2_mayBegin 0 = .ok (.aload_n 0, 1) := by decide +kernel
theorem dX2_mayBegin_1 : decode cX2_mayBegin 1 = .ok (.ldc 50, 2) := by decide +kernel
theorem dX2_mayBegin_3 : decode cX2_mayBegin 3 = .ok (.invokevirtual 52, 3) := by decide +kernel
theorem dX2_mayBegin_6 : decode cX2_mayBegin 6 = .ok (.istore_n 3, 1) := by decide +kernel
theorem dX2_mayBegin_7 : decode cX2_mayBegin 7 = .ok (.iload_n 3, 1) := by decide +kernel
theorem dX2_mayBegin_8 : decode cX2_mayBegin 8 = .ok (.ifCond .ne 49, 3) := by decide +kernel
theorem dX2_mayBegin_11 : decode cX2_mayBegin 11 = .ok (.aload_n 0, 1) := by decide +kernel
theorem dX2_mayBegin_12 : decode cX2_mayBegin 12 = .ok (.ldc 56, 2) := by decide +kernel
theorem dX2_mayBegin_14 : decode cX2_mayBegin 14 = .ok (.invokevirtual 52, 3) := by decide +kernel
theorem dX2_mayBegin_17 : decode cX2_mayBegin 17 = .ok (.ifCond .ne 40, 3) := by decide +kernel
theorem dX2_mayBegin_20 : decode cX2_mayBegin 20 = .ok (.aload_n 0, 1) := by decide +kernel
theorem dX2_mayBegin_21 : decode cX2_mayBegin 21 = .ok (.ldc 58, 2) := by decide +kernel
theorem dX2_mayBegin_23 : decode cX2_mayBegin 23 = .ok (.invokevirtual 52, 3) := by decide +kernel
theorem dX2_mayBegin_26 : decode cX2_mayBegin 26 = .ok (.ifCond .ne 31, 3) := by decide +kernel
theorem dX2_mayBegin_29 : decode cX2_mayBegin 29 = .ok (.aload_n 0, 1) := by decide +kernel
theorem dX2_mayBegin_30 : decode cX2_mayBegin 30 = .ok (.ldc 60, 2) := by decide +kernel
theorem dX2_mayBegin_32 : decode cX2_mayBegin 32 = .ok (.invokevirtual 52, 3) := by decide +kernel
theorem dX2_mayBegin_35 : decode cX2_mayBegin 35 = .ok (.ifCond .ne 22, 3) := by decide +kernel
theorem dX2_mayBegin_38 : decode cX2_mayBegin 38 = .ok (.aload_n 0, 1) := by decide +kernel
theorem dX2_mayBegin_39 : decode cX2_mayBegin 39 = .ok (.ldc 62, 2) := by decide +kernel
theorem dX2_mayBegin_41 : decode cX2_mayBegin 41 = .ok (.invokevirtual 52, 3) := by decide +kernel
theorem dX2_mayBegin_44 : decode cX2_mayBegin 44 = .ok (.ifCond .ne 13, 3) := by decide +kernel
theorem dX2_mayBegin_47 : decode cX2_mayBegin 47 = .ok (.aload_n 0, 1) := by decide +kernel
theorem dX2_mayBegin_48 : decode cX2_mayBegin 48 = .ok (.iconst 1, 1) := by decide +kernel
theorem dX2_mayBegin_49 : decode cX2_mayBegin 49 = .ok (.aload_n 0, 1) := by decide +kernel
theorem dX2_mayBegin_50 : decode cX2_mayBegin 50 = .ok (.getfield 25, 3) := by decide +kernel
theorem dX2_mayBegin_53 : decode cX2_mayBegin 53 = .ok (.invokevirtual 64, 3) := by decide +kernel
theorem dX2_mayBegin_56 : decode cX2_mayBegin 56 = .ok (.ireturn, 1) := by decide +kernel
theorem dX2_mayBegin_57 : decode cX2_mayBegin 57 = .ok (.iload_n 3, 1) := by decide +kernel
theorem dX2_mayBegin_58 : decode cX2_mayBegin 58 = .ok (.ifCond .eq 22, 3) := by decide +kernel
theorem dX2_mayBegin_61 : decode cX2_mayBegin 61 = .ok (.aload_n 1, 1) := by decide +kernel
theorem dX2_mayBegin_62 : decode cX2_mayBegin 62 = .ok (.getfield 68, 3) := by decide +kernel
theorem dX2_mayBegin_65 : decode cX2_mayBegin 65 = .ok (.bipush 8, 2) := by decide +kernel
theorem dX2_mayBegin_67 : decode cX2_mayBegin 67 = .ok (.if_icmp .lt 13, 3) := by decide +kernel
theorem dX2_mayBegin_70 : decode cX2_mayBegin 70 = .ok (.aload_n 0, 1) := by decide +kernel
theorem dX2_mayBegin_71 : decode cX2_mayBegin 71 = .ok (.iconst 3, 1) := by decide +kernel
theorem dX2_mayBegin_72 : decode cX2_mayBegin 72 = .ok (.aload_n 0, 1) := by decide +kernel
theorem dX2_mayBegin_73 : decode cX2_mayBegin 73 = .ok (.getfield 25, 3) := by decide +kernel
theorem dX2_mayBegin_76 : decode cX2_mayBegin 76 = .ok (.invokevirtual 64, 3) := by decide +kernel
theorem dX2_mayBegin_79 : decode cX2_mayBegin 79 = .ok (.ireturn, 1) := by decide +kernel
theorem dX2_mayBegin_80 : decode cX2_mayBegin 80 = .ok (.iload_n 2, 1) := by decide +kernel
theorem dX2_mayBegin_81 : decode cX2_mayBegin 81 = .ok (.bipush 20, 2) := by decide +kernel
theorem dX2_mayBegin_83 : decode cX2_mayBegin 83 = .ok (.if_icmp .lt 15, 3) := by decide +kernel
theorem dX2_mayBegin_86 : decode cX2_mayBegin 86 = .ok (.aload_n 0, 1) := by decide +kernel
theorem dX2_mayBegin_87 : decode cX2_mayBegin 87 = .ok (.iconst 4, 1) := by decide +kernel
theorem dX2_mayBegin_88 : decode cX2_mayBegin 88 = .ok (.aload_n 0, 1) := by decide +kernel
theorem dX2_mayBegin_89 : decode cX2_mayBegin 89 = .ok (.getfield 25, 3) := by decide +kernel
theorem dX2_mayBegin_92 : decode cX2_mayBegin 92 = .ok (.invokevirtual 64, 3) := by decide +kernel
theorem dX2_mayBegin_95 : decode cX2_mayBegin 95 = .ok (.ifCond .eq 7, 3) := by decide +kernel
theorem dX2_mayBegin_98 : decode cX2_mayBegin 98 = .ok (.iconst 1, 1) := by decide +kernel
theorem dX2_mayBegin_99 : decode cX2_mayBegin 99 = .ok (.goto 4, 3) := by decide +kernel
theorem dX2_mayBegin_102 : decode cX2_mayBegin 102 = .ok (.iconst 0, 1) := by decide +kernel
theorem dX2_mayBegin_103 : decode cX2_mayBegin 103 = .ok (.ireturn, 1) := by decide +kernel
theorem dX2_readClause_0 : decode cX2_readClause 0 = .ok (.aload_n 0, 1) := by decide +kernel
theorem dX2_readClause_1 : decode cX2_readClause 1 = .ok (.iconst 0, 1) := by decide +kernel
theorem dX2_readClause_2 : decode cX2_readClause 2 = .ok (.putfield 31, 3) := by decide +kernel
theorem dX2_readClause_5 : decode cX2_readClause 5 = .ok (.aload_n 0, 1) := by decide +kernel
theorem dX2_readClause_6 : decode cX2_readClause 6 = .ok (.ldc 56, 2) := by decide +kernel
theorem dX2_readClause_8 : decode cX2_readClause 8 = .ok (.invokevirtual 71, 3) := by decide +kernel
theorem dX2_readClause_11 : decode cX2_readClause 11 = .ok (.ifCond .eq 9, 3) := by decide +kernel
theorem dX2_readClause_14 : decode cX2_readClause 14 = .ok (.aload_n 0, 1) := by decide +kernel
theorem dX2_readClause_15 : decode cX2_readClause 15 = .ok (.aload_n 1, 1) := by decide +kernel
theorem dX2_readClause_16 : decode cX2_readClause 16 = .ok (.invokevirtual 74, 3) := by decide +kernel
theorem dX2_readClause_19 : decode cX2_readClause 19 = .ok (.ireturn, 1) := by decide +kernel
theorem dX2_readClause_20 : decode cX2_readClause 20 = .ok (.aload_n 0, 1) := by decide +kernel
theorem dX2_readClause_21 : decode cX2_readClause 21 = .ok (.ldc 58, 2) := by decide +kernel
theorem dX2_readClause_23 : decode cX2_readClause 23 = .ok (.invokevirtual 71, 3) := by decide +kernel
theorem dX2_readClause_26 : decode cX2_readClause 26 = .ok (.ifCond .eq 9, 3) := by decide +kernel
theorem dX2_readClause_29 : decode cX2_readClause 29 = .ok (.aload_n 0, 1) := by decide +kernel
theorem dX2_readClause_30 : decode cX2_readClause 30 = .ok (.aload_n 1, 1) := by decide +kernel
theorem dX2_readClause_31 : decode cX2_readClause 31 = .ok (.invokevirtual 77, 3) := by decide +kernel
theorem dX2_readClause_34 : decode cX2_readClause 34 = .ok (.ireturn, 1) := by decide +kernel
theorem dX2_readClause_35 : decode cX2_readClause 35 = .ok (.aload_n 0, 1) := by decide +kernel
theorem dX2_readClause_36 : decode cX2_readClause 36 = .ok (.ldc 60, 2) := by decide +kernel
theorem dX2_readClause_38 : decode cX2_readClause 38 = .ok (.invokevirtual 71, 3) := by decide +kernel
theorem dX2_readClause_41 : decode cX2_readClause 41 = .ok (.ifCond .eq 9, 3) := by decide +kernel
theorem dX2_readClause_44 : decode cX2_readClause 44 = .ok (.aload_n 0, 1) := by decide +kernel
theorem dX2_readClause_45 : decode cX2_readClause 45 = .ok (.aload_n 1, 1) := by decide +kernel
theorem dX2_readClause_46 : decode cX2_readClause 46 = .ok (.invokevirtual 80, 3) := by decide +kernel
theorem dX2_readClause_49 : decode cX2_readClause 49 = .ok (.ireturn, 1) := by decide +kernel
theorem dX2_readClause_50 : decode cX2_readClause 50 = .ok (.aload_n 0, 1) := by decide +kernel
theorem dX2_readClause_51 : decode cX2_readClause 51 = .ok (.ldc 62, 2) := by decide +kernel
theorem dX2_readClause_53 : decode cX2_readClause 53 = .ok (.invokevirtual 71, 3) := by decide +kernel
theorem dX2_readClause_56 : decode cX2_readClause 56 = .ok (.ifCond .eq 9, 3) := by decide +kernel
theorem dX2_readClause_59 : decode cX2_readClause 59 = .ok (.aload_n 0, 1) := by decide +kernel
theorem dX2_readClause_60 : decode cX2_readClause 60 = .ok (.aload_n 1, 1) := by decide +kernel
theorem dX2_readClause_61 : decode cX2_readClause 61 = .ok (.invokevirtual 83, 3) := by decide +kernel
theorem dX2_readClause_64 : decode cX2_readClause 64 = .ok (.ireturn, 1) := by decide +kernel
theorem dX2_readClause_65 : decode cX2_readClause 65 = .ok (.aload_n 0, 1) := by decide +kernel
theorem dX2_readClause_66 : decode cX2_readClause 66 = .ok (.ldc 50, 2) := by decide +kernel
theorem dX2_readClause_68 : decode cX2_readClause 68 = .ok (.invokevirtual 86, 3) := by decide +kernel
theorem dX2_readClause_71 : decode cX2_readClause 71 = .ok (.ifCond .eq 15, 3) := by decide +kernel
theorem dX2_readClause_74 : decode cX2_readClause 74 = .ok (.aload_n 0, 1) := by decide +kernel
theorem dX2_readClause_75 : decode cX2_readClause 75 = .ok (.aload_n 1, 1) := by decide +kernel
theorem dX2_readClause_76 : decode cX2_readClause 76 = .ok (.invokevirtual 89, 3) := by decide +kernel
theorem dX2_readClause_79 : decode cX2_readClause 79 = .ok (.ifCond .eq 7, 3) := by decide +kernel
theorem dX2_readClause_82 : decode cX2_readClause 82 = .ok (.iconst 1, 1) := by decide +kernel
theorem dX2_readClause_83 : decode cX2_readClause 83 = .ok (.goto 4, 3) := by decide +kernel
theorem dX2_readClause_86 : decode cX2_readClause 86 = .ok (.iconst 0, 1) := by decide +kernel
theorem dX2_readClause_87 : decode cX2_readClause 87 = .ok (.ireturn, 1) := by decide +kernel
theorem dX2_readSort_0 : decode cX2_readSort 0 = .ok (.aload_n 0, 1) := by decide +kernel
theorem dX2_readSort_1 : decode cX2_readSort 1 = .ok (.iconst 0, 1) := by decide +kernel
theorem dX2_readSort_2 : decode cX2_readSort 2 = .ok (.iconst 5, 1) := by decide +kernel
theorem dX2_readSort_3 : decode cX2_readSort 3 = .ok (.invokevirtual 92, 3) := by decide +kernel
theorem dX2_readSort_6 : decode cX2_readSort 6 = .ok (.ifCond .eq 104, 3) := by decide +kernel
theorem dX2_readSort_9 : decode cX2_readSort 9 = .ok (.aload_n 0, 1) := by decide +kernel
theorem dX2_readSort_10 : decode cX2_readSort 10 = .ok (.ldc 95, 2) := by decide +kernel
theorem dX2_readSort_12 : decode cX2_readSort 12 = .ok (.invokevirtual 86, 3) := by decide +kernel
theorem dX2_readSort_15 : decode cX2_readSort 15 = .ok (.ifCond .eq 95, 3) := by decide +kernel
theorem dX2_readSort_18 : decode cX2_readSort 18 = .ok (.aload_n 0, 1) := by decide +kernel
theorem dX2_readSort_19 : decode cX2_readSort 19 = .ok (.sipush (-9999), 3) := by decide +kernel
theorem dX2_readSort_22 : decode cX2_readSort 22 = .ok (.sipush 9999, 3) := by decide +kernel
theorem dX2_readSort_25 : decode cX2_readSort 25 = .ok (.invokevirtual 97, 3) := by decide +kernel
theorem dX2_readSort_28 : decode cX2_readSort 28 = .ok (.ifCond .eq 82, 3) := by decide +kernel
theorem dX2_readSort_31 : decode cX2_readSort 31 = .ok (.aload_n 0, 1) := by decide +kernel
theorem dX2_readSort_32 : decode cX2_readSort 32 = .ok (.ldc 100, 2) := by decide +kernel
theorem dX2_readSort_34 : decode cX2_readSort 34 = .ok (.invokevirtual 86, 3) := by decide +kernel
theorem dX2_readSort_37 : decode cX2_readSort 37 = .ok (.ifCond .eq 73, 3) := by decide +kernel
theorem dX2_readSort_40 : decode cX2_readSort 40 = .ok (.aload_n 0, 1) := by decide +kernel
theorem dX2_readSort_41 : decode cX2_readSort 41 = .ok (.aload_n 0, 1) := by decide +kernel
theorem dX2_readSort_42 : decode cX2_readSort 42 = .ok (.invokevirtual 102, 3) := by decide +kernel
theorem dX2_readSort_45 : decode cX2_readSort 45 = .ok (.sipush 9999, 3) := by decide +kernel
theorem dX2_readSort_48 : decode cX2_readSort 48 = .ok (.invokevirtual 97, 3) := by decide +kernel
theorem dX2_readSort_51 : decode cX2_readSort 51 = .ok (.ifCond .eq 59, 3) := by decide +kernel
theorem dX2_readSort_54 : decode cX2_readSort 54 = .ok (.aload_n 0, 1) := by decide +kernel
theorem dX2_readSort_55 : decode cX2_readSort 55 = .ok (.ldc 106, 2) := by decide +kernel
theorem dX2_readSort_57 : decode cX2_readSort 57 = .ok (.invokevirtual 86, 3) := by decide +kernel
theorem dX2_readSort_60 : decode cX2_readSort 60 = .ok (.ifCond .eq 50, 3) := by decide +kernel
theorem dX2_readSort_63 : decode cX2_readSort 63 = .ok (.aload_n 0, 1) := by decide +kernel
theorem dX2_readSort_64 : decode cX2_readSort 64 = .ok (.sipush (-9999), 3) := by decide +kernel
theorem dX2_readSort_67 : decode cX2_readSort 67 = .ok (.sipush 9999, 3) := by decide +kernel
theorem dX2_readSort_70 : decode cX2_readSort 70 = .ok (.invokevirtual 97, 3) := by decide +kernel
theorem dX2_readSort_73 : decode cX2_readSort 73 = .ok (.ifCond .eq 37, 3) := by decide +kernel
theorem dX2_readSort_76 : decode cX2_readSort 76 = .ok (.aload_n 0, 1) := by decide +kernel
theorem dX2_readSort_77 : decode cX2_readSort 77 = .ok (.ldc 100, 2) := by decide +kernel
theorem dX2_readSort_79 : decode cX2_readSort 79 = .ok (.invokevirtual 86, 3) := by decide +kernel
theorem dX2_readSort_82 : decode cX2_readSort 82 = .ok (.ifCond .eq 28, 3) := by decide +kernel
theorem dX2_readSort_85 : decode cX2_readSort 85 = .ok (.aload_n 0, 1) := by decide +kernel
theorem dX2_readSort_86 : decode cX2_readSort 86 = .ok (.aload_n 0, 1) := by decide +kernel
theorem dX2_readSort_87 : decode cX2_readSort 87 = .ok (.invokevirtual 102, 3) := by decide +kernel
theorem dX2_readSort_90 : decode cX2_readSort 90 = .ok (.sipush 9999, 3) := by decide +kernel
theorem dX2_readSort_93 : decode cX2_readSort 93 = .ok (.invokevirtual 97, 3) := by decide +kernel
theorem dX2_readSort_96 : decode cX2_readSort 96 = .ok (.ifCond .eq 14, 3) := by decide +kernel
theorem dX2_readSort_99 : decode cX2_readSort 99 = .ok (.aload_n 0, 1) := by decide +kernel
theorem dX2_readSort_100 : decode cX2_readSort 100 = .ok (.invokevirtual 108, 3) := by decide +kernel
theorem dX2_readSort_103 : decode cX2_readSort 103 = .ok (.ifCond .eq 7, 3) := by decide +kernel
theorem dX2_readSort_106 : decode cX2_readSort 106 = .ok (.iconst 1, 1) := by decide +kernel
theorem dX2_readSort_107 : decode cX2_readSort 107 = .ok (.goto 4, 3) := by decide +kernel
theorem dX2_readSort_110 : decode cX2_readSort 110 = .ok (.iconst 0, 1) := by decide +kernel
theorem dX2_readSort_111 : decode cX2_readSort 111 = .ok (.istore_n 2, 1) := by decide +kernel
theorem dX2_readSort_112 : decode cX2_readSort 112 = .ok (.iload_n 2, 1) := by decide +kernel
theorem dX2_readSort_113 : decode cX2_readSort 113 = .ok (.ifCond .eq 47, 3) := by decide +kernel
theorem dX2_readSort_116 : decode cX2_readSort 116 = .ok (.aload_n 1, 1) := by decide +kernel
theorem dX2_readSort_117 : decode cX2_readSort 117 = .ok (.aload_n 0, 1) := by decide +kernel
theorem dX2_readSort_118 : decode cX2_readSort 118 = .ok (.getfield 28, 3) := by decide +kernel
theorem dX2_readSort_121 : decode cX2_readSort 121 = .ok (.iconst 0, 1) := by decide +kernel
theorem dX2_readSort_122 : decode cX2_readSort 122 = .ok (.iaload, 1) := by decide +kernel
theorem dX2_readSort_123 : decode cX2_readSort 123 = .ok (.aload_n 0, 1) := by decide +kernel
theorem dX2_readSort_124 : decode cX2_readSort 124 = .ok (.getfield 28, 3) := by decide +kernel
theorem dX2_readSort_127 : decode cX2_readSort 127 = .ok (.iconst 1, 1) := by decide +kernel
theorem dX2_readSort_128 : decode cX2_readSort 128 = .ok (.iaload, 1) := by decide +kernel
theorem dX2_readSort_129 : decode cX2_readSort 129 = .ok (.aload_n 0, 1) := by decide +kernel
theorem dX2_readSort_130 : decode cX2_readSort 130 = .ok (.getfield 28, 3) := by decide +kernel
theorem dX2_readSort_133 : decode cX2_readSort 133 = .ok (.iconst 2, 1) := by decide +kernel
theorem dX2_readSort_134 : decode cX2_readSort 134 = .ok (.iaload, 1) := by decide +kernel
theorem dX2_readSort_135 : decode cX2_readSort 135 = .ok (.invokevirtual 112, 3) := by decide +kernel
theorem dX2_readSort_138 : decode cX2_readSort 138 = .ok (.aload_n 1, 1) := by decide +kernel
theorem dX2_readSort_139 : decode cX2_readSort 139 = .ok (.aload_n 0, 1) := by decide +kernel
theorem dX2_readSort_140 : decode cX2_readSort 140 = .ok (.getfield 28, 3) := by decide +kernel
theorem dX2_readSort_143 : decode cX2_readSort 143 = .ok (.iconst 0, 1) := by decide +kernel
theorem dX2_readSort_144 : decode cX2_readSort 144 = .ok (.iaload, 1) := by decide +kernel
theorem dX2_readSort_145 : decode cX2_readSort 145 = .ok (.aload_n 0, 1) := by decide +kernel
theorem dX2_readSort_146 : decode cX2_readSort 146 = .ok (.getfield 28, 3) := by decide +kernel
theorem dX2_readSort_149 : decode cX2_readSort 149 = .ok (.iconst 3, 1) := by decide +kernel
theorem dX2_readSort_150 : decode cX2_readSort 150 = .ok (.iaload, 1) := by decide +kernel
theorem dX2_readSort_151 : decode cX2_readSort 151 = .ok (.aload_n 0, 1) := by decide +kernel
theorem dX2_readSort_152 : decode cX2_readSort 152 = .ok (.getfield 28, 3) := by decide +kernel
theorem dX2_readSort_155 : decode cX2_readSort 155 = .ok (.iconst 4, 1) := by decide +kernel
theorem dX2_readSort_156 : decode cX2_readSort 156 = .ok (.iaload, 1) := by decide +kernel
theorem dX2_readSort_157 : decode cX2_readSort 157 = .ok (.invokevirtual 116, 3) := by decide +kernel
theorem dX2_readSort_160 : decode cX2_readSort 160 = .ok (.iload_n 2, 1) := by decide +kernel
theorem dX2_readSort_161 : decode cX2_readSort 161 = .ok (.ireturn, 1) := by decide +kernel
theorem dX2_readDust_0 : decode cX2_readDust 0 = .ok (.aload_n 0, 1) := by decide +kernel
theorem dX2_readDust_1 : decode cX2_readDust 1 = .ok (.iconst 0, 1) := by decide +kernel
theorem dX2_readDust_2 : decode cX2_readDust 2 = .ok (.bipush 99, 2) := by decide +kernel
theorem dX2_readDust_4 : decode cX2_readDust 4 = .ok (.invokevirtual 92, 3) := by decide +kernel
theorem dX2_readDust_7 : decode cX2_readDust 7 = .ok (.ifCond .eq 36, 3) := by decide +kernel
theorem dX2_readDust_10 : decode cX2_readDust 10 = .ok (.aload_n 0, 1) := by decide +kernel
theorem dX2_readDust_11 : decode cX2_readDust 11 = .ok (.ldc 100, 2) := by decide +kernel
theorem dX2_readDust_13 : decode cX2_readDust 13 = .ok (.invokevirtual 86, 3) := by decide +kernel
theorem dX2_readDust_16 : decode cX2_readDust 16 = .ok (.ifCond .eq 27, 3) := by decide +kernel
theorem dX2_readDust_19 : decode cX2_readDust 19 = .ok (.aload_n 0, 1) := by decide +kernel
theorem dX2_readDust_20 : decode cX2_readDust 20 = .ok (.aload_n 0, 1) := by decide +kernel
theorem dX2_readDust_21 : decode cX2_readDust 21 = .ok (.invokevirtual 102, 3) := by decide +kernel
theorem dX2_readDust_24 : decode cX2_readDust 24 = .ok (.bipush 99, 2) := by decide +kernel
theorem dX2_readDust_26 : decode cX2_readDust 26 = .ok (.invokevirtual 92, 3) := by decide +kernel
theorem dX2_readDust_29 : decode cX2_readDust 29 = .ok (.ifCond .eq 14, 3) := by decide +kernel
theorem dX2_readDust_32 : decode cX2_readDust 32 = .ok (.aload_n 0, 1) := by decide +kernel
theorem dX2_readDust_33 : decode cX2_readDust 33 = .ok (.invokevirtual 108, 3) := by decide +kernel
theorem dX2_readDust_36 : decode cX2_readDust 36 = .ok (.ifCond .eq 7, 3) := by decide +kernel
theorem dX2_readDust_39 : decode cX2_readDust 39 = .ok (.iconst 1, 1) := by decide +kernel
theorem dX2_readDust_40 : decode cX2_readDust 40 = .ok (.goto 4, 3) := by decide +kernel
theorem dX2_readDust_43 : decode cX2_readDust 43 = .ok (.iconst 0, 1) := by decide +kernel
theorem dX2_readDust_44 : decode cX2_readDust 44 = .ok (.istore_n 2, 1) := by decide +kernel
theorem dX2_readDust_45 : decode cX2_readDust 45 = .ok (.iload_n 2, 1) := by decide +kernel
theorem dX2_readDust_46 : decode cX2_readDust 46 = .ok (.ifCond .eq 23, 3) := by decide +kernel
theorem dX2_readDust_49 : decode cX2_readDust 49 = .ok (.aload_n 1, 1) := by decide +kernel
theorem dX2_readDust_50 : decode cX2_readDust 50 = .ok (.aload_n 0, 1) := by decide +kernel
theorem dX2_readDust_51 : decode cX2_readDust 51 = .ok (.getfield 28, 3) := by decide +kernel
theorem dX2_readDust_54 : decode cX2_readDust 54 = .ok (.iconst 0, 1) := by decide +kernel
theorem dX2_readDust_55 : decode cX2_readDust 55 = .ok (.iaload, 1) := by decide +kernel
theorem dX2_readDust_56 : decode cX2_readDust 56 = .ok (.putfield 119, 3) := by decide +kernel
theorem dX2_readDust_59 : decode cX2_readDust 59 = .ok (.aload_n 1, 1) := by decide +kernel
theorem dX2_readDust_60 : decode cX2_readDust 60 = .ok (.aload_n 0, 1) := by decide +kernel
theorem dX2_readDust_61 : decode cX2_readDust 61 = .ok (.getfield 28, 3) := by decide +kernel
theorem dX2_readDust_64 : decode cX2_readDust 64 = .ok (.iconst 1, 1) := by decide +kernel
theorem dX2_readDust_65 : decode cX2_readDust 65 = .ok (.iaload, 1) := by decide +kernel
theorem dX2_readDust_66 : decode cX2_readDust 66 = .ok (.putfield 122, 3) := by decide +kernel
theorem dX2_readDust_69 : decode cX2_readDust 69 = .ok (.iload_n 2, 1) := by decide +kernel
theorem dX2_readDust_70 : decode cX2_readDust 70 = .ok (.ireturn, 1) := by decide +kernel
theorem dX2_readBlur_0 : decode cX2_readBlur 0 = .ok (.aload_n 0, 1) := by decide +kernel
theorem dX2_readBlur_1 : decode cX2_readBlur 1 = .ok (.iconst 0, 1) := by decide +kernel
theorem dX2_readBlur_2 : decode cX2_readBlur 2 = .ok (.iconst 5, 1) := by decide +kernel
theorem dX2_readBlur_3 : decode cX2_readBlur 3 = .ok (.invokevirtual 92, 3) := by decide +kernel
theorem dX2_readBlur_6 : decode cX2_readBlur 6 = .ok (.ifCond .eq 34, 3) := by decide +kernel
theorem dX2_readBlur_9 : decode cX2_readBlur 9 = .ok (.aload_n 0, 1) := by decide +kernel
theorem dX2_readBlur_10 : decode cX2_readBlur 10 = .ok (.ldc 125, 2) := by decide +kernel
theorem dX2_readBlur_12 : decode cX2_readBlur 12 = .ok (.invokevirtual 86, 3) := by decide +kernel
theorem dX2_readBlur_15 : decode cX2_readBlur 15 = .ok (.ifCond .eq 25, 3) := by decide +kernel
theorem dX2_readBlur_18 : decode cX2_readBlur 18 = .ok (.aload_n 0, 1) := by decide +kernel
theorem dX2_readBlur_19 : decode cX2_readBlur 19 = .ok (.iconst 0, 1) := by decide +kernel
theorem dX2_readBlur_20 : decode cX2_readBlur 20 = .ok (.sipush 999, 3) := by decide +kernel
theorem dX2_readBlur_23 : decode cX2_readBlur 23 = .ok (.invokevirtual 92, 3) := by decide +kernel
theorem dX2_readBlur_26 : decode cX2_readBlur 26 = .ok (.ifCond .eq 14, 3) := by decide +kernel
theorem dX2_readBlur_29 : decode cX2_readBlur 29 = .ok (.aload_n 0, 1) := by decide +kernel
theorem dX2_readBlur_30 : decode cX2_readBlur 30 = .ok (.invokevirtual 108, 3) := by decide +kernel
theorem dX2_readBlur_33 : decode cX2_readBlur 33 = .ok (.ifCond .eq 7, 3) := by decide +kernel
theorem dX2_readBlur_36 : decode cX2_readBlur 36 = .ok (.iconst 1, 1) := by decide +kernel
theorem dX2_readBlur_37 : decode cX2_readBlur 37 = .ok (.goto 4, 3) := by decide +kernel
theorem dX2_readBlur_40 : decode cX2_readBlur 40 = .ok (.iconst 0, 1) := by decide +kernel
theorem dX2_readBlur_41 : decode cX2_readBlur 41 = .ok (.istore_n 2, 1) := by decide +kernel
theorem dX2_readBlur_42 : decode cX2_readBlur 42 = .ok (.iload_n 2, 1) := by decide +kernel
theorem dX2_readBlur_43 : decode cX2_readBlur 43 = .ok (.ifCond .eq 20, 3) := by decide +kernel
theorem dX2_readBlur_46 : decode cX2_readBlur 46 = .ok (.aload_n 1, 1) := by decide +kernel
theorem dX2_readBlur_47 : decode cX2_readBlur 47 = .ok (.getfield 127, 3) := by decide +kernel
theorem dX2_readBlur_50 : decode cX2_readBlur 50 = .ok (.aload_n 0, 1) := by decide +kernel
theorem dX2_readBlur_51 : decode cX2_readBlur 51 = .ok (.getfield 28, 3) := by decide +kernel
theorem dX2_readBlur_54 : decode cX2_readBlur 54 = .ok (.iconst 0, 1) := by decide +kernel
theorem dX2_readBlur_55 : decode cX2_readBlur 55 = .ok (.iaload, 1) := by decide +kernel
theorem dX2_readBlur_56 : decode cX2_readBlur 56 = .ok (.aload_n 0, 1) := by decide +kernel
theorem dX2_readBlur_57 : decode cX2_readBlur 57 = .ok (.getfield 28, 3) := by decide +kernel
theorem dX2_readBlur_60 : decode cX2_readBlur 60 = .ok (.iconst 1, 1) := by decide +kernel
theorem dX2_readBlur_61 : decode cX2_readBlur 61 = .ok (.iaload, 1) := by decide +kernel
theorem dX2_readBlur_62 : decode cX2_readBlur 62 = .ok (.iastore, 1) := by decide +kernel
theorem dX2_readBlur_63 : decode cX2_readBlur 63 = .ok (.iload_n 2, 1) := by decide +kernel
theorem dX2_readBlur_64 : decode cX2_readBlur 64 = .ok (.ireturn, 1) := by decide +kernel
theorem dX2_readOwn_0 : decode cX2_readOwn 0 = .ok (.aload_n 0, 1) := by decide +kernel
theorem dX2_readOwn_1 : decode cX2_readOwn 1 = .ok (.iconst 0, 1) := by decide +kernel
theorem dX2_readOwn_2 : decode cX2_readOwn 2 = .ok (.sipush 9999, 3) := by decide +kernel
theorem dX2_readOwn_5 : decode cX2_readOwn 5 = .ok (.invokevirtual 92, 3) := by decide +kernel
theorem dX2_readOwn_8 : decode cX2_readOwn 8 = .ok (.ifCond .eq 14, 3) := by decide +kernel
theorem dX2_readOwn_11 : decode cX2_readOwn 11 = .ok (.aload_n 0, 1) := by decide +kernel
theorem dX2_readOwn_12 : decode cX2_readOwn 12 = .ok (.invokevirtual 108, 3) := by decide +kernel
theorem dX2_readOwn_15 : decode cX2_readOwn 15 = .ok (.ifCond .eq 7, 3) := by decide +kernel
theorem dX2_readOwn_18 : decode cX2_readOwn 18 = .ok (.iconst 1, 1) := by decide +kernel
theorem dX2_readOwn_19 : decode cX2_readOwn 19 = .ok (.goto 4, 3) := by decide +kernel
theorem dX2_readOwn_22 : decode cX2_readOwn 22 = .ok (.iconst 0, 1) := by decide +kernel
theorem dX2_readOwn_23 : decode cX2_readOwn 23 = .ok (.istore_n 2, 1) := by decide +kernel
theorem dX2_readOwn_24 : decode cX2_readOwn 24 = .ok (.iload_n 2, 1) := by decide +kernel
theorem dX2_readOwn_25 : decode cX2_readOwn 25 = .ok (.ifCond .eq 13, 3) := by decide +kernel
theorem dX2_readOwn_28 : decode cX2_readOwn 28 = .ok (.aload_n 1, 1) := by decide +kernel
theorem dX2_readOwn_29 : decode cX2_readOwn 29 = .ok (.aload_n 0, 1) := by decide +kernel
theorem dX2_readOwn_30 : decode cX2_readOwn 30 = .ok (.getfield 28, 3) := by decide +kernel
theorem dX2_readOwn_33 : decode cX2_readOwn 33 = .ok (.iconst 0, 1) := by decide +kernel
theorem dX2_readOwn_34 : decode cX2_readOwn 34 = .ok (.iaload, 1) := by decide +kernel
theorem dX2_readOwn_35 : decode cX2_readOwn 35 = .ok (.putfield 129, 3) := by decide +kernel
theorem dX2_readOwn_38 : decode cX2_readOwn 38 = .ok (.iload_n 2, 1) := by decide +kernel
theorem dX2_readOwn_39 : decode cX2_readOwn 39 = .ok (.ireturn, 1) := by decide +kernel
theorem dX2_readClaim_0 : decode cX2_readClaim 0 = .ok (.aload_n 0, 1) := by decide +kernel
theorem dX2_readClaim_1 : decode cX2_readClaim 1 = .ok (.iconst 0, 1) := by decide +kernel
theorem dX2_readClaim_2 : decode cX2_readClaim 2 = .ok (.bipush 9, 2) := by decide +kernel
theorem dX2_readClaim_4 : decode cX2_readClaim 4 = .ok (.invokevirtual 92, 3) := by decide +kernel
theorem dX2_readClaim_7 : decode cX2_readClaim 7 = .ok (.ifCond .ne 5, 3) := by decide +kernel
theorem dX2_readClaim_10 : decode cX2_readClaim 10 = .ok (.iconst 0, 1) := by decide +kernel
theorem dX2_readClaim_11 : decode cX2_readClaim 11 = .ok (.ireturn, 1) := by decide +kernel
theorem dX2_readClaim_12 : decode cX2_readClaim 12 = .ok (.aload_n 0, 1) := by decide +kernel
theorem dX2_readClaim_13 : decode cX2_readClaim 13 = .ok (.invokevirtual 39, 3) := by decide +kernel
theorem dX2_readClaim_16 : decode cX2_readClaim 16 = .ok (.aload_n 0, 1) := by decide +kernel
theorem dX2_readClaim_17 : decode cX2_readClaim 17 = .ok (.ldc 131, 2) := by decide +kernel
theorem dX2_readClaim_19 : decode cX2_readClaim 19 = .ok (.invokevirtual 71, 3) := by decide +kernel
theorem dX2_readClaim_22 : decode cX2_readClaim 22 = .ok (.istore_n 2, 1) := by decide +kernel
theorem dX2_readClaim_23 : decode cX2_readClaim 23 = .ok (.iload_n 2, 1) := by decide +kernel
theorem dX2_readClaim_24 : decode cX2_readClaim 24 = .ok (.ifCond .ne 12, 3) := by decide +kernel
theorem dX2_readClaim_27 : decode cX2_readClaim 27 = .ok (.aload_n 0, 1) := by decide +kernel
theorem dX2_readClaim_28 : decode cX2_readClaim 28 = .ok (.ldc 133, 2) := by decide +kernel
theorem dX2_readClaim_30 : decode cX2_readClaim 30 = .ok (.invokevirtual 86, 3) := by decide +kernel
theorem dX2_readClaim_33 : decode cX2_readClaim 33 = .ok (.ifCond .eq 25, 3) := by decide +kernel
theorem dX2_readClaim_36 : decode cX2_readClaim 36 = .ok (.aload_n 0, 1) := by decide +kernel
theorem dX2_readClaim_37 : decode cX2_readClaim 37 = .ok (.ldc 135, 2) := by decide +kernel
theorem dX2_readClaim_39 : decode cX2_readClaim 39 = .ok (.ldc 136, 2) := by decide +kernel
theorem dX2_readClaim_41 : decode cX2_readClaim 41 = .ok (.invokevirtual 97, 3) := by decide +kernel
theorem dX2_readClaim_44 : decode cX2_readClaim 44 = .ok (.ifCond .eq 14, 3) := by decide +kernel
theorem dX2_readClaim_47 : decode cX2_readClaim 47 = .ok (.aload_n 0, 1) := by decide +kernel
theorem dX2_readClaim_48 : decode cX2_readClaim 48 = .ok (.invokevirtual 108, 3) := by decide +kernel
theorem dX2_readClaim_51 : decode cX2_readClaim 51 = .ok (.ifCond .eq 7, 3) := by decide +kernel
theorem dX2_readClaim_54 : decode cX2_readClaim 54 = .ok (.iconst 1, 1) := by decide +kernel
theorem dX2_readClaim_55 : decode cX2_readClaim 55 = .ok (.goto 4, 3) := by decide +kernel
theorem dX2_readClaim_58 : decode cX2_readClaim 58 = .ok (.iconst 0, 1) := by decide +kernel
theorem dX2_readClaim_59 : decode cX2_readClaim 59 = .ok (.istore_n 3, 1) := by decide +kernel
theorem dX2_readClaim_60 : decode cX2_readClaim 60 = .ok (.iload_n 3, 1) := by decide +kernel
theorem dX2_readClaim_61 : decode cX2_readClaim 61 = .ok (.ifCond .eq 20, 3) := by decide +kernel
theorem dX2_readClaim_64 : decode cX2_readClaim 64 = .ok (.aload_n 1, 1) := by decide +kernel
theorem dX2_readClaim_65 : decode cX2_readClaim 65 = .ok (.aload_n 0, 1) := by decide +kernel
theorem dX2_readClaim_66 : decode cX2_readClaim 66 = .ok (.getfield 28, 3) := by decide +kernel
theorem dX2_readClaim_69 : decode cX2_readClaim 69 = .ok (.iconst 0, 1) := by decide +kernel
theorem dX2_readClaim_70 : decode cX2_readClaim 70 = .ok (.iaload, 1) := by decide +kernel
theorem dX2_readClaim_71 : decode cX2_readClaim 71 = .ok (.iload_n 2, 1) := by decide +kernel
theorem dX2_readClaim_72 : decode cX2_readClaim 72 = .ok (.aload_n 0, 1) := by decide +kernel
theorem dX2_readClaim_73 : decode cX2_readClaim 73 = .ok (.getfield 28, 3) := by decide +kernel
theorem dX2_readClaim_76 : decode cX2_readClaim 76 = .ok (.iconst 1, 1) := by decide +kernel
theorem dX2_readClaim_77 : decode cX2_readClaim 77 = .ok (.iaload, 1) := by decide +kernel
theorem dX2_readClaim_78 : decode cX2_readClaim 78 = .ok (.invokevirtual 137, 3) := by decide +kernel
theorem dX2_readClaim_81 : decode cX2_readClaim 81 = .ok (.iload_n 3, 1) := by decide +kernel
theorem dX2_readClaim_82 : decode cX2_readClaim 82 = .ok (.ireturn, 1) := by decide +kernel
theorem dX2_readEnd_0 : decode cX2_readEnd 0 = .ok (.aload_n 0, 1) := by decide +kernel
theorem dX2_readEnd_1 : decode cX2_readEnd 1 = .ok (.invokevirtual 39, 3) := by decide +kernel
theorem dX2_readEnd_4 : decode cX2_readEnd 4 = .ok (.aload_n 0, 1) := by decide +kernel
theorem dX2_readEnd_5 : decode cX2_readEnd 5 = .ok (.aload_n 0, 1) := by decide +kernel
theorem dX2_readEnd_6 : decode cX2_readEnd 6 = .ok (.getfield 25, 3) := by decide +kernel
theorem dX2_readEnd_9 : decode cX2_readEnd 9 = .ok (.invokevirtual 141, 3) := by decide +kernel
theorem dX2_readEnd_12 : decode cX2_readEnd 12 = .ok (.bipush 59, 2) := by decide +kernel
theorem dX2_readEnd_14 : decode cX2_readEnd 14 = .ok (.if_icmp .eq 13, 3) := by decide +kernel
theorem dX2_readEnd_17 : decode cX2_readEnd 17 = .ok (.aload_n 0, 1) := by decide +kernel
theorem dX2_readEnd_18 : decode cX2_readEnd 18 = .ok (.iconst 1, 1) := by decide +kernel
theorem dX2_readEnd_19 : decode cX2_readEnd 19 = .ok (.aload_n 0, 1) := by decide +kernel
theorem dX2_readEnd_20 : decode cX2_readEnd 20 = .ok (.getfield 25, 3) := by decide +kernel
theorem dX2_readEnd_23 : decode cX2_readEnd 23 = .ok (.invokevirtual 64, 3) := by decide +kernel
theorem dX2_readEnd_26 : decode cX2_readEnd 26 = .ok (.ireturn, 1) := by decide +kernel
theorem dX2_readEnd_27 : decode cX2_readEnd 27 = .ok (.aload_n 0, 1) := by decide +kernel
theorem dX2_readEnd_28 : decode cX2_readEnd 28 = .ok (.dup, 1) := by decide +kernel
theorem dX2_readEnd_29 : decode cX2_readEnd 29 = .ok (.getfield 25, 3) := by decide +kernel
theorem dX2_readEnd_32 : decode cX2_readEnd 32 = .ok (.iconst 1, 1) := by decide +kernel
theorem dX2_readEnd_33 : decode cX2_readEnd 33 = .ok (.iadd, 1) := by decide +kernel
theorem dX2_readEnd_34 : decode cX2_readEnd 34 = .ok (.putfield 25, 3) := by decide +kernel
theorem dX2_readEnd_37 : decode cX2_readEnd 37 = .ok (.iconst 1, 1) := by decide +kernel
theorem dX2_readEnd_38 : decode cX2_readEnd 38 = .ok (.ireturn, 1) := by decide +kernel
theorem dX2_readWord_0 : decode cX2_readWord 0 = .ok (.aload_n 0, 1) := by decide +kernel
theorem dX2_readWord_1 : decode cX2_readWord 1 = .ok (.invokevirtual 39, 3) := by decide +kernel
theorem dX2_readWord_4 : decode cX2_readWord 4 = .ok (.aload_n 0, 1) := by decide +kernel
theorem dX2_readWord_5 : decode cX2_readWord 5 = .ok (.aload_n 1, 1) := by decide +kernel
theorem dX2_readWord_6 : decode cX2_readWord 6 = .ok (.invokevirtual 52, 3) := by decide +kernel
theorem dX2_readWord_9 : decode cX2_readWord 9 = .ok (.ifCond .ne 13, 3) := by decide +kernel
theorem dX2_readWord_12 : decode cX2_readWord 12 = .ok (.aload_n 0, 1) := by decide +kernel
theorem dX2_readWord_13 : decode cX2_readWord 13 = .ok (.iconst 1, 1) := by decide +kernel
theorem dX2_readWord_14 : decode cX2_readWord 14 = .ok (.aload_n 0, 1) := by decide +kernel
theorem dX2_readWord_15 : decode cX2_readWord 15 = .ok (.getfield 25, 3) := by decide +kernel
theorem dX2_readWord_18 : decode cX2_readWord 18 = .ok (.invokevirtual 64, 3) := by decide +kernel
theorem dX2_readWord_21 : decode cX2_readWord 21 = .ok (.ireturn, 1) := by decide +kernel
theorem dX2_readWord_22 : decode cX2_readWord 22 = .ok (.aload_n 0, 1) := by decide +kernel
theorem dX2_readWord_23 : decode cX2_readWord 23 = .ok (.dup, 1) := by decide +kernel
theorem dX2_readWord_24 : decode cX2_readWord 24 = .ok (.getfield 25, 3) := by decide +kernel
theorem dX2_readWord_27 : decode cX2_readWord 27 = .ok (.aload_n 1, 1) := by decide +kernel
theorem dX2_readWord_28 : decode cX2_readWord 28 = .ok (.invokevirtual 145, 3) := by decide +kernel
theorem dX2_readWord_31 : decode cX2_readWord 31 = .ok (.iadd, 1) := by decide +kernel
theorem dX2_readWord_32 : decode cX2_readWord 32 = .ok (.putfield 25, 3) := by decide +kernel
theorem dX2_readWord_35 : decode cX2_readWord 35 = .ok (.iconst 1, 1) := by decide +kernel
theorem dX2_readWord_36 : decode cX2_readWord 36 = .ok (.ireturn, 1) := by decide +kernel
theorem dX2_tookWord_0 : decode cX2_tookWord 0 = .ok (.aload_n 0, 1) := by decide +kernel
theorem dX2_tookWord_1 : decode cX2_tookWord 1 = .ok (.aload_n 1, 1) := by decide +kernel
theorem dX2_tookWord_2 : decode cX2_tookWord 2 = .ok (.invokevirtual 52, 3) := by decide +kernel
theorem dX2_tookWord_5 : decode cX2_tookWord 5 = .ok (.ifCond .ne 5, 3) := by decide +kernel
theorem dX2_tookWord_8 : decode cX2_tookWord 8 = .ok (.iconst 0, 1) := by decide +kernel
theorem dX2_tookWord_9 : decode cX2_tookWord 9 = .ok (.ireturn, 1) := by decide +kernel
theorem dX2_tookWord_10 : decode cX2_tookWord 10 = .ok (.aload_n 0, 1) := by decide +kernel
theorem dX2_tookWord_11 : decode cX2_tookWord 11 = .ok (.dup, 1) := by decide +kernel
theorem dX2_tookWord_12 : decode cX2_tookWord 12 = .ok (.getfield 25, 3) := by decide +kernel
theorem dX2_tookWord_15 : decode cX2_tookWord 15 = .ok (.aload_n 1, 1) := by decide +kernel
theorem dX2_tookWord_16 : decode cX2_tookWord 16 = .ok (.invokevirtual 145, 3) := by decide +kernel
theorem dX2_tookWord_19 : decode cX2_tookWord 19 = .ok (.iadd, 1) := by decide +kernel
theorem dX2_tookWord_20 : decode cX2_tookWord 20 = .ok (.putfield 25, 3) := by decide +kernel
theorem dX2_tookWord_23 : decode cX2_tookWord 23 = .ok (.iconst 1, 1) := by decide +kernel
theorem dX2_tookWord_24 : decode cX2_tookWord 24 = .ok (.ireturn, 1) := by decide +kernel
theorem dX2_isWord_0 : decode cX2_isWord 0 = .ok (.iconst 0, 1) := by decide +kernel
theorem dX2_isWord_1 : decode cX2_isWord 1 = .ok (.istore_n 2, 1) := by decide +kernel
theorem dX2_isWord_2 : decode cX2_isWord 2 = .ok (.iload_n 2, 1) := by decide +kernel
theorem dX2_isWord_3 : decode cX2_isWord 3 = .ok (.aload_n 1, 1) := by decide +kernel
theorem dX2_isWord_4 : decode cX2_isWord 4 = .ok (.invokevirtual 145, 3) := by decide +kernel
theorem dX2_isWord_7 : decode cX2_isWord 7 = .ok (.if_icmp .ge 29, 3) := by decide +kernel
theorem dX2_isWord_10 : decode cX2_isWord 10 = .ok (.aload_n 0, 1) := by decide +kernel
theorem dX2_isWord_11 : decode cX2_isWord 11 = .ok (.aload_n 0, 1) := by decide +kernel
theorem dX2_isWord_12 : decode cX2_isWord 12 = .ok (.getfield 25, 3) := by decide +kernel
theorem dX2_isWord_15 : decode cX2_isWord 15 = .ok (.iload_n 2, 1) := by decide +kernel
theorem dX2_isWord_16 : decode cX2_isWord 16 = .ok (.iadd, 1) := by decide +kernel
theorem dX2_isWord_17 : decode cX2_isWord 17 = .ok (.invokevirtual 141, 3) := by decide +kernel
theorem dX2_isWord_20 : decode cX2_isWord 20 = .ok (.aload_n 1, 1) := by decide +kernel
theorem dX2_isWord_21 : decode cX2_isWord 21 = .ok (.iload_n 2, 1) := by decide +kernel
theorem dX2_isWord_22 : decode cX2_isWord 22 = .ok (.invokevirtual 149, 3) := by decide +kernel
theorem dX2_isWord_25 : decode cX2_isWord 25 = .ok (.if_icmp .eq 5, 3) := by decide +kernel
theorem dX2_isWord_28 : decode cX2_isWord 28 = .ok (.iconst 0, 1) := by decide +kernel
theorem dX2_isWord_29 : decode cX2_isWord 29 = .ok (.ireturn, 1) := by decide +kernel
theorem dX2_isWord_30 : decode cX2_isWord 30 = .ok (.iinc 2 1, 3) := by decide +kernel
theorem dX2_isWord_33 : decode cX2_isWord 33 = .ok (.goto (-31), 3) := by decide +kernel
theorem dX2_isWord_36 : decode cX2_isWord 36 = .ok (.aload_n 0, 1) := by decide +kernel
theorem dX2_isWord_37 : decode cX2_isWord 37 = .ok (.aload_n 0, 1) := by decide +kernel
theorem dX2_isWord_38 : decode cX2_isWord 38 = .ok (.getfield 25, 3) := by decide +kernel
theorem dX2_isWord_41 : decode cX2_isWord 41 = .ok (.aload_n 1, 1) := by decide +kernel
theorem dX2_isWord_42 : decode cX2_isWord 42 = .ok (.invokevirtual 145, 3) := by decide +kernel
theorem dX2_isWord_45 : decode cX2_isWord 45 = .ok (.iadd, 1) := by decide +kernel
theorem dX2_isWord_46 : decode cX2_isWord 46 = .ok (.invokevirtual 141, 3) := by decide +kernel
theorem dX2_isWord_49 : decode cX2_isWord 49 = .ok (.invokestatic 153, 3) := by decide +kernel
theorem dX2_isWord_52 : decode cX2_isWord 52 = .ok (.ifCond .ne 7, 3) := by decide +kernel
theorem dX2_isWord_55 : decode cX2_isWord 55 = .ok (.iconst 1, 1) := by decide +kernel
theorem dX2_isWord_56 : decode cX2_isWord 56 = .ok (.goto 4, 3) := by decide +kernel
theorem dX2_isWord_59 : decode cX2_isWord 59 = .ok (.iconst 0, 1) := by decide +kernel
theorem dX2_isWord_60 : decode cX2_isWord 60 = .ok (.ireturn, 1) := by decide +kernel
theorem dX2_readNumber_0 : decode cX2_readNumber 0 = .ok (.aload_n 0, 1) := by decide +kernel
theorem dX2_readNumber_1 : decode cX2_readNumber 1 = .ok (.invokevirtual 39, 3) := by decide +kernel
theorem dX2_readNumber_4 : decode cX2_readNumber 4 = .ok (.aload_n 0, 1) := by decide +kernel
theorem dX2_readNumber_5 : decode cX2_readNumber 5 = .ok (.aload_n 0, 1) := by decide +kernel
theorem dX2_readNumber_6 : decode cX2_readNumber 6 = .ok (.getfield 25, 3) := by decide +kernel
theorem dX2_readNumber_9 : decode cX2_readNumber 9 = .ok (.iload_n 1, 1) := by decide +kernel
theorem dX2_readNumber_10 : decode cX2_readNumber 10 = .ok (.iload_n 2, 1) := by decide +kernel
theorem dX2_readNumber_11 : decode cX2_readNumber 11 = .ok (.invokevirtual 157, 3) := by decide +kernel
theorem dX2_readNumber_14 : decode cX2_readNumber 14 = .ok (.ireturn, 1) := by decide +kernel
theorem dX2_readSigned_0 : decode cX2_readSigned 0 = .ok (.aload_n 0, 1) := by decide +kernel
theorem dX2_readSigned_1 : decode cX2_readSigned 1 = .ok (.invokevirtual 39, 3) := by decide +kernel
theorem dX2_readSigned_4 : decode cX2_readSigned 4 = .ok (.aload_n 0, 1) := by decide +kernel
theorem dX2_readSigned_5 : decode cX2_readSigned 5 = .ok (.getfield 25, 3) := by decide +kernel
theorem dX2_readSigned_8 : decode cX2_readSigned 8 = .ok (.istore_n 3, 1) := by decide +kernel
theorem dX2_readSigned_9 : decode cX2_readSigned 9 = .ok (.aload_n 0, 1) := by decide +kernel
theorem dX2_readSigned_10 : decode cX2_readSigned 10 = .ok (.aload_n 0, 1) := by decide +kernel
theorem dX2_readSigned_11 : decode cX2_readSigned 11 = .ok (.getfield 25, 3) := by decide +kernel
theorem dX2_readSigned_14 : decode cX2_readSigned 14 = .ok (.invokevirtual 141, 3) := by decide +kernel
theorem dX2_readSigned_17 : decode cX2_readSigned 17 = .ok (.bipush 45, 2) := by decide +kernel
theorem dX2_readSigned_19 : decode cX2_readSigned 19 = .ok (.if_icmp .ne 13, 3) := by decide +kernel
theorem dX2_readSigned_22 : decode cX2_readSigned 22 = .ok (.aload_n 0, 1) := by decide +kernel
theorem dX2_readSigned_23 : decode cX2_readSigned 23 = .ok (.dup, 1) := by decide +kernel
theorem dX2_readSigned_24 : decode cX2_readSigned 24 = .ok (.getfield 25, 3) := by decide +kernel
theorem dX2_readSigned_27 : decode cX2_readSigned 27 = .ok (.iconst 1, 1) := by decide +kernel
theorem dX2_readSigned_28 : decode cX2_readSigned 28 = .ok (.iadd, 1) := by decide +kernel
theorem dX2_readSigned_29 : decode cX2_readSigned 29 = .ok (.putfield 25, 3) := by decide +kernel
theorem dX2_readSigned_32 : decode cX2_readSigned 32 = .ok (.aload_n 0, 1) := by decide +kernel
theorem dX2_readSigned_33 : decode cX2_readSigned 33 = .ok (.iload_n 3, 1) := by decide +kernel
theorem dX2_readSigned_34 : decode cX2_readSigned 34 = .ok (.iload_n 1, 1) := by decide +kernel
theorem dX2_readSigned_35 : decode cX2_readSigned 35 = .ok (.iload_n 2, 1) := by decide +kernel
theorem dX2_readSigned_36 : decode cX2_readSigned 36 = .ok (.invokevirtual 157, 3) := by decide +kernel
theorem dX2_readSigned_39 : decode cX2_readSigned 39 = .ok (.ireturn, 1) := by decide +kernel
theorem dX2_readFigures_0 : decode cX2_readFigures 0 = .ok (.aload_n 0, 1) := by decide +kernel
theorem dX2_readFigures_1 : decode cX2_readFigures 1 = .ok (.aload_n 0, 1) := by decide +kernel
theorem dX2_readFigures_2 : decode cX2_readFigures 2 = .ok (.getfield 25, 3) := by decide +kernel
theorem dX2_readFigures_5 : decode cX2_readFigures 5 = .ok (.invokevirtual 141, 3) := by decide +kernel
theorem dX2_readFigures_8 : decode cX2_readFigures 8 = .ok (.invokestatic 161, 3) := by decide +kernel
theorem dX2_readFigures_11 : decode cX2_readFigures 11 = .ok (.ifCond .ne 13, 3) := by decide +kernel
theorem dX2_readFigures_14 : decode cX2_readFigures 14 = .ok (.aload_n 0, 1) := by decide +kernel
theorem dX2_readFigures_15 : decode cX2_readFigures 15 = .ok (.iconst 1, 1) := by decide +kernel
theorem dX2_readFigures_16 : decode cX2_readFigures 16 = .ok (.aload_n 0, 1) := by decide +kernel
theorem dX2_readFigures_17 : decode cX2_readFigures 17 = .ok (.getfield 25, 3) := by decide +kernel
theorem dX2_readFigures_20 : decode cX2_readFigures 20 = .ok (.invokevirtual 64, 3) := by decide +kernel
theorem dX2_readFigures_23 : decode cX2_readFigures 23 = .ok (.ireturn, 1) := by decide +kernel
theorem dX2_readFigures_24 : decode cX2_readFigures 24 = .ok (.iload_n 1, 1) := by decide +kernel
theorem dX2_readFigures_25 : decode cX2_readFigures 25 = .ok (.aload_n 0, 1) := by decide +kernel
theorem dX2_readFigures_26 : decode cX2_readFigures 26 = .ok (.getfield 25, 3) := by decide +kernel
theorem dX2_readFigures_29 : decode cX2_readFigures 29 = .ok (.if_icmp .ge 7, 3) := by decide +kernel
theorem dX2_readFigures_32 : decode cX2_readFigures 32 = .ok (.iconst (-1), 1) := by decide +kernel
theorem dX2_readFigures_33 : decode cX2_readFigures 33 = .ok (.goto 4, 3) := by decide +kernel
theorem dX2_readFigures_36 : decode cX2_readFigures 36 = .ok (.iconst 1, 1) := by decide +kernel
theorem dX2_readFigures_37 : decode cX2_readFigures 37 = .ok (.istore 4, 2) := by decide +kernel
theorem dX2_readFigures_39 : decode cX2_readFigures 39 = .ok (.iconst 0, 1) := by decide +kernel
theorem dX2_readFigures_40 : decode cX2_readFigures 40 = .ok (.istore 5, 2) := by decide +kernel
theorem dX2_readFigures_42 : decode cX2_readFigures 42 = .ok (.iconst 0, 1) := by decide +kernel
theorem dX2_readFigures_43 : decode cX2_readFigures 43 = .ok (.istore 6, 2) := by decide +kernel
theorem dX2_readFigures_45 : decode cX2_readFigures 45 = .ok (.aload_n 0, 1) := by decide +kernel
theorem dX2_readFigures_46 : decode cX2_readFigures 46 = .ok (.getfield 25, 3) := by decide +kernel
theorem dX2_readFigures_49 : decode cX2_readFigures 49 = .ok (.aload_n 0, 1) := by decide +kernel
theorem dX2_readFigures_50 : decode cX2_readFigures 50 = .ok (.getfield 15, 3) := by decide +kernel
theorem dX2_readFigures_53 : decode cX2_readFigures 53 = .ok (.if_icmp .ge 60, 3) := by decide +kernel
theorem dX2_readFigures_56 : decode cX2_readFigures 56 = .ok (.aload_n 0, 1) := by decide +kernel
theorem dX2_readFigures_57 : decode cX2_readFigures 57 = .ok (.getfield 11, 3) := by decide +kernel
theorem dX2_readFigures_60 : decode cX2_readFigures 60 = .ok (.aload_n 0, 1) := by decide +kernel
theorem dX2_readFigures_61 : decode cX2_readFigures 61 = .ok (.getfield 25, 3) := by decide +kernel
theorem dX2_readFigures_64 : decode cX2_readFigures 64 = .ok (.iaload, 1) := by decide +kernel
theorem dX2_readFigures_65 : decode cX2_readFigures 65 = .ok (.invokestatic 161, 3) := by decide +kernel
theorem dX2_readFigures_68 : decode cX2_readFigures 68 = .ok (.ifCond .eq 45, 3) := by decide +kernel
theorem dX2_readFigures_71 : decode cX2_readFigures 71 = .ok (.iinc 5 1, 3) := by decide +kernel
theorem dX2_readFigures_74 : decode cX2_readFigures 74 = .ok (.iload 5, 2) := by decide +kernel
theorem dX2_readFigures_76 : decode cX2_readFigures 76 = .ok (.iconst 5, 1) := by decide +kernel
theorem dX2_readFigures_77 : decode cX2_readFigures 77 = .ok (.if_icmp .gt 23, 3) := by decide +kernel
theorem dX2_readFigures_80 : decode cX2_readFigures 80 = .ok (.bipush 10, 2) := by decide +kernel
theorem dX2_readFigures_82 : decode cX2_readFigures 82 = .ok (.iload 6, 2) := by decide +kernel
theorem dX2_readFigures_84 : decode cX2_readFigures 84 = .ok (.imul, 1) := by decide +kernel
theorem dX2_readFigures_85 : decode cX2_readFigures 85 = .ok (.aload_n 0, 1) := by decide +kernel
theorem dX2_readFigures_86 : decode cX2_readFigures 86 = .ok (.getfield 11, 3) := by decide +kernel
theorem dX2_readFigures_89 : decode cX2_readFigures 89 = .ok (.aload_n 0, 1) := by decide +kernel
theorem dX2_readFigures_90 : decode cX2_readFigures 90 = .ok (.getfield 25, 3) := by decide +kernel
theorem dX2_readFigures_93 : decode cX2_readFigures 93 = .ok (.iaload, 1) := by decide +kernel
theorem dX2_readFigures_94 : decode cX2_readFigures 94 = .ok (.iadd, 1) := by decide +kernel
theorem dX2_readFigures_95 : decode cX2_readFigures 95 = .ok (.bipush 48, 2) := by decide +kernel
theorem dX2_readFigures_97 : decode cX2_readFigures 97 = .ok (.isub, 1) := by decide +kernel
theorem dX2_readFigures_98 : decode cX2_readFigures 98 = .ok (.istore 6, 2) := by decide +kernel
theorem dX2_readFigures_100 : decode cX2_readFigures 100 = .ok (.aload_n 0, 1) := by decide +kernel
theorem dX2_readFigures_101 : decode cX2_readFigures 101 = .ok (.dup, 1) := by decide +kernel
theorem dX2_readFigures_102 : decode cX2_readFigures 102 = .ok (.getfield 25, 3) := by decide +kernel
theorem dX2_readFigures_105 : decode cX2_readFigures 105 = .ok (.iconst 1, 1) := by decide +kernel
theorem dX2_readFigures_106 : decode cX2_readFigures 106 = .ok (.iadd, 1) := by decide +kernel
theorem dX2_readFigures_107 : decode cX2_readFigures 107 = .ok (.putfield 25, 3) := by decide +kernel
theorem dX2_readFigures_110 : decode cX2_readFigures 110 = .ok (.goto (-65), 3) := by decide +kernel
theorem dX2_readFigures_113 : decode cX2_readFigures 113 = .ok (.iload 5, 2) := by decide +kernel
theorem dX2_readFigures_115 : decode cX2_readFigures 115 = .ok (.iconst 5, 1) := by decide +kernel
theorem dX2_readFigures_116 : decode cX2_readFigures 116 = .ok (.if_icmp .gt 16, 3) := by decide +kernel
theorem dX2_readFigures_119 : decode cX2_readFigures 119 = .ok (.iload 4, 2) := by decide +kernel
theorem dX2_readFigures_121 : decode cX2_readFigures 121 = .ok (.iload 6, 2) := by decide +kernel
theorem dX2_readFigures_123 : decode cX2_readFigures 123 = .ok (.imul, 1) := by decide +kernel
theorem dX2_readFigures_124 : decode cX2_readFigures 124 = .ok (.iload_n 2, 1) := by decide +kernel
theorem dX2_readFigures_125 : decode cX2_readFigures 125 = .ok (.iload_n 3, 1) := by decide +kernel
theorem dX2_readFigures_126 : decode cX2_readFigures 126 = .ok (.invokestatic 164, 3) := by decide +kernel
theorem dX2_readFigures_129 : decode cX2_readFigures 129 = .ok (.ifCond .ne 10, 3) := by decide +kernel
theorem dX2_readFigures_132 : decode cX2_readFigures 132 = .ok (.aload_n 0, 1) := by decide +kernel
theorem dX2_readFigures_133 : decode cX2_readFigures 133 = .ok (.iconst 2, 1) := by decide +kernel
theorem dX2_readFigures_134 : decode cX2_readFigures 134 = .ok (.iload_n 1, 1) := by decide +kernel
theorem dX2_readFigures_135 : decode cX2_readFigures 135 = .ok (.invokevirtual 64, 3) := by decide +kernel
theorem dX2_readFigures_138 : decode cX2_readFigures 138 = .ok (.ireturn, 1) := by decide +kernel
theorem dX2_readFigures_139 : decode cX2_readFigures 139 = .ok (.aload_n 0, 1) := by decide +kernel
theorem dX2_readFigures_140 : decode cX2_readFigures 140 = .ok (.iload 4, 2) := by decide +kernel
theorem dX2_readFigures_142 : decode cX2_readFigures 142 = .ok (.iload 6, 2) := by decide +kernel
theorem dX2_readFigures_144 : decode cX2_readFigures 144 = .ok (.imul, 1) := by decide +kernel
theorem dX2_readFigures_145 : decode cX2_readFigures 145 = .ok (.invokevirtual 167, 3) := by decide +kernel
theorem dX2_readFigures_148 : decode cX2_readFigures 148 = .ok (.iconst 1, 1) := by decide +kernel
theorem dX2_readFigures_149 : decode cX2_readFigures 149 = .ok (.ireturn, 1) := by decide +kernel
theorem dX2_keep_0 : decode cX2_keep 0 = .ok (.aload_n 0, 1) := by decide +kernel
theorem dX2_keep_1 : decode cX2_keep 1 = .ok (.getfield 31, 3) := by decide +kernel
theorem dX2_keep_4 : decode cX2_keep 4 = .ok (.iconst 5, 1) := by decide +kernel
theorem dX2_keep_5 : decode cX2_keep 5 = .ok (.if_icmp .ge 23, 3) := by decide +kernel
theorem dX2_keep_8 : decode cX2_keep 8 = .ok (.aload_n 0, 1) := by decide +kernel
theorem dX2_keep_9 : decode cX2_keep 9 = .ok (.getfield 28, 3) := by decide +kernel
theorem dX2_keep_12 : decode cX2_keep 12 = .ok (.aload_n 0, 1) := by decide +kernel
theorem dX2_keep_13 : decode cX2_keep 13 = .ok (.getfield 31, 3) := by decide +kernel
theorem dX2_keep_16 : decode cX2_keep 16 = .ok (.iload_n 1, 1) := by decide +kernel
theorem dX2_keep_17 : decode cX2_keep 17 = .ok (.iastore, 1) := by decide +kernel
theorem dX2_keep_18 : decode cX2_keep 18 = .ok (.aload_n 0, 1) := by decide +kernel
theorem dX2_keep_19 : decode cX2_keep 19 = .ok (.dup, 1) := by decide +kernel
theorem dX2_keep_20 : decode cX2_keep 20 = .ok (.getfield 31, 3) := by decide +kernel
theorem dX2_keep_23 : decode cX2_keep 23 = .ok (.iconst 1, 1) := by decide +kernel
theorem dX2_keep_24 : decode cX2_keep 24 = .ok (.iadd, 1) := by decide +kernel
theorem dX2_keep_25 : decode cX2_keep 25 = .ok (.putfield 31, 3) := by decide +kernel
theorem dX2_keep_28 : decode cX2_keep 28 = .ok (.return_, 1) := by decide +kernel
theorem dX2_latest_0 : decode cX2_latest 0 = .ok (.aload_n 0, 1) := by decide +kernel
theorem dX2_latest_1 : decode cX2_latest 1 = .ok (.getfield 31, 3) := by decide +kernel
theorem dX2_latest_4 : decode cX2_latest 4 = .ok (.ifCond .le 17, 3) := by decide +kernel
theorem dX2_latest_7 : decode cX2_latest 7 = .ok (.aload_n 0, 1) := by decide +kernel
theorem dX2_latest_8 : decode cX2_latest 8 = .ok (.getfield 28, 3) := by decide +kernel
theorem dX2_latest_11 : decode cX2_latest 11 = .ok (.aload_n 0, 1) := by decide +kernel
theorem dX2_latest_12 : decode cX2_latest 12 = .ok (.getfield 31, 3) := by decide +kernel
theorem dX2_latest_15 : decode cX2_latest 15 = .ok (.iconst 1, 1) := by decide +kernel
theorem dX2_latest_16 : decode cX2_latest 16 = .ok (.isub, 1) := by decide +kernel
theorem dX2_latest_17 : decode cX2_latest 17 = .ok (.iaload, 1) := by decide +kernel
theorem dX2_latest_18 : decode cX2_latest 18 = .ok (.goto 4, 3) := by decide +kernel
theorem dX2_latest_21 : decode cX2_latest 21 = .ok (.iconst 0, 1) := by decide +kernel
theorem dX2_latest_22 : decode cX2_latest 22 = .ok (.ireturn, 1) := by decide +kernel
theorem dX2_skipBlanks_0 : decode cX2_skipBlanks 0 = .ok (.aload_n 0, 1) := by decide +kernel
theorem dX2_skipBlanks_1 : decode cX2_skipBlanks 1 = .ok (.getfield 25, 3) := by decide +kernel
theorem dX2_skipBlanks_4 : decode cX2_skipBlanks 4 = .ok (.aload_n 0, 1) := by decide +kernel
theorem dX2_skipBlanks_5 : decode cX2_skipBlanks 5 = .ok (.getfield 15, 3) := by decide +kernel
theorem dX2_skipBlanks_8 : decode cX2_skipBlanks 8 = .ok (.if_icmp .ge 30, 3) := by decide +kernel
theorem dX2_skipBlanks_11 : decode cX2_skipBlanks 11 = .ok (.aload_n 0, 1) := by decide +kernel
theorem dX2_skipBlanks_12 : decode cX2_skipBlanks 12 = .ok (.getfield 11, 3) := by decide +kernel
theorem dX2_skipBlanks_15 : decode cX2_skipBlanks 15 = .ok (.aload_n 0, 1) := by decide +kernel
theorem dX2_skipBlanks_16 : decode cX2_skipBlanks 16 = .ok (.getfield 25, 3) := by decide +kernel
theorem dX2_skipBlanks_19 : decode cX2_skipBlanks 19 = .ok (.iaload, 1) := by decide +kernel
theorem dX2_skipBlanks_20 : decode cX2_skipBlanks 20 = .ok (.bipush 32, 2) := by decide +kernel
theorem dX2_skipBlanks_22 : decode cX2_skipBlanks 22 = .ok (.if_icmp .ne 16, 3) := by decide +kernel
theorem dX2_skipBlanks_25 : decode cX2_skipBlanks 25 = .ok (.aload_n 0, 1) := by decide +kernel
theorem dX2_skipBlanks_26 : decode cX2_skipBlanks 26 = .ok (.dup, 1) := by decide +kernel
theorem dX2_skipBlanks_27 : decode cX2_skipBlanks 27 = .ok (.getfield 25, 3) := by decide +kernel
theorem dX2_skipBlanks_30 : decode cX2_skipBlanks 30 = .ok (.iconst 1, 1) := by decide +kernel
theorem dX2_skipBlanks_31 : decode cX2_skipBlanks 31 = .ok (.iadd, 1) := by decide +kernel
theorem dX2_skipBlanks_32 : decode cX2_skipBlanks 32 = .ok (.putfield 25, 3) := by decide +kernel
theorem dX2_skipBlanks_35 : decode cX2_skipBlanks 35 = .ok (.goto (-35), 3) := by decide +kernel
theorem dX2_skipBlanks_38 : decode cX2_skipBlanks 38 = .ok (.return_, 1) := by decide +kernel
theorem dX2_byteAt_0 : decode cX2_byteAt 0 = .ok (.iload_n 1, 1) := by decide +kernel
theorem dX2_byteAt_1 : decode cX2_byteAt 1 = .ok (.ifCond .lt 20, 3) := by decide +kernel
theorem dX2_byteAt_4 : decode cX2_byteAt 4 = .ok (.iload_n 1, 1) := by decide +kernel
theorem dX2_byteAt_5 : decode cX2_byteAt 5 = .ok (.aload_n 0, 1) := by decide +kernel
theorem dX2_byteAt_6 : decode cX2_byteAt 6 = .ok (.getfield 15, 3) := by decide +kernel
theorem dX2_byteAt_9 : decode cX2_byteAt 9 = .ok (.if_icmp .ge 12, 3) := by decide +kernel
theorem dX2_byteAt_12 : decode cX2_byteAt 12 = .ok (.aload_n 0, 1) := by decide +kernel
theorem dX2_byteAt_13 : decode cX2_byteAt 13 = .ok (.getfield 11, 3) := by decide +kernel
theorem dX2_byteAt_16 : decode cX2_byteAt 16 = .ok (.iload_n 1, 1) := by decide +kernel
theorem dX2_byteAt_17 : decode cX2_byteAt 17 = .ok (.iaload, 1) := by decide +kernel
theorem dX2_byteAt_18 : decode cX2_byteAt 18 = .ok (.goto 4, 3) := by decide +kernel
theorem dX2_byteAt_21 : decode cX2_byteAt 21 = .ok (.iconst (-1), 1) := by decide +kernel
theorem dX2_byteAt_22 : decode cX2_byteAt 22 = .ok (.ireturn, 1) := by decide +kernel
theorem dX2_isLetter_0 : decode cX2_isLetter 0 = .ok (.iload_n 0, 1) := by decide +kernel
theorem dX2_isLetter_1 : decode cX2_isLetter 1 = .ok (.bipush 97, 2) := by decide +kernel
theorem dX2_isLetter_3 : decode cX2_isLetter 3 = .ok (.if_icmp .lt 13, 3) := by decide +kernel
theorem dX2_isLetter_6 : decode cX2_isLetter 6 = .ok (.iload_n 0, 1) := by decide +kernel
theorem dX2_isLetter_7 : decode cX2_isLetter 7 = .ok (.bipush 122, 2) := by decide +kernel
theorem dX2_isLetter_9 : decode cX2_isLetter 9 = .ok (.if_icmp .gt 7, 3) := by decide +kernel
theorem dX2_isLetter_12 : decode cX2_isLetter 12 = .ok (.iconst 1, 1) := by decide +kernel
theorem dX2_isLetter_13 : decode cX2_isLetter 13 = .ok (.goto 4, 3) := by decide +kernel
theorem dX2_isLetter_16 : decode cX2_isLetter 16 = .ok (.iconst 0, 1) := by decide +kernel
theorem dX2_isLetter_17 : decode cX2_isLetter 17 = .ok (.ireturn, 1) := by decide +kernel
theorem dX2_isFigure_0 : decode cX2_isFigure 0 = .ok (.iload_n 0, 1) := by decide +kernel
theorem dX2_isFigure_1 : decode cX2_isFigure 1 = .ok (.bipush 48, 2) := by decide +kernel
theorem dX2_isFigure_3 : decode cX2_isFigure 3 = .ok (.if_icmp .lt 13, 3) := by decide +kernel
theorem dX2_isFigure_6 : decode cX2_isFigure 6 = .ok (.iload_n 0, 1) := by decide +kernel
theorem dX2_isFigure_7 : decode cX2_isFigure 7 = .ok (.bipush 57, 2) := by decide +kernel
theorem dX2_isFigure_9 : decode cX2_isFigure 9 = .ok (.if_icmp .gt 7, 3) := by decide +kernel
theorem dX2_isFigure_12 : decode cX2_isFigure 12 = .ok (.iconst 1, 1) := by decide +kernel
theorem dX2_isFigure_13 : decode cX2_isFigure 13 = .ok (.goto 4, 3) := by decide +kernel
theorem dX2_isFigure_16 : decode cX2_isFigure 16 = .ok (.iconst 0, 1) := by decide +kernel
theorem dX2_isFigure_17 : decode cX2_isFigure 17 = .ok (.ireturn, 1) := by decide +kernel
theorem dX2_fail_0 : decode cX2_fail 0 = .ok (.aload_n 0, 1) := by decide +kernel
theorem dX2_fail_1 : decode cX2_fail 1 = .ok (.iload_n 1, 1) := by decide +kernel
theorem dX2_fail_2 : decode cX2_fail 2 = .ok (.putfield 19, 3) := by decide +kernel
theorem dX2_fail_5 : decode cX2_fail 5 = .ok (.aload_n 0, 1) := by decide +kernel
theorem dX2_fail_6 : decode cX2_fail 6 = .ok (.iload_n 2, 1) := by decide +kernel
theorem dX2_fail_7 : decode cX2_fail 7 = .ok (.putfield 22, 3) := by decide +kernel
theorem dX2_fail_10 : decode cX2_fail 10 = .ok (.iconst 0, 1) := by decide +kernel
theorem dX2_fail_11 : decode cX2_fail 11 = .ok (.ireturn, 1) := by decide +kernel
theorem dX3_init_0 : decode cX3_init 0 = .ok (.aload_n 0, 1) := by decide +kernel
theorem dX3_init_1 : decode cX3_init 1 = .ok (.invokespecial 3, 3) := by decide +kernel
theorem dX3_init_4 : decode cX3_init 4 = .ok (.aload_n 0, 1) := by decide +kernel
theorem dX3_init_5 : decode cX3_init 5 = .ok (.bipush 6, 2) := by decide +kernel
theorem dX3_init_7 : decode cX3_init 7 = .ok (.newarray .int, 2) := by decide +kernel
theorem dX3_init_9 : decode cX3_init 9 = .ok (.putfield 9, 3) := by decide +kernel
theorem dX3_init_12 : decode cX3_init 12 = .ok (.aload_n 0, 1) := by decide +kernel
theorem dX3_init_13 : decode cX3_init 13 = .ok (.bipush 6, 2) := by decide +kernel
theorem dX3_init_15 : decode cX3_init 15 = .ok (.newarray .int, 2) := by decide +kernel
theorem dX3_init_17 : decode cX3_init 17 = .ok (.putfield 15, 3) := by decide +kernel
theorem dX3_init_20 : decode cX3_init 20 = .ok (.aload_n 0, 1) := by decide +kernel
theorem dX3_init_21 : decode cX3_init 21 = .ok (.bipush 6, 2) := by decide +kernel
theorem dX3_init_23 : decode cX3_init 23 = .ok (.newarray .int, 2) := by decide +kernel
theorem dX3_init_25 : decode cX3_init 25 = .ok (.putfield 18, 3) := by decide +kernel
theorem dX3_init_28 : decode cX3_init 28 = .ok (.aload_n 0, 1) := by decide +kernel
theorem dX3_init_29 : decode cX3_init 29 = .ok (.bipush 6, 2) := by decide +kernel
theorem dX3_init_31 : decode cX3_init 31 = .ok (.newarray .int, 2) := by decide +kernel
theorem dX3_init_33 : decode cX3_init 33 = .ok (.putfield 21, 3) := by decide +kernel
theorem dX3_init_36 : decode cX3_init 36 = .ok (.aload_n 0, 1) := by decide +kernel
theorem dX3_init_37 : decode cX3_init 37 = .ok (.bipush 6, 2) := by decide +kernel
theorem dX3_init_39 : decode cX3_init 39 = .ok (.newarray .int, 2) := by decide +kernel
theorem dX3_init_41 : decode cX3_init 41 = .ok (.putfield 24, 3) := by decide +kernel
theorem dX3_init_44 : decode cX3_init 44 = .ok (.aload_n 0, 1) := by decide +kernel
theorem dX3_init_45 : decode cX3_init 45 = .ok (.bipush 31, 2) := by decide +kernel
theorem dX3_init_47 : decode cX3_init 47 = .ok (.putfield 27, 3) := by decide +kernel
theorem dX3_init_50 : decode cX3_init 50 = .ok (.aload_n 0, 1) := by decide +kernel
theorem dX3_init_51 : decode cX3_init 51 = .ok (.bipush 31, 2) := by decide +kernel
theorem dX3_init_53 : decode cX3_init 53 = .ok (.putfield 31, 3) := by decide +kernel
theorem dX3_init_56 : decode cX3_init 56 = .ok (.aload_n 0, 1) := by decide +kernel
theorem dX3_init_57 : decode cX3_init 57 = .ok (.iconst 0, 1) := by decide +kernel
theorem dX3_init_58 : decode cX3_init 58 = .ok (.putfield 34, 3) := by decide +kernel
theorem dX3_init_61 : decode cX3_init 61 = .ok (.aload_n 0, 1) := by decide +kernel
theorem dX3_init_62 : decode cX3_init 62 = .ok (.bipush 8, 2) := by decide +kernel
theorem dX3_init_64 : decode cX3_init 64 = .ok (.newarray .int, 2) := by decide +kernel
theorem dX3_init_66 : decode cX3_init 66 = .ok (.putfield 37, 3) := by decide +kernel
theorem dX3_init_69 : decode cX3_init 69 = .ok (.aload_n 0, 1) := by decide +kernel
theorem dX3_init_70 : decode cX3_init 70 = .ok (.bipush 8, 2) := by decide +kernel
theorem dX3_init_72 : decode cX3_init 72 = .ok (.newarray .int, 2) := by decide +kernel
theorem dX3_init_74 : decode cX3_init 74 = .ok (.putfield 40, 3) := by decide +kernel
theorem dX3_init_77 : decode cX3_init 77 = .ok (.aload_n 0, 1) := by decide +kernel
theorem dX3_init_78 : decode cX3_init 78 = .ok (.bipush 8, 2) := by decide +kernel
theorem dX3_init_80 : decode cX3_init 80 = .ok (.newarray .boolean, 2) := by decide +kernel
theorem dX3_init_82 : decode cX3_init 82 = .ok (.putfield 43, 3) := by decide +kernel
theorem dX3_init_85 : decode cX3_init 85 = .ok (.aload_n 0, 1) := by decide +kernel
theorem dX3_init_86 : decode cX3_init 86 = .ok (.iconst 0, 1) := by decide +kernel
theorem dX3_init_87 : decode cX3_init 87 = .ok (.putfield 47, 3) := by decide +kernel
theorem dX3_init_90 : decode cX3_init 90 = .ok (.return_, 1) := by decide +kernel
theorem dX3_setAsAtFirst_0 : decode cX3_setAsAtFirst 0 = .ok (.iconst 0, 1) := by decide +kernel
theorem dX3_setAsAtFirst_1 : decode cX3_setAsAtFirst 1 = .ok (.istore_n 1, 1) := by decide +kernel
theorem dX3_setAsAtFirst_2 : decode cX3_setAsAtFirst 2 = .ok (.iload_n 1, 1) := by decide +kernel
theorem dX3_setAsAtFirst_3 : decode cX3_setAsAtFirst 3 = .ok (.bipush 6, 2) := by decide +kernel
theorem dX3_setAsAtFirst_5 : decode cX3_setAsAtFirst 5 = .ok (.if_icmp .ge 37, 3) := by decide +kernel
theorem dX3_setAsAtFirst_8 : decode cX3_setAsAtFirst 8 = .ok (.aload_n 0, 1) := by decide +kernel
theorem dX3_setAsAtFirst_9 : decode cX3_setAsAtFirst 9 = .ok (.getfield 9, 3) := by decide +kernel
theorem dX3_setAsAtFirst_12 : decode cX3_setAsAtFirst 12 = .ok (.iload_n 1, 1) := by decide +kernel
theorem dX3_setAsAtFirst_13 : decode cX3_setAsAtFirst 13 = .ok (.iconst 0, 1) := by decide +kernel
theorem dX3_setAsAtFirst_14 : decode cX3_setAsAtFirst 14 = .ok (.iastore, 1) := by decide +kernel
theorem dX3_setAsAtFirst_15 : decode cX3_setAsAtFirst 15 = .ok (.aload_n 0, 1) := by decide +kernel
theorem dX3_setAsAtFirst_16 : decode cX3_setAsAtFirst 16 = .ok (.getfield 15, 3) := by decide +kernel
theorem dX3_setAsAtFirst_19 : decode cX3_setAsAtFirst 19 = .ok (.iload_n 1, 1) := by decide +kernel
theorem dX3_setAsAtFirst_20 : decode cX3_setAsAtFirst 20 = .ok (.iconst 0, 1) := by decide +kernel
theorem dX3_setAsAtFirst_21 : decode cX3_setAsAtFirst 21 = .ok (.iastore, 1) := by decide +kernel
theorem dX3_setAsAtFirst_22 : decode cX3_setAsAtFirst 22 = .ok (.aload_n 0, 1) := by decide +kernel
theorem dX3_setAsAtFirst_23 : decode cX3_setAsAtFirst 23 = .ok (.getfield 18, 3) := by decide +kernel
theorem dX3_setAsAtFirst_26 : decode cX3_setAsAtFirst 26 = .ok (.iload_n 1, 1) := by decide +kernel
theorem dX3_setAsAtFirst_27 : decode cX3_setAsAtFirst 27 = .ok (.iconst 0, 1) := by decide +kernel
theorem dX3_setAsAtFirst_28 : decode cX3_setAsAtFirst 28 = .ok (.iastore, 1) := by decide +kernel
theorem dX3_setAsAtFirst_29 : decode cX3_setAsAtFirst 29 = .ok (.aload_n 0, 1) := by decide +kernel
theorem dX3_setAsAtFirst_30 : decode cX3_setAsAtFirst 30 = .ok (.getfield 21, 3) := by decide +kernel
theorem dX3_setAsAtFirst_33 : decode cX3_setAsAtFirst 33 = .ok (.iload_n 1, 1) := by decide +kernel
theorem dX3_setAsAtFirst_34 : decode cX3_setAsAtFirst 34 = .ok (.iconst 0, 1) := by decide +kernel
theorem dX3_setAsAtFirst_35 : decode cX3_setAsAtFirst 35 = .ok (.iastore, 1) := by decide +kernel
theorem dX3_setAsAtFirst_36 : decode cX3_setAsAtFirst 36 = .ok (.iinc 1 1, 3) := by decide +kernel
theorem dX3_setAsAtFirst_39 : decode cX3_setAsAtFirst 39 = .ok (.goto (-37), 3) := by decide +kernel
theorem dX3_setAsAtFirst_42 : decode cX3_setAsAtFirst 42 = .ok (.iconst 0, 1) := by decide +kernel
theorem dX3_setAsAtFirst_43 : decode cX3_setAsAtFirst 43 = .ok (.istore_n 1, 1) := by decide +kernel
theorem dX3_setAsAtFirst_44 : decode cX3_setAsAtFirst 44 = .ok (.iload_n 1, 1) := by decide +kernel
theorem dX3_setAsAtFirst_45 : decode cX3_setAsAtFirst 45 = .ok (.bipush 6, 2) := by decide +kernel
theorem dX3_setAsAtFirst_47 : decode cX3_setAsAtFirst 47 = .ok (.if_icmp .ge 16, 3) := by decide +kernel
theorem dX3_setAsAtFirst_50 : decode cX3_setAsAtFirst 50 = .ok (.aload_n 0, 1) := by decide +kernel
theorem dX3_setAsAtFirst_51 : decode cX3_setAsAtFirst 51 = .ok (.getfield 24, 3) := by decide +kernel
theorem dX3_setAsAtFirst_54 : decode cX3_setAsAtFirst 54 = .ok (.iload_n 1, 1) := by decide +kernel
theorem dX3_setAsAtFirst_55 : decode cX3_setAsAtFirst 55 = .ok (.iconst 0, 1) := by decide +kernel
theorem dX3_setAsAtFirst_56 : decode cX3_setAsAtFirst 56 = .ok (.iastore, 1) := by decide +kernel
theorem dX3_setAsAtFirst_57 : decode cX3_setAsAtFirst 57 = .ok (.iinc 1 1, 3) := by decide +kernel
theorem dX3_setAsAtFirst_60 : decode cX3_setAsAtFirst 60 = .ok (.goto (-16), 3) := by decide +kernel
theorem dX3_setAsAtFirst_63 : decode cX3_setAsAtFirst 63 = .ok (.aload_n 0, 1) := by decide +kernel
theorem dX3_setAsAtFirst_64 : decode cX3_setAsAtFirst 64 = .ok (.bipush 31, 2) := by decide +kernel
theorem dX3_setAsAtFirst_66 : decode cX3_setAsAtFirst 66 = .ok (.putfield 27, 3) := by decide +kernel
theorem dX3_setAsAtFirst_69 : decode cX3_setAsAtFirst 69 = .ok (.aload_n 0, 1) := by decide +kernel
theorem dX3_setAsAtFirst_70 : decode cX3_setAsAtFirst 70 = .ok (.bipush 31, 2) := by decide +kernel
theorem dX3_setAsAtFirst_72 : decode cX3_setAsAtFirst 72 = .ok (.putfield 31, 3) := by decide +kernel
theorem dX3_setAsAtFirst_75 : decode cX3_setAsAtFirst 75 = .ok (.aload_n 0, 1) := by decide +kernel
theorem dX3_setAsAtFirst_76 : decode cX3_setAsAtFirst 76 = .ok (.iconst 0, 1) := by decide +kernel
theorem dX3_setAsAtFirst_77 : decode cX3_setAsAtFirst 77 = .ok (.putfield 34, 3) := by decide +kernel
theorem dX3_setAsAtFirst_80 : decode cX3_setAsAtFirst 80 = .ok (.aload_n 0, 1) := by decide +kernel
theorem dX3_setAsAtFirst_81 : decode cX3_setAsAtFirst 81 = .ok (.iconst 0, 1) := by decide +kernel
theorem dX3_setAsAtFirst_82 : decode cX3_setAsAtFirst 82 = .ok (.putfield 47, 3) := by decide +kernel
theorem dX3_setAsAtFirst_85 : decode cX3_setAsAtFirst 85 = .ok (.return_, 1) := by decide +kernel
theorem dX3_setTime_0 : decode cX3_setTime 0 = .ok (.aload_n 0, 1) := by decide +kernel
theorem dX3_setTime_1 : decode cX3_setTime 1 = .ok (.getfield 9, 3) := by decide +kernel
theorem dX3_setTime_4 : decode cX3_setTime 4 = .ok (.iload_n 1, 1) := by decide +kernel
theorem dX3_setTime_5 : decode cX3_setTime 5 = .ok (.iload_n 2, 1) := by decide +kernel
theorem dX3_setTime_6 : decode cX3_setTime 6 = .ok (.iastore, 1) := by decide +kernel
theorem dX3_setTime_7 : decode cX3_setTime 7 = .ok (.aload_n 0, 1) := by decide +kernel
theorem dX3_setTime_8 : decode cX3_setTime 8 = .ok (.getfield 15, 3) := by decide +kernel
theorem dX3_setTime_11 : decode cX3_setTime 11 = .ok (.iload_n 1, 1) := by decide +kernel
theorem dX3_setTime_12 : decode cX3_setTime 12 = .ok (.iload_n 3, 1) := by decide +kernel
theorem dX3_setTime_13 : decode cX3_setTime 13 = .ok (.iastore, 1) := by decide +kernel
theorem dX3_setTime_14 : decode cX3_setTime 14 = .ok (.return_, 1) := by decide +kernel
theorem dX3_setColour_0 : decode cX3_setColour 0 = .ok (.aload_n 0, 1) := by decide +kernel
theorem dX3_setColour_1 : decode cX3_setColour 1 = .ok (.getfield 18, 3) := by decide +kernel
theorem dX3_setColour_4 : decode cX3_setColour 4 = .ok (.iload_n 1, 1) := by decide +kernel
theorem dX3_setColour_5 : decode cX3_setColour 5 = .ok (.iload_n 2, 1) := by decide +kernel
theorem dX3_setColour_6 : decode cX3_setColour 6 = .ok (.iastore, 1) := by decide +kernel
theorem dX3_setColour_7 : decode cX3_setColour 7 = .ok (.aload_n 0, 1) := by decide +kernel
theorem dX3_setColour_8 : decode cX3_setColour 8 = .ok (.getfield 21, 3) := by decide +kernel
theorem dX3_setColour_11 : decode cX3_setColour 11 = .ok (.iload_n 1, 1) := by decide +kernel
theorem dX3_setColour_12 : decode cX3_setColour 12 = .ok (.iload_n 3, 1) := by decide +kernel
theorem dX3_setColour_13 : decode cX3_setColour 13 = .ok (.iastore, 1) := by decide +kernel
theorem dX3_setColour_14 : decode cX3_setColour 14 = .ok (.return_, 1) := by decide +kernel
theorem dX3_addClaim_0 : decode cX3_addClaim 0 = .ok (.aload_n 0, 1) := by decide +kernel
theorem dX3_addClaim_1 : decode cX3_addClaim 1 = .ok (.getfield 47, 3) := by decide +kernel
theorem dX3_addClaim_4 : decode cX3_addClaim 4 = .ok (.bipush 8, 2) := by decide +kernel
theorem dX3_addClaim_6 : decode cX3_addClaim 6 = .ok (.if_icmp .ge 43, 3) := by decide +kernel
theorem dX3_addClaim_9 : decode cX3_addClaim 9 = .ok (.aload_n 0, 1) := by decide +kernel
theorem dX3_addClaim_10 : decode cX3_addClaim 10 = .ok (.getfield 37, 3) := by decide +kernel
theorem dX3_addClaim_13 : decode cX3_addClaim 13 = .ok (.aload_n 0, 1) := by decide +kernel
theorem dX3_addClaim_14 : decode cX3_addClaim 14 = .ok (.getfield 47, 3) := by decide +kernel
theorem dX3_addClaim_17 : decode cX3_addClaim 17 = .ok (.iload_n 1, 1) := by decide +kernel
theorem dX3_addClaim_18 : decode cX3_addClaim 18 = .ok (.iastore, 1) := by decide +kernel
theorem dX3_addClaim_19 : decode cX3_addClaim 19 = .ok (.aload_n 0, 1) := by decide +kernel
theorem dX3_addClaim_20 : decode cX3_addClaim 20 = .ok (.getfield 43, 3) := by decide +kernel
theorem dX3_addClaim_23 : decode cX3_addClaim 23 = .ok (.aload_n 0, 1) := by decide +kernel
theorem dX3_addClaim_24 : decode cX3_addClaim 24 = .ok (.getfield 47, 3) := by decide +kernel
theorem dX3_addClaim_27 : decode cX3_addClaim 27 = .ok (.iload_n 2, 1) := by decide +kernel
theorem dX3_addClaim_28 : decode cX3_addClaim 28 = .ok (.bastore, 1) := by decide +kernel
theorem dX3_addClaim_29 : decode cX3_addClaim 29 = .ok (.aload_n 0, 1) := by decide +kernel
theorem dX3_addClaim_30 : decode cX3_addClaim 30 = .ok (.getfield 40, 3) := by decide +kernel
theorem dX3_addClaim_33 : decode cX3_addClaim 33 = .ok (.aload_n 0, 1) := by decide +kernel
theorem dX3_addClaim_34 : decode cX3_addClaim 34 = .ok (.getfield 47, 3) := by decide +kernel
theorem dX3_addClaim_37 : decode cX3_addClaim 37 = .ok (.iload_n 3, 1) := by decide +kernel
theorem dX3_addClaim_38 : decode cX3_addClaim 38 = .ok (.iastore, 1) := by decide +kernel
theorem dX3_addClaim_39 : decode cX3_addClaim 39 = .ok (.aload_n 0, 1) := by decide +kernel
theorem dX3_addClaim_40 : decode cX3_addClaim 40 = .ok (.dup, 1) := by decide +kernel
theorem dX3_addClaim_41 : decode cX3_addClaim 41 = .ok (.getfield 47, 3) := by decide +kernel
theorem dX3_addClaim_44 : decode cX3_addClaim 44 = .ok (.iconst 1, 1) := by decide +kernel
theorem dX3_addClaim_45 : decode cX3_addClaim 45 = .ok (.iadd, 1) := by decide +kernel
theorem dX3_addClaim_46 : decode cX3_addClaim 46 = .ok (.putfield 47, 3) := by decide +kernel
theorem dX3_addClaim_49 : decode cX3_addClaim 49 = .ok (.return_, 1) := by decide +kernel
theorem dX3_evenGreatest_0 : decode cX3_evenGreatest 0 = .ok (.iload_n 3, 1) := by decide +kernel
theorem dX3_evenGreatest_1 : decode cX3_evenGreatest 1 = .ok (.ifCond .ge 12, 3) := by decide +kernel
theorem dX3_evenGreatest_4 : decode cX3_evenGreatest 4 = .ok (.aload_n 0, 1) := by decide +kernel
theorem dX3_evenGreatest_5 : decode cX3_evenGreatest 5 = .ok (.getfield 18, 3) := by decide +kernel
theorem dX3_evenGreatest_8 : decode cX3_evenGreatest 8 = .ok (.iload_n 1, 1) := by decide +kernel
theorem dX3_evenGreatest_9 : decode cX3_evenGreatest 9 = .ok (.iaload, 1) := by decide +kernel
theorem dX3_evenGreatest_10 : decode cX3_evenGreatest 10 = .ok (.goto 9, 3) := by decide +kernel
theorem dX3_evenGreatest_13 : decode cX3_evenGreatest 13 = .ok (.aload_n 0, 1) := by decide +kernel
theorem dX3_evenGreatest_14 : decode cX3_evenGreatest 14 = .ok (.getfield 21, 3) := by decide +kernel
theorem dX3_evenGreatest_17 : decode cX3_evenGreatest 17 = .ok (.iload_n 1, 1) := by decide +kernel
theorem dX3_evenGreatest_18 : decode cX3_evenGreatest 18 = .ok (.iaload, 1) := by decide +kernel
theorem dX3_evenGreatest_19 : decode cX3_evenGreatest 19 = .ok (.istore 4, 2) := by decide +kernel
theorem dX3_evenGreatest_21 : decode cX3_evenGreatest 21 = .ok (.aload_n 0, 1) := by decide +kernel
theorem dX3_evenGreatest_22 : decode cX3_evenGreatest 22 = .ok (.getfield 15, 3) := by decide +kernel
theorem dX3_evenGreatest_25 : decode cX3_evenGreatest 25 = .ok (.iload_n 1, 1) := by decide +kernel
theorem dX3_evenGreatest_26 : decode cX3_evenGreatest 26 = .ok (.iaload, 1) := by decide +kernel
theorem dX3_evenGreatest_27 : decode cX3_evenGreatest 27 = .ok (.iload_n 2, 1) := by decide +kernel
theorem dX3_evenGreatest_28 : decode cX3_evenGreatest 28 = .ok (.imul, 1) := by decide +kernel
theorem dX3_evenGreatest_29 : decode cX3_evenGreatest 29 = .ok (.iload 4, 2) := by decide +kernel
theorem dX3_evenGreatest_31 : decode cX3_evenGreatest 31 = .ok (.iload_n 3, 1) := by decide +kernel
theorem dX3_evenGreatest_32 : decode cX3_evenGreatest 32 = .ok (.imul, 1) := by decide +kernel
theorem dX3_evenGreatest_33 : decode cX3_evenGreatest 33 = .ok (.iadd, 1) := by decide +kernel
theorem dX3_evenGreatest_34 : decode cX3_evenGreatest 34 = .ok (.ireturn, 1) := by decide +kernel
theorem dX3_evenLeast_0 : decode cX3_evenLeast 0 = .ok (.iload_n 3, 1) := by decide +kernel
theorem dX3_evenLeast_1 : decode cX3_evenLeast 1 = .ok (.ifCond .ge 12, 3) := by decide +kernel
theorem dX3_evenLeast_4 : decode cX3_evenLeast 4 = .ok (.aload_n 0, 1) := by decide +kernel
theorem dX3_evenLeast_5 : decode cX3_evenLeast 5 = .ok (.getfield 21, 3) := by decide +kernel
theorem dX3_evenLeast_8 : decode cX3_evenLeast 8 = .ok (.iload_n 1, 1) := by decide +kernel
theorem dX3_evenLeast_9 : decode cX3_evenLeast 9 = .ok (.iaload, 1) := by decide +kernel
theorem dX3_evenLeast_10 : decode cX3_evenLeast 10 = .ok (.goto 9, 3) := by decide +kernel
theorem dX3_evenLeast_13 : decode cX3_evenLeast 13 = .ok (.aload_n 0, 1) := by decide +kernel
theorem dX3_evenLeast_14 : decode cX3_evenLeast 14 = .ok (.getfield 18, 3) := by decide +kernel
theorem dX3_evenLeast_17 : decode cX3_evenLeast 17 = .ok (.iload_n 1, 1) := by decide +kernel
theorem dX3_evenLeast_18 : decode cX3_evenLeast 18 = .ok (.iaload, 1) := by decide +kernel
theorem dX3_evenLeast_19 : decode cX3_evenLeast 19 = .ok (.istore 4, 2) := by decide +kernel
theorem dX3_evenLeast_21 : decode cX3_evenLeast 21 = .ok (.aload_n 0, 1) := by decide +kernel
theorem dX3_evenLeast_22 : decode cX3_evenLeast 22 = .ok (.getfield 9, 3) := by decide +kernel
theorem dX3_evenLeast_25 : decode cX3_evenLeast 25 = .ok (.iload_n 1, 1) := by decide +kernel
theorem dX3_evenLeast_26 : decode cX3_evenLeast 26 = .ok (.iaload, 1) := by decide +kernel
theorem dX3_evenLeast_27 : decode cX3_evenLeast 27 = .ok (.iload_n 2, 1) := by decide +kernel
theorem dX3_evenLeast_28 : decode cX3_evenLeast 28 = .ok (.imul, 1) := by decide +kernel
theorem dX3_evenLeast_29 : decode cX3_evenLeast 29 = .ok (.iload 4, 2) := by decide +kernel
theorem dX3_evenLeast_31 : decode cX3_evenLeast 31 = .ok (.iload_n 3, 1) := by decide +kernel
theorem dX3_evenLeast_32 : decode cX3_evenLeast 32 = .ok (.imul, 1) := by decide +kernel
theorem dX3_evenLeast_33 : decode cX3_evenLeast 33 = .ok (.iadd, 1) := by decide +kernel
theorem dX3_evenLeast_34 : decode cX3_evenLeast 34 = .ok (.ireturn, 1) := by decide +kernel
theorem dX4_init_0 : decode cX4_init 0 = .ok (.aload_n 0, 1) := by decide +kernel
theorem dX4_init_1 : decode cX4_init 1 = .ok (.invokespecial 3, 3) := by decide +kernel
theorem dX4_init_4 : decode cX4_init 4 = .ok (.aload_n 0, 1) := by decide +kernel
theorem dX4_init_5 : decode cX4_init 5 = .ok (.bipush 17, 2) := by decide +kernel
theorem dX4_init_7 : decode cX4_init 7 = .ok (.newarray .int, 2) := by decide +kernel
theorem dX4_init_9 : decode cX4_init 9 = .ok (.putfield 11, 3) := by decide +kernel
theorem dX4_init_12 : decode cX4_init 12 = .ok (.aload_n 0, 1) := by decide +kernel
theorem dX4_init_13 : decode cX4_init 13 = .ok (.bipush 17, 2) := by decide +kernel
theorem dX4_init_15 : decode cX4_init 15 = .ok (.newarray .int, 2) := by decide +kernel
theorem dX4_init_17 : decode cX4_init 17 = .ok (.putfield 17, 3) := by decide +kernel
theorem dX4_init_20 : decode cX4_init 20 = .ok (.aload_n 0, 1) := by decide +kernel
theorem dX4_init_21 : decode cX4_init 21 = .ok (.iconst (-1), 1) := by decide +kernel
theorem dX4_init_22 : decode cX4_init 22 = .ok (.putfield 20, 3) := by decide +kernel
theorem dX4_init_25 : decode cX4_init 25 = .ok (.aload_n 0, 1) := by decide +kernel
theorem dX4_init_26 : decode cX4_init 26 = .ok (.iconst (-1), 1) := by decide +kernel
theorem dX4_init_27 : decode cX4_init 27 = .ok (.putfield 24, 3) := by decide +kernel
theorem dX4_init_30 : decode cX4_init 30 = .ok (.aload_n 0, 1) := by decide +kernel
theorem dX4_init_31 : decode cX4_init 31 = .ok (.iconst (-1), 1) := by decide +kernel
theorem dX4_init_32 : decode cX4_init 32 = .ok (.putfield 27, 3) := by decide +kernel
theorem dX4_init_35 : decode cX4_init 35 = .ok (.return_, 1) := by decide +kernel
theorem dX4_leastWidening_0 : decode cX4_leastWidening 0 = .ok (.aload_n 1, 1) := by decide +kernel
theorem dX4_leastWidening_1 : decode cX4_leastWidening 1 = .ok (.invokevirtual 30, 3) := by decide +kernel
theorem dX4_leastWidening_4 : decode cX4_leastWidening 4 = .ok (.ifCond .ne 5, 3) := by decide +kernel
theorem dX4_leastWidening_7 : decode cX4_leastWidening 7 = .ok (.iconst 0, 1) := by decide +kernel
theorem dX4_leastWidening_8 : decode cX4_leastWidening 8 = .ok (.ireturn, 1) := by decide +kernel
theorem dX4_leastWidening_9 : decode cX4_leastWidening 9 = .ok (.iconst 0, 1) := by decide +kernel
theorem dX4_leastWidening_10 : decode cX4_leastWidening 10 = .ok (.istore_n 2, 1) := by decide +kernel
theorem dX4_leastWidening_11 : decode cX4_leastWidening 11 = .ok (.ldc 34, 2) := by decide +kernel
theorem dX4_leastWidening_13 : decode cX4_leastWidening 13 = .ok (.istore_n 3, 1) := by decide +kernel
theorem dX4_leastWidening_14 : decode cX4_leastWidening 14 = .ok (.iload_n 3, 1) := by decide +kernel
theorem dX4_leastWidening_15 : decode cX4_leastWidening 15 = .ok (.ifCond .le 32, 3) := by decide +kernel
theorem dX4_leastWidening_18 : decode cX4_leastWidening 18 = .ok (.aload_n 1, 1) := by decide +kernel
theorem dX4_leastWidening_19 : decode cX4_leastWidening 19 = .ok (.iload_n 2, 1) := by decide +kernel
theorem dX4_leastWidening_20 : decode cX4_leastWidening 20 = .ok (.iload_n 3, 1) := by decide +kernel
theorem dX4_leastWidening_21 : decode cX4_leastWidening 21 = .ok (.iadd, 1) := by decide +kernel
theorem dX4_leastWidening_22 : decode cX4_leastWidening 22 = .ok (.invokevirtual 35, 3) := by decide +kernel
theorem dX4_leastWidening_25 : decode cX4_leastWidening 25 = .ok (.iload_n 2, 1) := by decide +kernel
theorem dX4_leastWidening_26 : decode cX4_leastWidening 26 = .ok (.aload_n 1, 1) := by decide +kernel
theorem dX4_leastWidening_27 : decode cX4_leastWidening 27 = .ok (.invokevirtual 30, 3) := by decide +kernel
theorem dX4_leastWidening_30 : decode cX4_leastWidening 30 = .ok (.ifCond .eq 7, 3) := by decide +kernel
theorem dX4_leastWidening_33 : decode cX4_leastWidening 33 = .ok (.iload_n 3, 1) := by decide +kernel
theorem dX4_leastWidening_34 : decode cX4_leastWidening 34 = .ok (.goto 4, 3) := by decide +kernel
theorem dX4_leastWidening_37 : decode cX4_leastWidening 37 = .ok (.iconst 0, 1) := by decide +kernel
theorem dX4_leastWidening_38 : decode cX4_leastWidening 38 = .ok (.iadd, 1) := by decide +kernel
theorem dX4_leastWidening_39 : decode cX4_leastWidening 39 = .ok (.istore_n 2, 1) := by decide +kernel
theorem dX4_leastWidening_40 : decode cX4_leastWidening 40 = .ok (.iload_n 3, 1) := by decide +kernel
theorem dX4_leastWidening_41 : decode cX4_leastWidening 41 = .ok (.iconst 2, 1) := by decide +kernel
theorem dX4_leastWidening_42 : decode cX4_leastWidening 42 = .ok (.idiv, 1) := by decide +kernel
theorem dX4_leastWidening_43 : decode cX4_leastWidening 43 = .ok (.istore_n 3, 1) := by decide +kernel
theorem dX4_leastWidening_44 : decode cX4_leastWidening 44 = .ok (.goto (-30), 3) := by decide +kernel
theorem dX4_leastWidening_47 : decode cX4_leastWidening 47 = .ok (.iload_n 2, 1) := by decide +kernel
theorem dX4_leastWidening_48 : decode cX4_leastWidening 48 = .ok (.iconst 1, 1) := by decide +kernel
theorem dX4_leastWidening_49 : decode cX4_leastWidening 49 = .ok (.iadd, 1) := by decide +kernel
theorem dX4_leastWidening_50 : decode cX4_leastWidening 50 = .ok (.ireturn, 1) := by decide +kernel
theorem dX4_listsThatEndIt_0 : decode cX4_listsThatEndIt 0 = .ok (.iconst 0, 1) := by decide +kernel
theorem dX4_listsThatEndIt_1 : decode cX4_listsThatEndIt 1 = .ok (.istore_n 2, 1) := by decide +kernel
theorem dX4_listsThatEndIt_2 : decode cX4_listsThatEndIt 2 = .ok (.iconst 0, 1) := by decide +kernel
theorem dX4_listsThatEndIt_3 : decode cX4_listsThatEndIt 3 = .ok (.istore_n 3, 1) := by decide +kernel
theorem dX4_listsThatEndIt_4 : decode cX4_listsThatEndIt 4 = .ok (.iload_n 3, 1) := by decide +kernel
theorem dX4_listsThatEndIt_5 : decode cX4_listsThatEndIt 5 = .ok (.bipush 6, 2) := by decide +kernel
theorem dX4_listsThatEndIt_7 : decode cX4_listsThatEndIt 7 = .ok (.if_icmp .ge 33, 3) := by decide +kernel
theorem dX4_listsThatEndIt_10 : decode cX4_listsThatEndIt 10 = .ok (.aload_n 1, 1) := by decide +kernel
theorem dX4_listsThatEndIt_11 : decode cX4_listsThatEndIt 11 = .ok (.iload_n 3, 1) := by decide +kernel
theorem dX4_listsThatEndIt_12 : decode cX4_listsThatEndIt 12 = .ok (.iconst (-1), 1) := by decide +kernel
theorem dX4_listsThatEndIt_13 : decode cX4_listsThatEndIt 13 = .ok (.iconst (-1), 1) := by decide +kernel
theorem dX4_listsThatEndIt_14 : decode cX4_listsThatEndIt 14 = .ok (.invokevirtual 39, 3) := by decide +kernel
theorem dX4_listsThatEndIt_17 : decode cX4_listsThatEndIt 17 = .ok (.iload_n 2, 1) := by decide +kernel
theorem dX4_listsThatEndIt_18 : decode cX4_listsThatEndIt 18 = .ok (.aload_n 1, 1) := by decide +kernel
theorem dX4_listsThatEndIt_19 : decode cX4_listsThatEndIt 19 = .ok (.invokevirtual 30, 3) := by decide +kernel
theorem dX4_listsThatEndIt_22 : decode cX4_listsThatEndIt 22 = .ok (.ifCond .eq 7, 3) := by decide +kernel
theorem dX4_listsThatEndIt_25 : decode cX4_listsThatEndIt 25 = .ok (.iconst 0, 1) := by decide +kernel
theorem dX4_listsThatEndIt_26 : decode cX4_listsThatEndIt 26 = .ok (.goto 6, 3) := by decide +kernel
theorem dX4_listsThatEndIt_29 : decode cX4_listsThatEndIt 29 = .ok (.iconst 1, 1) := by decide +kernel
theorem dX4_listsThatEndIt_30 : decode cX4_listsThatEndIt 30 = .ok (.iload_n 3, 1) := by decide +kernel
theorem dX4_listsThatEndIt_31 : decode cX4_listsThatEndIt 31 = .ok (.ishl, 1) := by decide +kernel
theorem dX4_listsThatEndIt_32 : decode cX4_listsThatEndIt 32 = .ok (.ior, 1) := by decide +kernel
theorem dX4_listsThatEndIt_33 : decode cX4_listsThatEndIt 33 = .ok (.istore_n 2, 1) := by decide +kernel
theorem dX4_listsThatEndIt_34 : decode cX4_listsThatEndIt 34 = .ok (.iinc 3 1, 3) := by decide +kernel
theorem dX4_listsThatEndIt_37 : decode cX4_listsThatEndIt 37 = .ok (.goto (-33), 3) := by decide +kernel
theorem dX4_listsThatEndIt_40 : decode cX4_listsThatEndIt 40 = .ok (.iload_n 2, 1) := by decide +kernel
theorem dX4_listsThatEndIt_41 : decode cX4_listsThatEndIt 41 = .ok (.ireturn, 1) := by decide +kernel
theorem dX4_seekFewest_0 : decode cX4_seekFewest 0 = .ok (.aload_n 0, 1) := by decide +kernel
theorem dX4_seekFewest_1 : decode cX4_seekFewest 1 = .ok (.iconst (-1), 1) := by decide +kernel
theorem dX4_seekFewest_2 : decode cX4_seekFewest 2 = .ok (.putfield 20, 3) := by decide +kernel
theorem dX4_seekFewest_5 : decode cX4_seekFewest 5 = .ok (.aload_n 0, 1) := by decide +kernel
theorem dX4_seekFewest_6 : decode cX4_seekFewest 6 = .ok (.iconst (-1), 1) := by decide +kernel
theorem dX4_seekFewest_7 : decode cX4_seekFewest 7 = .ok (.putfield 24, 3) := by decide +kernel
theorem dX4_seekFewest_10 : decode cX4_seekFewest 10 = .ok (.aload_n 0, 1) := by decide +kernel
theorem dX4_seekFewest_11 : decode cX4_seekFewest 11 = .ok (.iconst (-1), 1) := by decide +kernel
theorem dX4_seekFewest_12 : decode cX4_seekFewest 12 = .ok (.putfield 27, 3) := by decide +kernel
theorem dX4_seekFewest_15 : decode cX4_seekFewest 15 = .ok (.aload_n 1, 1) := by decide +kernel
theorem dX4_seekFewest_16 : decode cX4_seekFewest 16 = .ok (.aload_n 0, 1) := by decide +kernel
theorem dX4_seekFewest_17 : decode cX4_seekFewest 17 = .ok (.getfield 11, 3) := by decide +kernel
theorem dX4_seekFewest_20 : decode cX4_seekFewest 20 = .ok (.invokevirtual 43, 3) := by decide +kernel
theorem dX4_seekFewest_23 : decode cX4_seekFewest 23 = .ok (.istore_n 2, 1) := by decide +kernel
theorem dX4_seekFewest_24 : decode cX4_seekFewest 24 = .ok (.iconst 0, 1) := by decide +kernel
theorem dX4_seekFewest_25 : decode cX4_seekFewest 25 = .ok (.istore_n 3, 1) := by decide +kernel
theorem dX4_seekFewest_26 : decode cX4_seekFewest 26 = .ok (.iload_n 3, 1) := by decide +kernel
theorem dX4_seekFewest_27 : decode cX4_seekFewest 27 = .ok (.iload_n 2, 1) := by decide +kernel
theorem dX4_seekFewest_28 : decode cX4_seekFewest 28 = .ok (.if_icmp .ge 64, 3) := by decide +kernel
theorem dX4_seekFewest_31 : decode cX4_seekFewest 31 = .ok (.aload_n 1, 1) := by decide +kernel
theorem dX4_seekFewest_32 : decode cX4_seekFewest 32 = .ok (.iconst (-1), 1) := by decide +kernel
theorem dX4_seekFewest_33 : decode cX4_seekFewest 33 = .ok (.aload_n 0, 1) := by decide +kernel
theorem dX4_seekFewest_34 : decode cX4_seekFewest 34 = .ok (.getfield 11, 3) := by decide +kernel
theorem dX4_seekFewest_37 : decode cX4_seekFewest 37 = .ok (.iload_n 3, 1) := by decide +kernel
theorem dX4_seekFewest_38 : decode cX4_seekFewest 38 = .ok (.iaload, 1) := by decide +kernel
theorem dX4_seekFewest_39 : decode cX4_seekFewest 39 = .ok (.iconst (-1), 1) := by decide +kernel
theorem dX4_seekFewest_40 : decode cX4_seekFewest 40 = .ok (.invokevirtual 39, 3) := by decide +kernel
theorem dX4_seekFewest_43 : decode cX4_seekFewest 43 = .ok (.aload_n 0, 1) := by decide +kernel
theorem dX4_seekFewest_44 : decode cX4_seekFewest 44 = .ok (.getfield 24, 3) := by decide +kernel
theorem dX4_seekFewest_47 : decode cX4_seekFewest 47 = .ok (.iconst (-1), 1) := by decide +kernel
theorem dX4_seekFewest_48 : decode cX4_seekFewest 48 = .ok (.if_icmp .eq 16, 3) := by decide +kernel
theorem dX4_seekFewest_51 : decode cX4_seekFewest 51 = .ok (.aload_n 0, 1) := by decide +kernel
theorem dX4_seekFewest_52 : decode cX4_seekFewest 52 = .ok (.getfield 11, 3) := by decide +kernel
theorem dX4_seekFewest_55 : decode cX4_seekFewest 55 = .ok (.iload_n 3, 1) := by decide +kernel
theorem dX4_seekFewest_56 : decode cX4_seekFewest 56 = .ok (.iaload, 1) := by decide +kernel
theorem dX4_seekFewest_57 : decode cX4_seekFewest 57 = .ok (.aload_n 0, 1) := by decide +kernel
theorem dX4_seekFewest_58 : decode cX4_seekFewest 58 = .ok (.getfield 24, 3) := by decide +kernel
theorem dX4_seekFewest_61 : decode cX4_seekFewest 61 = .ok (.if_icmp .ge 25, 3) := by decide +kernel
theorem dX4_seekFewest_64 : decode cX4_seekFewest 64 = .ok (.aload_n 1, 1) := by decide +kernel
theorem dX4_seekFewest_65 : decode cX4_seekFewest 65 = .ok (.invokevirtual 30, 3) := by decide +kernel
theorem dX4_seekFewest_68 : decode cX4_seekFewest 68 = .ok (.ifCond .ne 18, 3) := by decide +kernel
theorem dX4_seekFewest_71 : decode cX4_seekFewest 71 = .ok (.aload_n 0, 1) := by decide +kernel
theorem dX4_seekFewest_72 : decode cX4_seekFewest 72 = .ok (.iconst 1, 1) := by decide +kernel
theorem dX4_seekFewest_73 : decode cX4_seekFewest 73 = .ok (.putfield 20, 3) := by decide +kernel
theorem dX4_seekFewest_76 : decode cX4_seekFewest 76 = .ok (.aload_n 0, 1) := by decide +kernel
theorem dX4_seekFewest_77 : decode cX4_seekFewest 77 = .ok (.aload_n 0, 1) := by decide +kernel
theorem dX4_seekFewest_78 : decode cX4_seekFewest 78 = .ok (.getfield 11, 3) := by decide +kernel
theorem dX4_seekFewest_81 : decode cX4_seekFewest 81 = .ok (.iload_n 3, 1) := by decide +kernel
theorem dX4_seekFewest_82 : decode cX4_seekFewest 82 = .ok (.iaload, 1) := by decide +kernel
theorem dX4_seekFewest_83 : decode cX4_seekFewest 83 = .ok (.putfield 24, 3) := by decide +kernel
theorem dX4_seekFewest_86 : decode cX4_seekFewest 86 = .ok (.iinc 3 1, 3) := by decide +kernel
theorem dX4_seekFewest_89 : decode cX4_seekFewest 89 = .ok (.goto (-63), 3) := by decide +kernel
theorem dX4_seekFewest_92 : decode cX4_seekFewest 92 = .ok (.iconst 0, 1) := by decide +kernel
theorem dX4_seekFewest_93 : decode cX4_seekFewest 93 = .ok (.istore_n 3, 1) := by decide +kernel
theorem dX4_seekFewest_94 : decode cX4_seekFewest 94 = .ok (.iload_n 3, 1) := by decide +kernel
theorem dX4_seekFewest_95 : decode cX4_seekFewest 95 = .ok (.iload_n 2, 1) := by decide +kernel
theorem dX4_seekFewest_96 : decode cX4_seekFewest 96 = .ok (.if_icmp .ge 28, 3) := by decide +kernel
theorem dX4_seekFewest_99 : decode cX4_seekFewest 99 = .ok (.aload_n 0, 1) := by decide +kernel
theorem dX4_seekFewest_100 : decode cX4_seekFewest 100 = .ok (.getfield 20, 3) := by decide +kernel
theorem dX4_seekFewest_103 : decode cX4_seekFewest 103 = .ok (.iconst 1, 1) := by decide +kernel
theorem dX4_seekFewest_104 : decode cX4_seekFewest 104 = .ok (.if_icmp .eq 20, 3) := by decide +kernel
theorem dX4_seekFewest_107 : decode cX4_seekFewest 107 = .ok (.aload_n 0, 1) := by decide +kernel
theorem dX4_seekFewest_108 : decode cX4_seekFewest 108 = .ok (.aload_n 1, 1) := by decide +kernel
theorem dX4_seekFewest_109 : decode cX4_seekFewest 109 = .ok (.aload_n 0, 1) := by decide +kernel
theorem dX4_seekFewest_110 : decode cX4_seekFewest 110 = .ok (.getfield 11, 3) := by decide +kernel
theorem dX4_seekFewest_113 : decode cX4_seekFewest 113 = .ok (.iload_n 3, 1) := by decide +kernel
theorem dX4_seekFewest_114 : decode cX4_seekFewest 114 = .ok (.iaload, 1) := by decide +kernel
theorem dX4_seekFewest_115 : decode cX4_seekFewest 115 = .ok (.invokevirtual 47, 3) := by decide +kernel
theorem dX4_seekFewest_118 : decode cX4_seekFewest 118 = .ok (.iinc 3 1, 3) := by decide +kernel
theorem dX4_seekFewest_121 : decode cX4_seekFewest 121 = .ok (.goto (-27), 3) := by decide +kernel
theorem dX4_seekFewest_124 : decode cX4_seekFewest 124 = .ok (.return_, 1) := by decide +kernel
theorem dX4_seekPairs_0 : decode cX4_seekPairs 0 = .ok (.aload_n 1, 1) := by decide +kernel
theorem dX4_seekPairs_1 : decode cX4_seekPairs 1 = .ok (.iconst (-1), 1) := by decide +kernel
theorem dX4_seekPairs_2 : decode cX4_seekPairs 2 = .ok (.iload_n 2, 1) := by decide +kernel
theorem dX4_seekPairs_3 : decode cX4_seekPairs 3 = .ok (.iconst (-1), 1) := by decide +kernel
theorem dX4_seekPairs_4 : decode cX4_seekPairs 4 = .ok (.invokevirtual 39, 3) := by decide +kernel
theorem dX4_seekPairs_7 : decode cX4_seekPairs 7 = .ok (.aload_n 1, 1) := by decide +kernel
theorem dX4_seekPairs_8 : decode cX4_seekPairs 8 = .ok (.aload_n 0, 1) := by decide +kernel
theorem dX4_seekPairs_9 : decode cX4_seekPairs 9 = .ok (.getfield 17, 3) := by decide +kernel
theorem dX4_seekPairs_12 : decode cX4_seekPairs 12 = .ok (.invokevirtual 43, 3) := by decide +kernel
theorem dX4_seekPairs_15 : decode cX4_seekPairs 15 = .ok (.istore_n 3, 1) := by decide +kernel
theorem dX4_seekPairs_16 : decode cX4_seekPairs 16 = .ok (.iconst 0, 1) := by decide +kernel
theorem dX4_seekPairs_17 : decode cX4_seekPairs 17 = .ok (.istore 4, 2) := by decide +kernel
theorem dX4_seekPairs_19 : decode cX4_seekPairs 19 = .ok (.iload 4, 2) := by decide +kernel
theorem dX4_seekPairs_21 : decode cX4_seekPairs 21 = .ok (.iload_n 3, 1) := by decide +kernel
theorem dX4_seekPairs_22 : decode cX4_seekPairs 22 = .ok (.if_icmp .ge 79, 3) := by decide +kernel
theorem dX4_seekPairs_25 : decode cX4_seekPairs 25 = .ok (.iload_n 2, 1) := by decide +kernel
theorem dX4_seekPairs_26 : decode cX4_seekPairs 26 = .ok (.aload_n 0, 1) := by decide +kernel
theorem dX4_seekPairs_27 : decode cX4_seekPairs 27 = .ok (.getfield 17, 3) := by decide +kernel
theorem dX4_seekPairs_30 : decode cX4_seekPairs 30 = .ok (.iload 4, 2) := by decide +kernel
theorem dX4_seekPairs_32 : decode cX4_seekPairs 32 = .ok (.iaload, 1) := by decide +kernel
theorem dX4_seekPairs_33 : decode cX4_seekPairs 33 = .ok (.invokestatic 51, 3) := by decide +kernel
theorem dX4_seekPairs_36 : decode cX4_seekPairs 36 = .ok (.istore 5, 2) := by decide +kernel
theorem dX4_seekPairs_38 : decode cX4_seekPairs 38 = .ok (.iload_n 2, 1) := by decide +kernel
theorem dX4_seekPairs_39 : decode cX4_seekPairs 39 = .ok (.aload_n 0, 1) := by decide +kernel
theorem dX4_seekPairs_40 : decode cX4_seekPairs 40 = .ok (.getfield 17, 3) := by decide +kernel
theorem dX4_seekPairs_43 : decode cX4_seekPairs 43 = .ok (.iload 4, 2) := by decide +kernel
theorem dX4_seekPairs_45 : decode cX4_seekPairs 45 = .ok (.iaload, 1) := by decide +kernel
theorem dX4_seekPairs_46 : decode cX4_seekPairs 46 = .ok (.invokestatic 57, 3) := by decide +kernel
theorem dX4_seekPairs_49 : decode cX4_seekPairs 49 = .ok (.istore 6, 2) := by decide +kernel
theorem dX4_seekPairs_51 : decode cX4_seekPairs 51 = .ok (.aload_n 1, 1) := by decide +kernel
theorem dX4_seekPairs_52 : decode cX4_seekPairs 52 = .ok (.iconst (-1), 1) := by decide +kernel
theorem dX4_seekPairs_53 : decode cX4_seekPairs 53 = .ok (.iload 5, 2) := by decide +kernel
theorem dX4_seekPairs_55 : decode cX4_seekPairs 55 = .ok (.iload 6, 2) := by decide +kernel
theorem dX4_seekPairs_57 : decode cX4_seekPairs 57 = .ok (.invokevirtual 39, 3) := by decide +kernel
theorem dX4_seekPairs_60 : decode cX4_seekPairs 60 = .ok (.aload_n 0, 1) := by decide +kernel
theorem dX4_seekPairs_61 : decode cX4_seekPairs 61 = .ok (.iload 5, 2) := by decide +kernel
theorem dX4_seekPairs_63 : decode cX4_seekPairs 63 = .ok (.iload 6, 2) := by decide +kernel
theorem dX4_seekPairs_65 : decode cX4_seekPairs 65 = .ok (.invokevirtual 60, 3) := by decide +kernel
theorem dX4_seekPairs_68 : decode cX4_seekPairs 68 = .ok (.ifCond .eq 27, 3) := by decide +kernel
theorem dX4_seekPairs_71 : decode cX4_seekPairs 71 = .ok (.aload_n 1, 1) := by decide +kernel
theorem dX4_seekPairs_72 : decode cX4_seekPairs 72 = .ok (.invokevirtual 30, 3) := by decide +kernel
theorem dX4_seekPairs_75 : decode cX4_seekPairs 75 = .ok (.ifCond .ne 20, 3) := by decide +kernel
theorem dX4_seekPairs_78 : decode cX4_seekPairs 78 = .ok (.aload_n 0, 1) := by decide +kernel
theorem dX4_seekPairs_79 : decode cX4_seekPairs 79 = .ok (.iconst 2, 1) := by decide +kernel
theorem dX4_seekPairs_80 : decode cX4_seekPairs 80 = .ok (.putfield 20, 3) := by decide +kernel
theorem dX4_seekPairs_83 : decode cX4_seekPairs 83 = .ok (.aload_n 0, 1) := by decide +kernel
theorem dX4_seekPairs_84 : decode cX4_seekPairs 84 = .ok (.iload 5, 2) := by decide +kernel
theorem dX4_seekPairs_86 : decode cX4_seekPairs 86 = .ok (.putfield 24, 3) := by decide +kernel
theorem dX4_seekPairs_89 : decode cX4_seekPairs 89 = .ok (.aload_n 0, 1) := by decide +kernel
theorem dX4_seekPairs_90 : decode cX4_seekPairs 90 = .ok (.iload 6, 2) := by decide +kernel
theorem dX4_seekPairs_92 : decode cX4_seekPairs 92 = .ok (.putfield 27, 3) := by decide +kernel
theorem dX4_seekPairs_95 : decode cX4_seekPairs 95 = .ok (.iinc 4 1, 3) := by decide +kernel
theorem dX4_seekPairs_98 : decode cX4_seekPairs 98 = .ok (.goto (-79), 3) := by decide +kernel
theorem dX4_seekPairs_101 : decode cX4_seekPairs 101 = .ok (.return_, 1) := by decide +kernel
theorem dX4_isAhead_0 : decode cX4_isAhead 0 = .ok (.aload_n 0, 1) := by decide +kernel
theorem dX4_isAhead_1 : decode cX4_isAhead 1 = .ok (.getfield 24, 3) := by decide +kernel
theorem dX4_isAhead_4 : decode cX4_isAhead 4 = .ok (.iconst (-1), 1) := by decide +kernel
theorem dX4_isAhead_5 : decode cX4_isAhead 5 = .ok (.if_icmp .eq 27, 3) := by decide +kernel
theorem dX4_isAhead_8 : decode cX4_isAhead 8 = .ok (.iload_n 1, 1) := by decide +kernel
theorem dX4_isAhead_9 : decode cX4_isAhead 9 = .ok (.aload_n 0, 1) := by decide +kernel
theorem dX4_isAhead_10 : decode cX4_isAhead 10 = .ok (.getfield 24, 3) := by decide +kernel
theorem dX4_isAhead_13 : decode cX4_isAhead 13 = .ok (.if_icmp .lt 19, 3) := by decide +kernel
theorem dX4_isAhead_16 : decode cX4_isAhead 16 = .ok (.iload_n 1, 1) := by decide +kernel
theorem dX4_isAhead_17 : decode cX4_isAhead 17 = .ok (.aload_n 0, 1) := by decide +kernel
theorem dX4_isAhead_18 : decode cX4_isAhead 18 = .ok (.getfield 24, 3) := by decide +kernel
theorem dX4_isAhead_21 : decode cX4_isAhead 21 = .ok (.if_icmp .ne 15, 3) := by decide +kernel
theorem dX4_isAhead_24 : decode cX4_isAhead 24 = .ok (.iload_n 2, 1) := by decide +kernel
theorem dX4_isAhead_25 : decode cX4_isAhead 25 = .ok (.aload_n 0, 1) := by decide +kernel
theorem dX4_isAhead_26 : decode cX4_isAhead 26 = .ok (.getfield 27, 3) := by decide +kernel
theorem dX4_isAhead_29 : decode cX4_isAhead 29 = .ok (.if_icmp .ge 7, 3) := by decide +kernel
theorem dX4_isAhead_32 : decode cX4_isAhead 32 = .ok (.iconst 1, 1) := by decide +kernel
theorem dX4_isAhead_33 : decode cX4_isAhead 33 = .ok (.goto 4, 3) := by decide +kernel
theorem dX4_isAhead_36 : decode cX4_isAhead 36 = .ok (.iconst 0, 1) := by decide +kernel
theorem dX4_isAhead_37 : decode cX4_isAhead 37 = .ok (.ireturn, 1) := by decide +kernel
theorem dX5_init_0 : decode cX5_init 0 = .ok (.aload_n 0, 1) := by decide +kernel
theorem dX5_init_1 : decode cX5_init 1 = .ok (.invokespecial 3, 3) := by decide +kernel
theorem dX5_init_4 : decode cX5_init 4 = .ok (.aload_n 0, 1) := by decide +kernel
theorem dX5_init_5 : decode cX5_init 5 = .ok (.bipush 80, 2) := by decide +kernel
theorem dX5_init_7 : decode cX5_init 7 = .ok (.newarray .int, 2) := by decide +kernel
theorem dX5_init_9 : decode cX5_init 9 = .ok (.putfield 9, 3) := by decide +kernel
theorem dX5_init_12 : decode cX5_init 12 = .ok (.aload_n 0, 1) := by decide +kernel
theorem dX5_init_13 : decode cX5_init 13 = .ok (.bipush 80, 2) := by decide +kernel
theorem dX5_init_15 : decode cX5_init 15 = .ok (.newarray .int, 2) := by decide +kernel
theorem dX5_init_17 : decode cX5_init 17 = .ok (.putfield 15, 3) := by decide +kernel
theorem dX5_init_20 : decode cX5_init 20 = .ok (.aload_n 0, 1) := by decide +kernel
theorem dX5_init_21 : decode cX5_init 21 = .ok (.bipush 80, 2) := by decide +kernel
theorem dX5_init_23 : decode cX5_init 23 = .ok (.newarray .int, 2) := by decide +kernel
theorem dX5_init_25 : decode cX5_init 25 = .ok (.putfield 18, 3) := by decide +kernel
theorem dX5_init_28 : decode cX5_init 28 = .ok (.aload_n 0, 1) := by decide +kernel
theorem dX5_init_29 : decode cX5_init 29 = .ok (.bipush 80, 2) := by decide +kernel
theorem dX5_init_31 : decode cX5_init 31 = .ok (.newarray .int, 2) := by decide +kernel
theorem dX5_init_33 : decode cX5_init 33 = .ok (.putfield 21, 3) := by decide +kernel
theorem dX5_init_36 : decode cX5_init 36 = .ok (.aload_n 0, 1) := by decide +kernel
theorem dX5_init_37 : decode cX5_init 37 = .ok (.bipush 80, 2) := by decide +kernel
theorem dX5_init_39 : decode cX5_init 39 = .ok (.newarray .int, 2) := by decide +kernel
theorem dX5_init_41 : decode cX5_init 41 = .ok (.putfield 24, 3) := by decide +kernel
theorem dX5_init_44 : decode cX5_init 44 = .ok (.aload_n 0, 1) := by decide +kernel
theorem dX5_init_45 : decode cX5_init 45 = .ok (.bipush 80, 2) := by decide +kernel
theorem dX5_init_47 : decode cX5_init 47 = .ok (.newarray .int, 2) := by decide +kernel
theorem dX5_init_49 : decode cX5_init 49 = .ok (.putfield 27, 3) := by decide +kernel
theorem dX5_init_52 : decode cX5_init 52 = .ok (.aload_n 0, 1) := by decide +kernel
theorem dX5_init_53 : decode cX5_init 53 = .ok (.bipush 80, 2) := by decide +kernel
theorem dX5_init_55 : decode cX5_init 55 = .ok (.newarray .int, 2) := by decide +kernel
theorem dX5_init_57 : decode cX5_init 57 = .ok (.putfield 30, 3) := by decide +kernel
theorem dX5_init_60 : decode cX5_init 60 = .ok (.aload_n 0, 1) := by decide +kernel
theorem dX5_init_61 : decode cX5_init 61 = .ok (.bipush 80, 2) := by decide +kernel
theorem dX5_init_63 : decode cX5_init 63 = .ok (.newarray .int, 2) := by decide +kernel
theorem dX5_init_65 : decode cX5_init 65 = .ok (.putfield 33, 3) := by decide +kernel
theorem dX5_init_68 : decode cX5_init 68 = .ok (.aload_n 0, 1) := by decide +kernel
theorem dX5_init_69 : decode cX5_init 69 = .ok (.bipush 80, 2) := by decide +kernel
theorem dX5_init_71 : decode cX5_init 71 = .ok (.newarray .boolean, 2) := by decide +kernel
theorem dX5_init_73 : decode cX5_init 73 = .ok (.putfield 36, 3) := by decide +kernel
theorem dX5_init_76 : decode cX5_init 76 = .ok (.aload_n 0, 1) := by decide +kernel
theorem dX5_init_77 : decode cX5_init 77 = .ok (.bipush 80, 2) := by decide +kernel
theorem dX5_init_79 : decode cX5_init 79 = .ok (.newarray .boolean, 2) := by decide +kernel
theorem dX5_init_81 : decode cX5_init 81 = .ok (.putfield 40, 3) := by decide +kernel
theorem dX5_init_84 : decode cX5_init 84 = .ok (.aload_n 0, 1) := by decide +kernel
theorem dX5_init_85 : decode cX5_init 85 = .ok (.bipush 80, 2) := by decide +kernel
theorem dX5_init_87 : decode cX5_init 87 = .ok (.newarray .int, 2) := by decide +kernel
theorem dX5_init_89 : decode cX5_init 89 = .ok (.putfield 43, 3) := by decide +kernel
theorem dX5_init_92 : decode cX5_init 92 = .ok (.aload_n 0, 1) := by decide +kernel
theorem dX5_init_93 : decode cX5_init 93 = .ok (.iconst 0, 1) := by decide +kernel
theorem dX5_init_94 : decode cX5_init 94 = .ok (.putfield 46, 3) := by decide +kernel
theorem dX5_init_97 : decode cX5_init 97 = .ok (.aload_n 0, 1) := by decide +kernel
theorem dX5_init_98 : decode cX5_init 98 = .ok (.bipush 10, 2) := by decide +kernel
theorem dX5_init_100 : decode cX5_init 100 = .ok (.newarray .int, 2) := by decide +kernel
theorem dX5_init_102 : decode cX5_init 102 = .ok (.putfield 50, 3) := by decide +kernel
theorem dX5_init_105 : decode cX5_init 105 = .ok (.aload_n 0, 1) := by decide +kernel
theorem dX5_init_106 : decode cX5_init 106 = .ok (.iconst 0, 1) := by decide +kernel
theorem dX5_init_107 : decode cX5_init 107 = .ok (.putfield 53, 3) := by decide +kernel
theorem dX5_init_110 : decode cX5_init 110 = .ok (.return_, 1) := by decide +kernel
theorem dX5_isFull_0 : decode cX5_isFull 0 = .ok (.aload_n 0, 1) := by decide +kernel
theorem dX5_isFull_1 : decode cX5_isFull 1 = .ok (.getfield 53, 3) := by decide +kernel
theorem dX5_isFull_4 : decode cX5_isFull 4 = .ok (.bipush 80, 2) := by decide +kernel
theorem dX5_isFull_6 : decode cX5_isFull 6 = .ok (.if_icmp .lt 7, 3) := by decide +kernel
theorem dX5_isFull_9 : decode cX5_isFull 9 = .ok (.iconst 1, 1) := by decide +kernel
theorem dX5_isFull_10 : decode cX5_isFull 10 = .ok (.goto 4, 3) := by decide +kernel
theorem dX5_isFull_13 : decode cX5_isFull 13 = .ok (.iconst 0, 1) := by decide +kernel
theorem dX5_isFull_14 : decode cX5_isFull 14 = .ok (.ireturn, 1) := by decide +kernel
theorem dX5_has_0 : decode cX5_has 0 = .ok (.iload_n 1, 1) := by decide +kernel
theorem dX5_has_1 : decode cX5_has 1 = .ok (.ifCond .lt 15, 3) := by decide +kernel
theorem dX5_has_4 : decode cX5_has 4 = .ok (.iload_n 1, 1) := by decide +kernel
theorem dX5_has_5 : decode cX5_has 5 = .ok (.aload_n 0, 1) := by decide +kernel
theorem dX5_has_6 : decode cX5_has 6 = .ok (.getfield 53, 3) := by decide +kernel
theorem dX5_has_9 : decode cX5_has 9 = .ok (.if_icmp .ge 7, 3) := by decide +kernel
theorem dX5_has_12 : decode cX5_has 12 = .ok (.iconst 1, 1) := by decide +kernel
theorem dX5_has_13 : decode cX5_has 13 = .ok (.goto 4, 3) := by decide +kernel
theorem dX5_has_16 : decode cX5_has 16 = .ok (.iconst 0, 1) := by decide +kernel
theorem dX5_has_17 : decode cX5_has 17 = .ok (.ireturn, 1) := by decide +kernel
theorem dX5_isInNet_0 : decode cX5_isInNet 0 = .ok (.aload_n 0, 1) := by decide +kernel
theorem dX5_isInNet_1 : decode cX5_isInNet 1 = .ok (.getfield 40, 3) := by decide +kernel
theorem dX5_isInNet_4 : decode cX5_isInNet 4 = .ok (.iload_n 1, 1) := by decide +kernel
theorem dX5_isInNet_5 : decode cX5_isInNet 5 = .ok (.baload, 1) := by decide +kernel
theorem dX5_isInNet_6 : decode cX5_isInNet 6 = .ok (.ifCond .ne 16, 3) := by decide +kernel
theorem dX5_isInNet_9 : decode cX5_isInNet 9 = .ok (.aload_n 0, 1) := by decide +kernel
theorem dX5_isInNet_10 : decode cX5_isInNet 10 = .ok (.getfield 36, 3) := by decide +kernel
theorem dX5_isInNet_13 : decode cX5_isInNet 13 = .ok (.iload_n 1, 1) := by decide +kernel
theorem dX5_isInNet_14 : decode cX5_isInNet 14 = .ok (.baload, 1) := by decide +kernel
theorem dX5_isInNet_15 : decode cX5_isInNet 15 = .ok (.ifCond .ne 7, 3) := by decide +kernel
theorem dX5_isInNet_18 : decode cX5_isInNet 18 = .ok (.iconst 1, 1) := by decide +kernel
theorem dX5_isInNet_19 : decode cX5_isInNet 19 = .ok (.goto 4, 3) := by decide +kernel
theorem dX5_isInNet_22 : decode cX5_isInNet 22 = .ok (.iconst 0, 1) := by decide +kernel
theorem dX5_isInNet_23 : decode cX5_isInNet 23 = .ok (.ireturn, 1) := by decide +kernel
theorem dX5_add_0 : decode cX5_add 0 = .ok (.aload_n 0, 1) := by decide +kernel
theorem dX5_add_1 : decode cX5_add 1 = .ok (.getfield 53, 3) := by decide +kernel
theorem dX5_add_4 : decode cX5_add 4 = .ok (.istore 7, 2) := by decide +kernel
theorem dX5_add_6 : decode cX5_add 6 = .ok (.iload 7, 2) := by decide +kernel
theorem dX5_add_8 : decode cX5_add 8 = .ok (.bipush 80, 2) := by decide +kernel
theorem dX5_add_10 : decode cX5_add 10 = .ok (.if_icmp .lt 6, 3) := by decide +kernel
theorem dX5_add_13 : decode cX5_add 13 = .ok (.ldc 56, 2) := by decide +kernel
theorem dX5_add_15 : decode cX5_add 15 = .ok (.ireturn, 1) := by decide +kernel
theorem dX5_add_16 : decode cX5_add 16 = .ok (.aload_n 0, 1) := by decide +kernel
theorem dX5_add_17 : decode cX5_add 17 = .ok (.getfield 9, 3) := by decide +kernel
theorem dX5_add_20 : decode cX5_add 20 = .ok (.iload 7, 2) := by decide +kernel
theorem dX5_add_22 : decode cX5_add 22 = .ok (.iload_n 1, 1) := by decide +kernel
theorem dX5_add_23 : decode cX5_add 23 = .ok (.iastore, 1) := by decide +kernel
theorem dX5_add_24 : decode cX5_add 24 = .ok (.aload_n 0, 1) := by decide +kernel
theorem dX5_add_25 : decode cX5_add 25 = .ok (.getfield 15, 3) := by decide +kernel
theorem dX5_add_28 : decode cX5_add 28 = .ok (.iload 7, 2) := by decide +kernel
theorem dX5_add_30 : decode cX5_add 30 = .ok (.iload_n 2, 1) := by decide +kernel
theorem dX5_add_31 : decode cX5_add 31 = .ok (.iastore, 1) := by decide +kernel
theorem dX5_add_32 : decode cX5_add 32 = .ok (.aload_n 0, 1) := by decide +kernel
theorem dX5_add_33 : decode cX5_add 33 = .ok (.getfield 18, 3) := by decide +kernel
theorem dX5_add_36 : decode cX5_add 36 = .ok (.iload 7, 2) := by decide +kernel
theorem dX5_add_38 : decode cX5_add 38 = .ok (.iload_n 3, 1) := by decide +kernel
theorem dX5_add_39 : decode cX5_add 39 = .ok (.iastore, 1) := by decide +kernel
theorem dX5_add_40 : decode cX5_add 40 = .ok (.aload_n 0, 1) := by decide +kernel
theorem dX5_add_41 : decode cX5_add 41 = .ok (.getfield 21, 3) := by decide +kernel
theorem dX5_add_44 : decode cX5_add 44 = .ok (.iload 7, 2) := by decide +kernel
theorem dX5_add_46 : decode cX5_add 46 = .ok (.iload 4, 2) := by decide +kernel
theorem dX5_add_48 : decode cX5_add 48 = .ok (.iastore, 1) := by decide +kernel
theorem dX5_add_49 : decode cX5_add 49 = .ok (.aload_n 0, 1) := by decide +kernel
theorem dX5_add_50 : decode cX5_add 50 = .ok (.getfield 24, 3) := by decide +kernel
theorem dX5_add_53 : decode cX5_add 53 = .ok (.iload 7, 2) := by decide +kernel
theorem dX5_add_55 : decode cX5_add 55 = .ok (.iload 5, 2) := by decide +kernel
theorem dX5_add_57 : decode cX5_add 57 = .ok (.iastore, 1) := by decide +kernel
theorem dX5_add_58 : decode cX5_add 58 = .ok (.aload_n 0, 1) := by decide +kernel
theorem dX5_add_59 : decode cX5_add 59 = .ok (.getfield 27, 3) := by decide +kernel
theorem dX5_add_62 : decode cX5_add 62 = .ok (.iload 7, 2) := by decide +kernel
theorem dX5_add_64 : decode cX5_add 64 = .ok (.iload 6, 2) := by decide +kernel
theorem dX5_add_66 : decode cX5_add 66 = .ok (.iastore, 1) := by decide +kernel
theorem dX5_add_67 : decode cX5_add 67 = .ok (.aload_n 0, 1) := by decide +kernel
theorem dX5_add_68 : decode cX5_add 68 = .ok (.dup, 1) := by decide +kernel
theorem dX5_add_69 : decode cX5_add 69 = .ok (.getfield 53, 3) := by decide +kernel
theorem dX5_add_72 : decode cX5_add 72 = .ok (.iconst 1, 1) := by decide +kernel
theorem dX5_add_73 : decode cX5_add 73 = .ok (.iadd, 1) := by decide +kernel
theorem dX5_add_74 : decode cX5_add 74 = .ok (.putfield 53, 3) := by decide +kernel
theorem dX5_add_77 : decode cX5_add 77 = .ok (.aload_n 0, 1) := by decide +kernel
theorem dX5_add_78 : decode cX5_add 78 = .ok (.iconst 0, 1) := by decide +kernel
theorem dX5_add_79 : decode cX5_add 79 = .ok (.putfield 46, 3) := by decide +kernel
theorem dX5_add_82 : decode cX5_add 82 = .ok (.iload 7, 2) := by decide +kernel
theorem dX5_add_84 : decode cX5_add 84 = .ok (.ireturn, 1) := by decide +kernel
theorem dX5_dress_0 : decode cX5_dress 0 = .ok (.aload_n 0, 1) := by decide +kernel
theorem dX5_dress_1 : decode cX5_dress 1 = .ok (.iload_n 1, 1) := by decide +kernel
theorem dX5_dress_2 : decode cX5_dress 2 = .ok (.invokevirtual 57, 3) := by decide +kernel
theorem dX5_dress_5 : decode cX5_dress 5 = .ok (.ifCond .eq 17, 3) := by decide +kernel
theorem dX5_dress_8 : decode cX5_dress 8 = .ok (.aload_n 0, 1) := by decide +kernel
theorem dX5_dress_9 : decode cX5_dress 9 = .ok (.getfield 30, 3) := by decide +kernel
theorem dX5_dress_12 : decode cX5_dress 12 = .ok (.iload_n 1, 1) := by decide +kernel
theorem dX5_dress_13 : decode cX5_dress 13 = .ok (.iload_n 2, 1) := by decide +kernel
theorem dX5_dress_14 : decode cX5_dress 14 = .ok (.iastore, 1) := by decide +kernel
theorem dX5_dress_15 : decode cX5_dress 15 = .ok (.aload_n 0, 1) := by decide +kernel
theorem dX5_dress_16 : decode cX5_dress 16 = .ok (.getfield 33, 3) := by decide +kernel
theorem dX5_dress_19 : decode cX5_dress 19 = .ok (.iload_n 1, 1) := by decide +kernel
theorem dX5_dress_20 : decode cX5_dress 20 = .ok (.iload_n 3, 1) := by decide +kernel
theorem dX5_dress_21 : decode cX5_dress 21 = .ok (.iastore, 1) := by decide +kernel
theorem dX5_dress_22 : decode cX5_dress 22 = .ok (.return_, 1) := by decide +kernel
theorem dX5_takeBack_0 : decode cX5_takeBack 0 = .ok (.aload_n 0, 1) := by decide +kernel
theorem dX5_takeBack_1 : decode cX5_takeBack 1 = .ok (.getfield 53, 3) := by decide +kernel
theorem dX5_takeBack_4 : decode cX5_takeBack 4 = .ok (.iconst 1, 1) := by decide +kernel
theorem dX5_takeBack_5 : decode cX5_takeBack 5 = .ok (.isub, 1) := by decide +kernel
theorem dX5_takeBack_6 : decode cX5_takeBack 6 = .ok (.istore_n 1, 1) := by decide +kernel
theorem dX5_takeBack_7 : decode cX5_takeBack 7 = .ok (.iload_n 1, 1) := by decide +kernel
theorem dX5_takeBack_8 : decode cX5_takeBack 8 = .ok (.ifCond .lt 56, 3) := by decide +kernel
theorem dX5_takeBack_11 : decode cX5_takeBack 11 = .ok (.aload_n 0, 1) := by decide +kernel
theorem dX5_takeBack_12 : decode cX5_takeBack 12 = .ok (.getfield 40, 3) := by decide +kernel
theorem dX5_takeBack_15 : decode cX5_takeBack 15 = .ok (.iload_n 1, 1) := by decide +kernel
theorem dX5_takeBack_16 : decode cX5_takeBack 16 = .ok (.baload, 1) := by decide +kernel
theorem dX5_takeBack_17 : decode cX5_takeBack 17 = .ok (.ifCond .ne 41, 3) := by decide +kernel
theorem dX5_takeBack_20 : decode cX5_takeBack 20 = .ok (.aload_n 0, 1) := by decide +kernel
theorem dX5_takeBack_21 : decode cX5_takeBack 21 = .ok (.getfield 46, 3) := by decide +kernel
theorem dX5_takeBack_24 : decode cX5_takeBack 24 = .ok (.bipush 80, 2) := by decide +kernel
theorem dX5_takeBack_26 : decode cX5_takeBack 26 = .ok (.if_icmp .ge 32, 3) := by decide +kernel
theorem dX5_takeBack_29 : decode cX5_takeBack 29 = .ok (.aload_n 0, 1) := by decide +kernel
theorem dX5_takeBack_30 : decode cX5_takeBack 30 = .ok (.getfield 40, 3) := by decide +kernel
theorem dX5_takeBack_33 : decode cX5_takeBack 33 = .ok (.iload_n 1, 1) := by decide +kernel
theorem dX5_takeBack_34 : decode cX5_takeBack 34 = .ok (.iconst 1, 1) := by decide +kernel
theorem dX5_takeBack_35 : decode cX5_takeBack 35 = .ok (.bastore, 1) := by decide +kernel
theorem dX5_takeBack_36 : decode cX5_takeBack 36 = .ok (.aload_n 0, 1) := by decide +kernel
theorem dX5_takeBack_37 : decode cX5_takeBack 37 = .ok (.getfield 43, 3) := by decide +kernel
theorem dX5_takeBack_40 : decode cX5_takeBack 40 = .ok (.aload_n 0, 1) := by decide +kernel
theorem dX5_takeBack_41 : decode cX5_takeBack 41 = .ok (.getfield 46, 3) := by decide +kernel
theorem dX5_takeBack_44 : decode cX5_takeBack 44 = .ok (.iload_n 1, 1) := by decide +kernel
theorem dX5_takeBack_45 : decode cX5_takeBack 45 = .ok (.iastore, 1) := by decide +kernel
theorem dX5_takeBack_46 : decode cX5_takeBack 46 = .ok (.aload_n 0, 1) := by decide +kernel
theorem dX5_takeBack_47 : decode cX5_takeBack 47 = .ok (.dup, 1) := by decide +kernel
theorem dX5_takeBack_48 : decode cX5_takeBack 48 = .ok (.getfield 46, 3) := by decide +kernel
theorem dX5_takeBack_51 : decode cX5_takeBack 51 = .ok (.iconst 1, 1) := by decide +kernel
theorem dX5_takeBack_52 : decode cX5_takeBack 52 = .ok (.iadd, 1) := by decide +kernel
theorem dX5_takeBack_53 : decode cX5_takeBack 53 = .ok (.putfield 46, 3) := by decide +kernel
theorem dX5_takeBack_56 : decode cX5_takeBack 56 = .ok (.iload_n 1, 1) := by decide +kernel
theorem dX5_takeBack_57 : decode cX5_takeBack 57 = .ok (.ireturn, 1) := by decide +kernel
theorem dX5_takeBack_58 : decode cX5_takeBack 58 = .ok (.iinc 1 (-1), 3) := by decide +kernel
theorem dX5_takeBack_61 : decode cX5_takeBack 61 = .ok (.goto (-54), 3) := by decide +kernel
theorem dX5_takeBack_64 : decode cX5_takeBack 64 = .ok (.iconst (-1), 1) := by decide +kernel
theorem dX5_takeBack_65 : decode cX5_takeBack 65 = .ok (.ireturn, 1) := by decide +kernel
theorem dX5_putBack_0 : decode cX5_putBack 0 = .ok (.aload_n 0, 1) := by decide +kernel
theorem dX5_putBack_1 : decode cX5_putBack 1 = .ok (.getfield 46, 3) := by decide +kernel
theorem dX5_putBack_4 : decode cX5_putBack 4 = .ok (.ifCond .gt 5, 3) := by decide +kernel
theorem dX5_putBack_7 : decode cX5_putBack 7 = .ok (.iconst (-1), 1) := by decide +kernel
theorem dX5_putBack_8 : decode cX5_putBack 8 = .ok (.ireturn, 1) := by decide +kernel
theorem dX5_putBack_9 : decode cX5_putBack 9 = .ok (.aload_n 0, 1) := by decide +kernel
theorem dX5_putBack_10 : decode cX5_putBack 10 = .ok (.dup, 1) := by decide +kernel
theorem dX5_putBack_11 : decode cX5_putBack 11 = .ok (.getfield 46, 3) := by decide +kernel
theorem dX5_putBack_14 : decode cX5_putBack 14 = .ok (.iconst 1, 1) := by decide +kernel
theorem dX5_putBack_15 : decode cX5_putBack 15 = .ok (.isub, 1) := by decide +kernel
theorem dX5_putBack_16 : decode cX5_putBack 16 = .ok (.putfield 46, 3) := by decide +kernel
theorem dX5_putBack_19 : decode cX5_putBack 19 = .ok (.aload_n 0, 1) := by decide +kernel
theorem dX5_putBack_20 : decode cX5_putBack 20 = .ok (.getfield 43, 3) := by decide +kernel
theorem dX5_putBack_23 : decode cX5_putBack 23 = .ok (.aload_n 0, 1) := by decide +kernel
theorem dX5_putBack_24 : decode cX5_putBack 24 = .ok (.getfield 46, 3) := by decide +kernel
theorem dX5_putBack_27 : decode cX5_putBack 27 = .ok (.iaload, 1) := by decide +kernel
theorem dX5_putBack_28 : decode cX5_putBack 28 = .ok (.istore_n 1, 1) := by decide +kernel
theorem dX5_putBack_29 : decode cX5_putBack 29 = .ok (.aload_n 0, 1) := by decide +kernel
theorem dX5_putBack_30 : decode cX5_putBack 30 = .ok (.getfield 40, 3) := by decide +kernel
theorem dX5_putBack_33 : decode cX5_putBack 33 = .ok (.iload_n 1, 1) := by decide +kernel
theorem dX5_putBack_34 : decode cX5_putBack 34 = .ok (.iconst 0, 1) := by decide +kernel
theorem dX5_putBack_35 : decode cX5_putBack 35 = .ok (.bastore, 1) := by decide +kernel
theorem dX5_putBack_36 : decode cX5_putBack 36 = .ok (.iload_n 1, 1) := by decide +kernel
theorem dX5_putBack_37 : decode cX5_putBack 37 = .ok (.ireturn, 1) := by decide +kernel
theorem dX5_howMany_0 : decode cX5_howMany 0 = .ok (.iconst 0, 1) := by decide +kernel
theorem dX5_howMany_1 : decode cX5_howMany 1 = .ok (.istore_n 2, 1) := by decide +kernel
theorem dX5_howMany_2 : decode cX5_howMany 2 = .ok (.iconst 0, 1) := by decide +kernel
theorem dX5_howMany_3 : decode cX5_howMany 3 = .ok (.istore_n 3, 1) := by decide +kernel
theorem dX5_howMany_4 : decode cX5_howMany 4 = .ok (.iload_n 3, 1) := by decide +kernel
theorem dX5_howMany_5 : decode cX5_howMany 5 = .ok (.aload_n 0, 1) := by decide +kernel
theorem dX5_howMany_6 : decode cX5_howMany 6 = .ok (.getfield 53, 3) := by decide +kernel
theorem dX5_howMany_9 : decode cX5_howMany 9 = .ok (.if_icmp .ge 21, 3) := by decide +kernel
theorem dX5_howMany_12 : decode cX5_howMany 12 = .ok (.iload_n 2, 1) := by decide +kernel
theorem dX5_howMany_13 : decode cX5_howMany 13 = .ok (.aload_n 0, 1) := by decide +kernel
theorem dX5_howMany_14 : decode cX5_howMany 14 = .ok (.iload_n 3, 1) := by decide +kernel
theorem dX5_howMany_15 : decode cX5_howMany 15 = .ok (.iload_n 1, 1) := by decide +kernel
theorem dX5_howMany_16 : decode cX5_howMany 16 = .ok (.invokevirtual 61, 3) := by decide +kernel
theorem dX5_howMany_19 : decode cX5_howMany 19 = .ok (.invokestatic 65, 3) := by decide +kernel
theorem dX5_howMany_22 : decode cX5_howMany 22 = .ok (.iadd, 1) := by decide +kernel
theorem dX5_howMany_23 : decode cX5_howMany 23 = .ok (.istore_n 2, 1) := by decide +kernel
theorem dX5_howMany_24 : decode cX5_howMany 24 = .ok (.iinc 3 1, 3) := by decide +kernel
theorem dX5_howMany_27 : decode cX5_howMany 27 = .ok (.goto (-23), 3) := by decide +kernel
theorem dX5_howMany_30 : decode cX5_howMany 30 = .ok (.iload_n 2, 1) := by decide +kernel
theorem dX5_howMany_31 : decode cX5_howMany 31 = .ok (.ireturn, 1) := by decide +kernel
theorem dX5_isOne_0 : decode cX5_isOne 0 = .ok (.iload_n 2, 1) := by decide +kernel
theorem dX5_isOne_1 : decode cX5_isOne 1 = .ok (.tableswitch 47 0 2 #[27, 33, 40], 27) := by decide +kernel
theorem dX5_isOne_28 : decode cX5_isOne 28 = .ok (.aload_n 0, 1) := by decide +kernel
theorem dX5_isOne_29 : decode cX5_isOne 29 = .ok (.iload_n 1, 1) := by decide +kernel
theorem dX5_isOne_30 : decode cX5_isOne 30 = .ok (.invokevirtual 69, 3) := by decide +kernel
theorem dX5_isOne_33 : decode cX5_isOne 33 = .ok (.ireturn, 1) := by decide +kernel
theorem dX5_isOne_34 : decode cX5_isOne 34 = .ok (.aload_n 0, 1) := by decide +kernel
theorem dX5_isOne_35 : decode cX5_isOne 35 = .ok (.getfield 36, 3) := by decide +kernel
theorem dX5_isOne_38 : decode cX5_isOne 38 = .ok (.iload_n 1, 1) := by decide +kernel
theorem dX5_isOne_39 : decode cX5_isOne 39 = .ok (.baload, 1) := by decide +kernel
theorem dX5_isOne_40 : decode cX5_isOne 40 = .ok (.ireturn, 1) := by decide +kernel
theorem dX5_isOne_41 : decode cX5_isOne 41 = .ok (.aload_n 0, 1) := by decide +kernel
theorem dX5_isOne_42 : decode cX5_isOne 42 = .ok (.getfield 40, 3) := by decide +kernel
theorem dX5_isOne_45 : decode cX5_isOne 45 = .ok (.iload_n 1, 1) := by decide +kernel
theorem dX5_isOne_46 : decode cX5_isOne 46 = .ok (.baload, 1) := by decide +kernel
theorem dX5_isOne_47 : decode cX5_isOne 47 = .ok (.ireturn, 1) := by decide +kernel
theorem dX5_isOne_48 : decode cX5_isOne 48 = .ok (.aload_n 0, 1) := by decide +kernel
theorem dX5_isOne_49 : decode cX5_isOne 49 = .ok (.getfield 9, 3) := by decide +kernel
theorem dX5_isOne_52 : decode cX5_isOne 52 = .ok (.iload_n 1, 1) := by decide +kernel
theorem dX5_isOne_53 : decode cX5_isOne 53 = .ok (.iaload, 1) := by decide +kernel
theorem dX5_isOne_54 : decode cX5_isOne 54 = .ok (.ifCond .ne 7, 3) := by decide +kernel
theorem dX5_isOne_57 : decode cX5_isOne 57 = .ok (.iconst 1, 1) := by decide +kernel
theorem dX5_isOne_58 : decode cX5_isOne 58 = .ok (.goto 4, 3) := by decide +kernel
theorem dX5_isOne_61 : decode cX5_isOne 61 = .ok (.iconst 0, 1) := by decide +kernel
theorem dX5_isOne_62 : decode cX5_isOne 62 = .ok (.ireturn, 1) := by decide +kernel
theorem dX5_fewestLights_0 : decode cX5_fewestLights 0 = .ok (.aload_n 0, 1) := by decide +kernel
theorem dX5_fewestLights_1 : decode cX5_fewestLights 1 = .ok (.invokevirtual 72, 3) := by decide +kernel
theorem dX5_fewestLights_4 : decode cX5_fewestLights 4 = .ok (.aload_n 0, 1) := by decide +kernel
theorem dX5_fewestLights_5 : decode cX5_fewestLights 5 = .ok (.invokevirtual 75, 3) := by decide +kernel
theorem dX5_fewestLights_8 : decode cX5_fewestLights 8 = .ok (.istore_n 2, 1) := by decide +kernel
theorem dX5_fewestLights_9 : decode cX5_fewestLights 9 = .ok (.iconst 0, 1) := by decide +kernel
theorem dX5_fewestLights_10 : decode cX5_fewestLights 10 = .ok (.istore_n 3, 1) := by decide +kernel
theorem dX5_fewestLights_11 : decode cX5_fewestLights 11 = .ok (.iload_n 3, 1) := by decide +kernel
theorem dX5_fewestLights_12 : decode cX5_fewestLights 12 = .ok (.bipush 20, 2) := by decide +kernel
theorem dX5_fewestLights_14 : decode cX5_fewestLights 14 = .ok (.if_icmp .gt 26, 3) := by decide +kernel
theorem dX5_fewestLights_17 : decode cX5_fewestLights 17 = .ok (.iload_n 2, 1) := by decide +kernel
theorem dX5_fewestLights_18 : decode cX5_fewestLights 18 = .ok (.iload_n 1, 1) := by decide +kernel
theorem dX5_fewestLights_19 : decode cX5_fewestLights 19 = .ok (.ishr, 1) := by decide +kernel
theorem dX5_fewestLights_20 : decode cX5_fewestLights 20 = .ok (.iconst 1, 1) := by decide +kernel
theorem dX5_fewestLights_21 : decode cX5_fewestLights 21 = .ok (.iand, 1) := by decide +kernel
theorem dX5_fewestLights_22 : decode cX5_fewestLights 22 = .ok (.iconst 1, 1) := by decide +kernel
theorem dX5_fewestLights_23 : decode cX5_fewestLights 23 = .ok (.if_icmp .ne 5, 3) := by decide +kernel
theorem dX5_fewestLights_26 : decode cX5_fewestLights 26 = .ok (.iload_n 3, 1) := by decide +kernel
theorem dX5_fewestLights_27 : decode cX5_fewestLights 27 = .ok (.ireturn, 1) := by decide +kernel
theorem dX5_fewestLights_28 : decode cX5_fewestLights 28 = .ok (.aload_n 0, 1) := by decide +kernel
theorem dX5_fewestLights_29 : decode cX5_fewestLights 29 = .ok (.iload_n 2, 1) := by decide +kernel
theorem dX5_fewestLights_30 : decode cX5_fewestLights 30 = .ok (.invokevirtual 79, 3) := by decide +kernel
theorem dX5_fewestLights_33 : decode cX5_fewestLights 33 = .ok (.istore_n 2, 1) := by decide +kernel
theorem dX5_fewestLights_34 : decode cX5_fewestLights 34 = .ok (.iinc 3 2, 3) := by decide +kernel
theorem dX5_fewestLights_37 : decode cX5_fewestLights 37 = .ok (.goto (-26), 3) := by decide +kernel
theorem dX5_fewestLights_40 : decode cX5_fewestLights 40 = .ok (.iconst (-1), 1) := by decide +kernel
theorem dX5_fewestLights_41 : decode cX5_fewestLights 41 = .ok (.ireturn, 1) := by decide +kernel
theorem dX5_noteSortsOfHomes_0 : decode cX5_noteSortsOfHomes 0 = .ok (.iconst 0, 1) := by decide +kernel
theorem dX5_noteSortsOfHomes_1 : decode cX5_noteSortsOfHomes 1 = .ok (.istore_n 1, 1) := by decide +kernel
theorem dX5_noteSortsOfHomes_2 : decode cX5_noteSortsOfHomes 2 = .ok (.iload_n 1, 1) := by decide +kernel
theorem dX5_noteSortsOfHomes_3 : decode cX5_noteSortsOfHomes 3 = .ok (.bipush 10, 2) := by decide +kernel
theorem dX5_noteSortsOfHomes_5 : decode cX5_noteSortsOfHomes 5 = .ok (.if_icmp .ge 16, 3) := by decide +kernel
theorem dX5_noteSortsOfHomes_8 : decode cX5_noteSortsOfHomes 8 = .ok (.aload_n 0, 1) := by decide +kernel
theorem dX5_noteSortsOfHomes_9 : decode cX5_noteSortsOfHomes 9 = .ok (.getfield 50, 3) := by decide +kernel
theorem dX5_noteSortsOfHomes_12 : decode cX5_noteSortsOfHomes 12 = .ok (.iload_n 1, 1) := by decide +kernel
theorem dX5_noteSortsOfHomes_13 : decode cX5_noteSortsOfHomes 13 = .ok (.iconst 0, 1) := by decide +kernel
theorem dX5_noteSortsOfHomes_14 : decode cX5_noteSortsOfHomes 14 = .ok (.iastore, 1) := by decide +kernel
theorem dX5_noteSortsOfHomes_15 : decode cX5_noteSortsOfHomes 15 = .ok (.iinc 1 1, 3) := by decide +kernel
theorem dX5_noteSortsOfHomes_18 : decode cX5_noteSortsOfHomes 18 = .ok (.goto (-16), 3) := by decide +kernel
theorem dX5_noteSortsOfHomes_21 : decode cX5_noteSortsOfHomes 21 = .ok (.iconst 0, 1) := by decide +kernel
theorem dX5_noteSortsOfHomes_22 : decode cX5_noteSortsOfHomes 22 = .ok (.istore_n 1, 1) := by decide +kernel
theorem dX5_noteSortsOfHomes_23 : decode cX5_noteSortsOfHomes 23 = .ok (.iload_n 1, 1) := by decide +kernel
theorem dX5_noteSortsOfHomes_24 : decode cX5_noteSortsOfHomes 24 = .ok (.aload_n 0, 1) := by decide +kernel
theorem dX5_noteSortsOfHomes_25 : decode cX5_noteSortsOfHomes 25 = .ok (.getfield 53, 3) := by decide +kernel
theorem dX5_noteSortsOfHomes_28 : decode cX5_noteSortsOfHomes 28 = .ok (.if_icmp .ge 48, 3) := by decide +kernel
theorem dX5_noteSortsOfHomes_31 : decode cX5_noteSortsOfHomes 31 = .ok (.aload_n 0, 1) := by decide +kernel
theorem dX5_noteSortsOfHomes_32 : decode cX5_noteSortsOfHomes 32 = .ok (.getfield 9, 3) := by decide +kernel
theorem dX5_noteSortsOfHomes_35 : decode cX5_noteSortsOfHomes 35 = .ok (.iload_n 1, 1) := by decide +kernel
theorem dX5_noteSortsOfHomes_36 : decode cX5_noteSortsOfHomes 36 = .ok (.iaload, 1) := by decide +kernel
theorem dX5_noteSortsOfHomes_37 : decode cX5_noteSortsOfHomes 37 = .ok (.ifCond .ne 33, 3) := by decide +kernel
theorem dX5_noteSortsOfHomes_40 : decode cX5_noteSortsOfHomes 40 = .ok (.aload_n 0, 1) := by decide +kernel
theorem dX5_noteSortsOfHomes_41 : decode cX5_noteSortsOfHomes 41 = .ok (.iload_n 1, 1) := by decide +kernel
theorem dX5_noteSortsOfHomes_42 : decode cX5_noteSortsOfHomes 42 = .ok (.invokevirtual 69, 3) := by decide +kernel
theorem dX5_noteSortsOfHomes_45 : decode cX5_noteSortsOfHomes 45 = .ok (.ifCond .eq 25, 3) := by decide +kernel
theorem dX5_noteSortsOfHomes_48 : decode cX5_noteSortsOfHomes 48 = .ok (.aload_n 0, 1) := by decide +kernel
theorem dX5_noteSortsOfHomes_49 : decode cX5_noteSortsOfHomes 49 = .ok (.getfield 50, 3) := by decide +kernel
theorem dX5_noteSortsOfHomes_52 : decode cX5_noteSortsOfHomes 52 = .ok (.aload_n 0, 1) := by decide +kernel
theorem dX5_noteSortsOfHomes_53 : decode cX5_noteSortsOfHomes 53 = .ok (.getfield 21, 3) := by decide +kernel
theorem dX5_noteSortsOfHomes_56 : decode cX5_noteSortsOfHomes 56 = .ok (.iload_n 1, 1) := by decide +kernel
theorem dX5_noteSortsOfHomes_57 : decode cX5_noteSortsOfHomes 57 = .ok (.iaload, 1) := by decide +kernel
theorem dX5_noteSortsOfHomes_58 : decode cX5_noteSortsOfHomes 58 = .ok (.dup2, 1) := by decide +kernel
theorem dX5_noteSortsOfHomes_59 : decode cX5_noteSortsOfHomes 59 = .ok (.iaload, 1) := by decide +kernel
theorem dX5_noteSortsOfHomes_60 : decode cX5_noteSortsOfHomes 60 = .ok (.iconst 1, 1) := by decide +kernel
theorem dX5_noteSortsOfHomes_61 : decode cX5_noteSortsOfHomes 61 = .ok (.aload_n 0, 1) := by decide +kernel
theorem dX5_noteSortsOfHomes_62 : decode cX5_noteSortsOfHomes 62 = .ok (.getfield 18, 3) := by decide +kernel
theorem dX5_noteSortsOfHomes_65 : decode cX5_noteSortsOfHomes 65 = .ok (.iload_n 1, 1) := by decide +kernel
theorem dX5_noteSortsOfHomes_66 : decode cX5_noteSortsOfHomes 66 = .ok (.iaload, 1) := by decide +kernel
theorem dX5_noteSortsOfHomes_67 : decode cX5_noteSortsOfHomes 67 = .ok (.ishl, 1) := by decide +kernel
theorem dX5_noteSortsOfHomes_68 : decode cX5_noteSortsOfHomes 68 = .ok (.ior, 1) := by decide +kernel
theorem dX5_noteSortsOfHomes_69 : decode cX5_noteSortsOfHomes 69 = .ok (.iastore, 1) := by decide +kernel
theorem dX5_noteSortsOfHomes_70 : decode cX5_noteSortsOfHomes 70 = .ok (.iinc 1 1, 3) := by decide +kernel
theorem dX5_noteSortsOfHomes_73 : decode cX5_noteSortsOfHomes 73 = .ok (.goto (-50), 3) := by decide +kernel
theorem dX5_noteSortsOfHomes_76 : decode cX5_noteSortsOfHomes 76 = .ok (.return_, 1) := by decide +kernel
theorem dX5_homesWithShift_0 : decode cX5_homesWithShift 0 = .ok (.iconst 0, 1) := by decide +kernel
theorem dX5_homesWithShift_1 : decode cX5_homesWithShift 1 = .ok (.istore_n 1, 1) := by decide +kernel
theorem dX5_homesWithShift_2 : decode cX5_homesWithShift 2 = .ok (.iconst 0, 1) := by decide +kernel
theorem dX5_homesWithShift_3 : decode cX5_homesWithShift 3 = .ok (.istore_n 2, 1) := by decide +kernel
theorem dX5_homesWithShift_4 : decode cX5_homesWithShift 4 = .ok (.iload_n 2, 1) := by decide +kernel
theorem dX5_homesWithShift_5 : decode cX5_homesWithShift 5 = .ok (.aload_n 0, 1) := by decide +kernel
theorem dX5_homesWithShift_6 : decode cX5_homesWithShift 6 = .ok (.getfield 53, 3) := by decide +kernel
theorem dX5_homesWithShift_9 : decode cX5_homesWithShift 9 = .ok (.if_icmp .ge 38, 3) := by decide +kernel
theorem dX5_homesWithShift_12 : decode cX5_homesWithShift 12 = .ok (.aload_n 0, 1) := by decide +kernel
theorem dX5_homesWithShift_13 : decode cX5_homesWithShift 13 = .ok (.getfield 9, 3) := by decide +kernel
theorem dX5_homesWithShift_16 : decode cX5_homesWithShift 16 = .ok (.iload_n 2, 1) := by decide +kernel
theorem dX5_homesWithShift_17 : decode cX5_homesWithShift 17 = .ok (.iaload, 1) := by decide +kernel
theorem dX5_homesWithShift_18 : decode cX5_homesWithShift 18 = .ok (.iconst 1, 1) := by decide +kernel
theorem dX5_homesWithShift_19 : decode cX5_homesWithShift 19 = .ok (.if_icmp .ne 22, 3) := by decide +kernel
theorem dX5_homesWithShift_22 : decode cX5_homesWithShift 22 = .ok (.aload_n 0, 1) := by decide +kernel
theorem dX5_homesWithShift_23 : decode cX5_homesWithShift 23 = .ok (.iload_n 2, 1) := by decide +kernel
theorem dX5_homesWithShift_24 : decode cX5_homesWithShift 24 = .ok (.invokevirtual 69, 3) := by decide +kernel
theorem dX5_homesWithShift_27 : decode cX5_homesWithShift 27 = .ok (.ifCond .eq 14, 3) := by decide +kernel
theorem dX5_homesWithShift_30 : decode cX5_homesWithShift 30 = .ok (.iload_n 1, 1) := by decide +kernel
theorem dX5_homesWithShift_31 : decode cX5_homesWithShift 31 = .ok (.iconst 1, 1) := by decide +kernel
theorem dX5_homesWithShift_32 : decode cX5_homesWithShift 32 = .ok (.aload_n 0, 1) := by decide +kernel
theorem dX5_homesWithShift_33 : decode cX5_homesWithShift 33 = .ok (.getfield 21, 3) := by decide +kernel
theorem dX5_homesWithShift_36 : decode cX5_homesWithShift 36 = .ok (.iload_n 2, 1) := by decide +kernel
theorem dX5_homesWithShift_37 : decode cX5_homesWithShift 37 = .ok (.iaload, 1) := by decide +kernel
theorem dX5_homesWithShift_38 : decode cX5_homesWithShift 38 = .ok (.ishl, 1) := by decide +kernel
theorem dX5_homesWithShift_39 : decode cX5_homesWithShift 39 = .ok (.ior, 1) := by decide +kernel
theorem dX5_homesWithShift_40 : decode cX5_homesWithShift 40 = .ok (.istore_n 1, 1) := by decide +kernel
theorem dX5_homesWithShift_41 : decode cX5_homesWithShift 41 = .ok (.iinc 2 1, 3) := by decide +kernel
theorem dX5_homesWithShift_44 : decode cX5_homesWithShift 44 = .ok (.goto (-40), 3) := by decide +kernel
theorem dX5_homesWithShift_47 : decode cX5_homesWithShift 47 = .ok (.iload_n 1, 1) := by decide +kernel
theorem dX5_homesWithShift_48 : decode cX5_homesWithShift 48 = .ok (.ireturn, 1) := by decide +kernel
theorem dX5_oneStepOn_0 : decode cX5_oneStepOn 0 = .ok (.iconst 0, 1) := by decide +kernel
theorem dX5_oneStepOn_1 : decode cX5_oneStepOn 1 = .ok (.istore_n 2, 1) := by decide +kernel
theorem dX5_oneStepOn_2 : decode cX5_oneStepOn 2 = .ok (.iconst 0, 1) := by decide +kernel
theorem dX5_oneStepOn_3 : decode cX5_oneStepOn 3 = .ok (.istore_n 3, 1) := by decide +kernel
theorem dX5_oneStepOn_4 : decode cX5_oneStepOn 4 = .ok (.iload_n 3, 1) := by decide +kernel
theorem dX5_oneStepOn_5 : decode cX5_oneStepOn 5 = .ok (.bipush 10, 2) := by decide +kernel
theorem dX5_oneStepOn_7 : decode cX5_oneStepOn 7 = .ok (.if_icmp .ge 31, 3) := by decide +kernel
theorem dX5_oneStepOn_10 : decode cX5_oneStepOn 10 = .ok (.iload_n 2, 1) := by decide +kernel
theorem dX5_oneStepOn_11 : decode cX5_oneStepOn 11 = .ok (.iload_n 1, 1) := by decide +kernel
theorem dX5_oneStepOn_12 : decode cX5_oneStepOn 12 = .ok (.iload_n 3, 1) := by decide +kernel
theorem dX5_oneStepOn_13 : decode cX5_oneStepOn 13 = .ok (.ishr, 1) := by decide +kernel
theorem dX5_oneStepOn_14 : decode cX5_oneStepOn 14 = .ok (.iconst 1, 1) := by decide +kernel
theorem dX5_oneStepOn_15 : decode cX5_oneStepOn 15 = .ok (.iand, 1) := by decide +kernel
theorem dX5_oneStepOn_16 : decode cX5_oneStepOn 16 = .ok (.iconst 1, 1) := by decide +kernel
theorem dX5_oneStepOn_17 : decode cX5_oneStepOn 17 = .ok (.if_icmp .ne 12, 3) := by decide +kernel
theorem dX5_oneStepOn_20 : decode cX5_oneStepOn 20 = .ok (.aload_n 0, 1) := by decide +kernel
theorem dX5_oneStepOn_21 : decode cX5_oneStepOn 21 = .ok (.getfield 50, 3) := by decide +kernel
theorem dX5_oneStepOn_24 : decode cX5_oneStepOn 24 = .ok (.iload_n 3, 1) := by decide +kernel
theorem dX5_oneStepOn_25 : decode cX5_oneStepOn 25 = .ok (.iaload, 1) := by decide +kernel
theorem dX5_oneStepOn_26 : decode cX5_oneStepOn 26 = .ok (.goto 4, 3) := by decide +kernel
theorem dX5_oneStepOn_29 : decode cX5_oneStepOn 29 = .ok (.iconst 0, 1) := by decide +kernel
theorem dX5_oneStepOn_30 : decode cX5_oneStepOn 30 = .ok (.ior, 1) := by decide +kernel
theorem dX5_oneStepOn_31 : decode cX5_oneStepOn 31 = .ok (.istore_n 2, 1) := by decide +kernel
theorem dX5_oneStepOn_32 : decode cX5_oneStepOn 32 = .ok (.iinc 3 1, 3) := by decide +kernel
theorem dX5_oneStepOn_35 : decode cX5_oneStepOn 35 = .ok (.goto (-31), 3) := by decide +kernel
theorem dX5_oneStepOn_38 : decode cX5_oneStepOn 38 = .ok (.iload_n 1, 1) := by decide +kernel
theorem dX5_oneStepOn_39 : decode cX5_oneStepOn 39 = .ok (.istore_n 3, 1) := by decide +kernel
theorem dX5_oneStepOn_40 : decode cX5_oneStepOn 40 = .ok (.iconst 0, 1) := by decide +kernel
theorem dX5_oneStepOn_41 : decode cX5_oneStepOn 41 = .ok (.istore 4, 2) := by decide +kernel
theorem dX5_oneStepOn_43 : decode cX5_oneStepOn 43 = .ok (.iload 4, 2) := by decide +kernel
theorem dX5_oneStepOn_45 : decode cX5_oneStepOn 45 = .ok (.bipush 10, 2) := by decide +kernel
theorem dX5_oneStepOn_47 : decode cX5_oneStepOn 47 = .ok (.if_icmp .ge 32, 3) := by decide +kernel
theorem dX5_oneStepOn_50 : decode cX5_oneStepOn 50 = .ok (.iload_n 3, 1) := by decide +kernel
theorem dX5_oneStepOn_51 : decode cX5_oneStepOn 51 = .ok (.aload_n 0, 1) := by decide +kernel
theorem dX5_oneStepOn_52 : decode cX5_oneStepOn 52 = .ok (.getfield 50, 3) := by decide +kernel
theorem dX5_oneStepOn_55 : decode cX5_oneStepOn 55 = .ok (.iload 4, 2) := by decide +kernel
theorem dX5_oneStepOn_57 : decode cX5_oneStepOn 57 = .ok (.iaload, 1) := by decide +kernel
theorem dX5_oneStepOn_58 : decode cX5_oneStepOn 58 = .ok (.iload_n 2, 1) := by decide +kernel
theorem dX5_oneStepOn_59 : decode cX5_oneStepOn 59 = .ok (.iand, 1) := by decide +kernel
theorem dX5_oneStepOn_60 : decode cX5_oneStepOn 60 = .ok (.ifCond .eq 10, 3) := by decide +kernel
theorem dX5_oneStepOn_63 : decode cX5_oneStepOn 63 = .ok (.iconst 1, 1) := by decide +kernel
theorem dX5_oneStepOn_64 : decode cX5_oneStepOn 64 = .ok (.iload 4, 2) := by decide +kernel
theorem dX5_oneStepOn_66 : decode cX5_oneStepOn 66 = .ok (.ishl, 1) := by decide +kernel
theorem dX5_oneStepOn_67 : decode cX5_oneStepOn 67 = .ok (.goto 4, 3) := by decide +kernel
theorem dX5_oneStepOn_70 : decode cX5_oneStepOn 70 = .ok (.iconst 0, 1) := by decide +kernel
theorem dX5_oneStepOn_71 : decode cX5_oneStepOn 71 = .ok (.ior, 1) := by decide +kernel
theorem dX5_oneStepOn_72 : decode cX5_oneStepOn 72 = .ok (.istore_n 3, 1) := by decide +kernel
theorem dX5_oneStepOn_73 : decode cX5_oneStepOn 73 = .ok (.iinc 4 1, 3) := by decide +kernel
theorem dX5_oneStepOn_76 : decode cX5_oneStepOn 76 = .ok (.goto (-33), 3) := by decide +kernel
theorem dX5_oneStepOn_79 : decode cX5_oneStepOn 79 = .ok (.iload_n 3, 1) := by decide +kernel
theorem dX5_oneStepOn_80 : decode cX5_oneStepOn 80 = .ok (.ireturn, 1) := by decide +kernel
theorem dX6_init_0 : decode cX6_init 0 = .ok (.aload_n 0, 1) := by decide +kernel
theorem dX6_init_1 : decode cX6_init 1 = .ok (.invokespecial 3, 3) := by decide +kernel
theorem dX6_init_4 : decode cX6_init 4 = .ok (.aload_n 0, 1) := by decide +kernel
theorem dX6_init_5 : decode cX6_init 5 = .ok (.bipush 10, 2) := by decide +kernel
theorem dX6_init_7 : decode cX6_init 7 = .ok (.newarray .int, 2) := by decide +kernel
theorem dX6_init_9 : decode cX6_init 9 = .ok (.putfield 9, 3) := by decide +kernel
theorem dX6_init_12 : decode cX6_init 12 = .ok (.aload_n 0, 1) := by decide +kernel
theorem dX6_init_13 : decode cX6_init 13 = .ok (.bipush 10, 2) := by decide +kernel
theorem dX6_init_15 : decode cX6_init 15 = .ok (.newarray .boolean, 2) := by decide +kernel
theorem dX6_init_17 : decode cX6_init 17 = .ok (.putfield 15, 3) := by decide +kernel
theorem dX6_init_20 : decode cX6_init 20 = .ok (.aload_n 0, 1) := by decide +kernel
theorem dX6_init_21 : decode cX6_init 21 = .ok (.bipush 10, 2) := by decide +kernel
theorem dX6_init_23 : decode cX6_init 23 = .ok (.newarray .long, 2) := by decide +kernel
theorem dX6_init_25 : decode cX6_init 25 = .ok (.putfield 19, 3) := by decide +kernel
theorem dX6_init_28 : decode cX6_init 28 = .ok (.aload_n 0, 1) := by decide +kernel
theorem dX6_init_29 : decode cX6_init 29 = .ok (.bipush 10, 2) := by decide +kernel
theorem dX6_init_31 : decode cX6_init 31 = .ok (.newarray .long, 2) := by decide +kernel
theorem dX6_init_33 : decode cX6_init 33 = .ok (.putfield 23, 3) := by decide +kernel
theorem dX6_init_36 : decode cX6_init 36 = .ok (.aload_n 0, 1) := by decide +kernel
theorem dX6_init_37 : decode cX6_init 37 = .ok (.iconst 0, 1) := by decide +kernel
theorem dX6_init_38 : decode cX6_init 38 = .ok (.putfield 26, 3) := by decide +kernel
theorem dX6_init_41 : decode cX6_init 41 = .ok (.iconst 0, 1) := by decide +kernel
theorem dX6_init_42 : decode cX6_init 42 = .ok (.istore_n 1, 1) := by decide +kernel
theorem dX6_init_43 : decode cX6_init 43 = .ok (.iload_n 1, 1) := by decide +kernel
theorem dX6_init_44 : decode cX6_init 44 = .ok (.bipush 10, 2) := by decide +kernel
theorem dX6_init_46 : decode cX6_init 46 = .ok (.if_icmp .ge 16, 3) := by decide +kernel
theorem dX6_init_49 : decode cX6_init 49 = .ok (.aload_n 0, 1) := by decide +kernel
theorem dX6_init_50 : decode cX6_init 50 = .ok (.getfield 9, 3) := by decide +kernel
theorem dX6_init_53 : decode cX6_init 53 = .ok (.iload_n 1, 1) := by decide +kernel
theorem dX6_init_54 : decode cX6_init 54 = .ok (.iconst (-1), 1) := by decide +kernel
theorem dX6_init_55 : decode cX6_init 55 = .ok (.iastore, 1) := by decide +kernel
theorem dX6_init_56 : decode cX6_init 56 = .ok (.iinc 1 1, 3) := by decide +kernel
theorem dX6_init_59 : decode cX6_init 59 = .ok (.goto (-16), 3) := by decide +kernel
theorem dX6_init_62 : decode cX6_init 62 = .ok (.return_, 1) := by decide +kernel
theorem dX6_atLeast_0 : decode cX6_atLeast 0 = .ok (.iload_n 0, 1) := by decide +kernel
theorem dX6_atLeast_1 : decode cX6_atLeast 1 = .ok (.sipush 5000, 3) := by decide +kernel
theorem dX6_atLeast_4 : decode cX6_atLeast 4 = .ok (.irem, 1) := by decide +kernel
theorem dX6_atLeast_5 : decode cX6_atLeast 5 = .ok (.bipush 100, 2) := by decide +kernel
theorem dX6_atLeast_7 : decode cX6_atLeast 7 = .ok (.idiv, 1) := by decide +kernel
theorem dX6_atLeast_8 : decode cX6_atLeast 8 = .ok (.istore_n 1, 1) := by decide +kernel
theorem dX6_atLeast_9 : decode cX6_atLeast 9 = .ok (.iload_n 1, 1) := by decide +kernel
theorem dX6_atLeast_10 : decode cX6_atLeast 10 = .ok (.ifCond .lt 29, 3) := by decide +kernel
theorem dX6_atLeast_13 : decode cX6_atLeast 13 = .ok (.iload_n 1, 1) := by decide +kernel
theorem dX6_atLeast_14 : decode cX6_atLeast 14 = .ok (.getstatic 30, 3) := by decide +kernel
theorem dX6_atLeast_17 : decode cX6_atLeast 17 = .ok (.arraylength, 1) := by decide +kernel
theorem dX6_atLeast_18 : decode cX6_atLeast 18 = .ok (.if_icmp .ge 21, 3) := by decide +kernel
theorem dX6_atLeast_21 : decode cX6_atLeast 21 = .ok (.getstatic 30, 3) := by decide +kernel
theorem dX6_atLeast_24 : decode cX6_atLeast 24 = .ok (.iload_n 1, 1) := by decide +kernel
theorem dX6_atLeast_25 : decode cX6_atLeast 25 = .ok (.iaload, 1) := by decide +kernel
theorem dX6_atLeast_26 : decode cX6_atLeast 26 = .ok (.i2l, 1) := by decide +kernel
theorem dX6_atLeast_27 : decode cX6_atLeast 27 = .ok (.iload_n 0, 1) := by decide +kernel
theorem dX6_atLeast_28 : decode cX6_atLeast 28 = .ok (.sipush 5000, 3) := by decide +kernel
theorem dX6_atLeast_31 : decode cX6_atLeast 31 = .ok (.idiv, 1) := by decide +kernel
theorem dX6_atLeast_32 : decode cX6_atLeast 32 = .ok (.invokestatic 33, 3) := by decide +kernel
theorem dX6_atLeast_35 : decode cX6_atLeast 35 = .ok (.lmul, 1) := by decide +kernel
theorem dX6_atLeast_36 : decode cX6_atLeast 36 = .ok (.goto 4, 3) := by decide +kernel
theorem dX6_atLeast_39 : decode cX6_atLeast 39 = .ok (.lconst 0, 1) := by decide +kernel
theorem dX6_atLeast_40 : decode cX6_atLeast 40 = .ok (.lreturn, 1) := by decide +kernel
theorem dX6_atMost_0 : decode cX6_atMost 0 = .ok (.iload_n 0, 1) := by decide +kernel
theorem dX6_atMost_1 : decode cX6_atMost 1 = .ok (.sipush 5000, 3) := by decide +kernel
theorem dX6_atMost_4 : decode cX6_atMost 4 = .ok (.irem, 1) := by decide +kernel
theorem dX6_atMost_5 : decode cX6_atMost 5 = .ok (.bipush 100, 2) := by decide +kernel
theorem dX6_atMost_7 : decode cX6_atMost 7 = .ok (.idiv, 1) := by decide +kernel
theorem dX6_atMost_8 : decode cX6_atMost 8 = .ok (.istore_n 1, 1) := by decide +kernel
theorem dX6_atMost_9 : decode cX6_atMost 9 = .ok (.iload_n 0, 1) := by decide +kernel
theorem dX6_atMost_10 : decode cX6_atMost 10 = .ok (.sipush 5000, 3) := by decide +kernel
theorem dX6_atMost_13 : decode cX6_atMost 13 = .ok (.idiv, 1) := by decide +kernel
theorem dX6_atMost_14 : decode cX6_atMost 14 = .ok (.invokestatic 33, 3) := by decide +kernel
theorem dX6_atMost_17 : decode cX6_atMost 17 = .ok (.lstore_n 2, 1) := by decide +kernel
theorem dX6_atMost_18 : decode cX6_atMost 18 = .ok (.iload_n 0, 1) := by decide +kernel
theorem dX6_atMost_19 : decode cX6_atMost 19 = .ok (.bipush 100, 2) := by decide +kernel
theorem dX6_atMost_21 : decode cX6_atMost 21 = .ok (.irem, 1) := by decide +kernel
theorem dX6_atMost_22 : decode cX6_atMost 22 = .ok (.ifCond .ne 21, 3) := by decide +kernel
theorem dX6_atMost_25 : decode cX6_atMost 25 = .ok (.iload_n 1, 1) := by decide +kernel
theorem dX6_atMost_26 : decode cX6_atMost 26 = .ok (.ifCond .ne 10, 3) := by decide +kernel
theorem dX6_atMost_29 : decode cX6_atMost 29 = .ok (.iload_n 0, 1) := by decide +kernel
theorem dX6_atMost_30 : decode cX6_atMost 30 = .ok (.invokestatic 37, 3) := by decide +kernel
theorem dX6_atMost_33 : decode cX6_atMost 33 = .ok (.goto 9, 3) := by decide +kernel
theorem dX6_atMost_36 : decode cX6_atMost 36 = .ok (.iload_n 0, 1) := by decide +kernel
theorem dX6_atMost_37 : decode cX6_atMost 37 = .ok (.invokestatic 37, 3) := by decide +kernel
theorem dX6_atMost_40 : decode cX6_atMost 40 = .ok (.lload_n 2, 1) := by decide +kernel
theorem dX6_atMost_41 : decode cX6_atMost 41 = .ok (.ladd, 1) := by decide +kernel
theorem dX6_atMost_42 : decode cX6_atMost 42 = .ok (.lreturn, 1) := by decide +kernel
theorem dX6_atMost_43 : decode cX6_atMost 43 = .ok (.iload_n 1, 1) := by decide +kernel
theorem dX6_atMost_44 : decode cX6_atMost 44 = .ok (.ifCond .lt 28, 3) := by decide +kernel
theorem dX6_atMost_47 : decode cX6_atMost 47 = .ok (.iload_n 1, 1) := by decide +kernel
theorem dX6_atMost_48 : decode cX6_atMost 48 = .ok (.iconst 1, 1) := by decide +kernel
theorem dX6_atMost_49 : decode cX6_atMost 49 = .ok (.iadd, 1) := by decide +kernel
theorem dX6_atMost_50 : decode cX6_atMost 50 = .ok (.getstatic 30, 3) := by decide +kernel
theorem dX6_atMost_53 : decode cX6_atMost 53 = .ok (.arraylength, 1) := by decide +kernel
theorem dX6_atMost_54 : decode cX6_atMost 54 = .ok (.if_icmp .ge 18, 3) := by decide +kernel
theorem dX6_atMost_57 : decode cX6_atMost 57 = .ok (.getstatic 30, 3) := by decide +kernel
theorem dX6_atMost_60 : decode cX6_atMost 60 = .ok (.iload_n 1, 1) := by decide +kernel
theorem dX6_atMost_61 : decode cX6_atMost 61 = .ok (.iconst 1, 1) := by decide +kernel
theorem dX6_atMost_62 : decode cX6_atMost 62 = .ok (.iadd, 1) := by decide +kernel
theorem dX6_atMost_63 : decode cX6_atMost 63 = .ok (.iaload, 1) := by decide +kernel
theorem dX6_atMost_64 : decode cX6_atMost 64 = .ok (.iconst 1, 1) := by decide +kernel
theorem dX6_atMost_65 : decode cX6_atMost 65 = .ok (.iadd, 1) := by decide +kernel
theorem dX6_atMost_66 : decode cX6_atMost 66 = .ok (.i2l, 1) := by decide +kernel
theorem dX6_atMost_67 : decode cX6_atMost 67 = .ok (.lload_n 2, 1) := by decide +kernel
theorem dX6_atMost_68 : decode cX6_atMost 68 = .ok (.lmul, 1) := by decide +kernel
theorem dX6_atMost_69 : decode cX6_atMost 69 = .ok (.goto 8, 3) := by decide +kernel
theorem dX6_atMost_72 : decode cX6_atMost 72 = .ok (.ldc2_w 40, 3) := by decide +kernel
theorem dX6_atMost_75 : decode cX6_atMost 75 = .ok (.lload_n 2, 1) := by decide +kernel
theorem dX6_atMost_76 : decode cX6_atMost 76 = .ok (.lmul, 1) := by decide +kernel
theorem dX6_atMost_77 : decode cX6_atMost 77 = .ok (.lreturn, 1) := by decide +kernel
theorem dX6_tenTimes_0 : decode cX6_tenTimes 0 = .ok (.lconst 1, 1) := by decide +kernel
theorem dX6_tenTimes_1 : decode cX6_tenTimes 1 = .ok (.lstore_n 1, 1) := by decide +kernel
theorem dX6_tenTimes_2 : decode cX6_tenTimes 2 = .ok (.iconst 0, 1) := by decide +kernel
theorem dX6_tenTimes_3 : decode cX6_tenTimes 3 = .ok (.istore_n 3, 1) := by decide +kernel
theorem dX6_tenTimes_4 : decode cX6_tenTimes 4 = .ok (.iload_n 3, 1) := by decide +kernel
theorem dX6_tenTimes_5 : decode cX6_tenTimes 5 = .ok (.iload_n 0, 1) := by decide +kernel
theorem dX6_tenTimes_6 : decode cX6_tenTimes 6 = .ok (.if_icmp .ge 15, 3) := by decide +kernel
theorem dX6_tenTimes_9 : decode cX6_tenTimes 9 = .ok (.lload_n 1, 1) := by decide +kernel
theorem dX6_tenTimes_10 : decode cX6_tenTimes 10 = .ok (.ldc2_w 42, 3) := by decide +kernel
theorem dX6_tenTimes_13 : decode cX6_tenTimes 13 = .ok (.lmul, 1) := by decide +kernel
theorem dX6_tenTimes_14 : decode cX6_tenTimes 14 = .ok (.lstore_n 1, 1) := by decide +kernel
theorem dX6_tenTimes_15 : decode cX6_tenTimes 15 = .ok (.iinc 3 1, 3) := by decide +kernel
theorem dX6_tenTimes_18 : decode cX6_tenTimes 18 = .ok (.goto (-14), 3) := by decide +kernel
theorem dX6_tenTimes_21 : decode cX6_tenTimes 21 = .ok (.lload_n 1, 1) := by decide +kernel
theorem dX6_tenTimes_22 : decode cX6_tenTimes 22 = .ok (.lreturn, 1) := by decide +kernel
theorem dX6_hear_0 : decode cX6_hear 0 = .ok (.aload_n 0, 1) := by decide +kernel
theorem dX6_hear_1 : decode cX6_hear 1 = .ok (.iload_n 2, 1) := by decide +kernel
theorem dX6_hear_2 : decode cX6_hear 2 = .ok (.putfield 26, 3) := by decide +kernel
theorem dX6_hear_5 : decode cX6_hear 5 = .ok (.iconst 0, 1) := by decide +kernel
theorem dX6_hear_6 : decode cX6_hear 6 = .ok (.istore_n 3, 1) := by decide +kernel
theorem dX6_hear_7 : decode cX6_hear 7 = .ok (.iload_n 3, 1) := by decide +kernel
theorem dX6_hear_8 : decode cX6_hear 8 = .ok (.bipush 10, 2) := by decide +kernel
theorem dX6_hear_10 : decode cX6_hear 10 = .ok (.if_icmp .ge 77, 3) := by decide +kernel
theorem dX6_hear_13 : decode cX6_hear 13 = .ok (.aload_n 0, 1) := by decide +kernel
theorem dX6_hear_14 : decode cX6_hear 14 = .ok (.getfield 15, 3) := by decide +kernel
theorem dX6_hear_17 : decode cX6_hear 17 = .ok (.iload_n 3, 1) := by decide +kernel
theorem dX6_hear_18 : decode cX6_hear 18 = .ok (.aload_n 0, 1) := by decide +kernel
theorem dX6_hear_19 : decode cX6_hear 19 = .ok (.getfield 9, 3) := by decide +kernel
theorem dX6_hear_22 : decode cX6_hear 22 = .ok (.iload_n 3, 1) := by decide +kernel
theorem dX6_hear_23 : decode cX6_hear 23 = .ok (.iaload, 1) := by decide +kernel
theorem dX6_hear_24 : decode cX6_hear 24 = .ok (.iconst (-1), 1) := by decide +kernel
theorem dX6_hear_25 : decode cX6_hear 25 = .ok (.if_icmp .eq 15, 3) := by decide +kernel
theorem dX6_hear_28 : decode cX6_hear 28 = .ok (.aload_n 1, 1) := by decide +kernel
theorem dX6_hear_29 : decode cX6_hear 29 = .ok (.iload_n 3, 1) := by decide +kernel
theorem dX6_hear_30 : decode cX6_hear 30 = .ok (.invokevirtual 44, 3) := by decide +kernel
theorem dX6_hear_33 : decode cX6_hear 33 = .ok (.ifCond .eq 7, 3) := by decide +kernel
theorem dX6_hear_36 : decode cX6_hear 36 = .ok (.iconst 1, 1) := by decide +kernel
theorem dX6_hear_37 : decode cX6_hear 37 = .ok (.goto 4, 3) := by decide +kernel
theorem dX6_hear_40 : decode cX6_hear 40 = .ok (.iconst 0, 1) := by decide +kernel
theorem dX6_hear_41 : decode cX6_hear 41 = .ok (.bastore, 1) := by decide +kernel
theorem dX6_hear_42 : decode cX6_hear 42 = .ok (.aload_n 0, 1) := by decide +kernel
theorem dX6_hear_43 : decode cX6_hear 43 = .ok (.getfield 15, 3) := by decide +kernel
theorem dX6_hear_46 : decode cX6_hear 46 = .ok (.iload_n 3, 1) := by decide +kernel
theorem dX6_hear_47 : decode cX6_hear 47 = .ok (.baload, 1) := by decide +kernel
theorem dX6_hear_48 : decode cX6_hear 48 = .ok (.ifCond .eq 33, 3) := by decide +kernel
theorem dX6_hear_51 : decode cX6_hear 51 = .ok (.aload_n 0, 1) := by decide +kernel
theorem dX6_hear_52 : decode cX6_hear 52 = .ok (.getfield 19, 3) := by decide +kernel
theorem dX6_hear_55 : decode cX6_hear 55 = .ok (.iload_n 3, 1) := by decide +kernel
theorem dX6_hear_56 : decode cX6_hear 56 = .ok (.aload_n 1, 1) := by decide +kernel
theorem dX6_hear_57 : decode cX6_hear 57 = .ok (.getfield 50, 3) := by decide +kernel
theorem dX6_hear_60 : decode cX6_hear 60 = .ok (.iload_n 3, 1) := by decide +kernel
theorem dX6_hear_61 : decode cX6_hear 61 = .ok (.iaload, 1) := by decide +kernel
theorem dX6_hear_62 : decode cX6_hear 62 = .ok (.invokestatic 37, 3) := by decide +kernel
theorem dX6_hear_65 : decode cX6_hear 65 = .ok (.lastore, 1) := by decide +kernel
theorem dX6_hear_66 : decode cX6_hear 66 = .ok (.aload_n 0, 1) := by decide +kernel
theorem dX6_hear_67 : decode cX6_hear 67 = .ok (.getfield 23, 3) := by decide +kernel
theorem dX6_hear_70 : decode cX6_hear 70 = .ok (.iload_n 3, 1) := by decide +kernel
theorem dX6_hear_71 : decode cX6_hear 71 = .ok (.aload_n 1, 1) := by decide +kernel
theorem dX6_hear_72 : decode cX6_hear 72 = .ok (.getfield 53, 3) := by decide +kernel
theorem dX6_hear_75 : decode cX6_hear 75 = .ok (.iload_n 3, 1) := by decide +kernel
theorem dX6_hear_76 : decode cX6_hear 76 = .ok (.iaload, 1) := by decide +kernel
theorem dX6_hear_77 : decode cX6_hear 77 = .ok (.invokestatic 56, 3) := by decide +kernel
theorem dX6_hear_80 : decode cX6_hear 80 = .ok (.lastore, 1) := by decide +kernel
theorem dX6_hear_81 : decode cX6_hear 81 = .ok (.iinc 3 1, 3) := by decide +kernel
theorem dX6_hear_84 : decode cX6_hear 84 = .ok (.goto (-77), 3) := by decide +kernel
theorem dX6_hear_87 : decode cX6_hear 87 = .ok (.return_, 1) := by decide +kernel
theorem dX6_howManySpeak_0 : decode cX6_howManySpeak 0 = .ok (.iconst 0, 1) := by decide +kernel
theorem dX6_howManySpeak_1 : decode cX6_howManySpeak 1 = .ok (.istore_n 1, 1) := by decide +kernel
theorem dX6_howManySpeak_2 : decode cX6_howManySpeak 2 = .ok (.iconst 0, 1) := by decide +kernel
theorem dX6_howManySpeak_3 : decode cX6_howManySpeak 3 = .ok (.istore_n 2, 1) := by decide +kernel
theorem dX6_howManySpeak_4 : decode cX6_howManySpeak 4 = .ok (.iload_n 2, 1) := by decide +kernel
theorem dX6_howManySpeak_5 : decode cX6_howManySpeak 5 = .ok (.bipush 10, 2) := by decide +kernel
theorem dX6_howManySpeak_7 : decode cX6_howManySpeak 7 = .ok (.if_icmp .ge 21, 3) := by decide +kernel
theorem dX6_howManySpeak_10 : decode cX6_howManySpeak 10 = .ok (.iload_n 1, 1) := by decide +kernel
theorem dX6_howManySpeak_11 : decode cX6_howManySpeak 11 = .ok (.aload_n 0, 1) := by decide +kernel
theorem dX6_howManySpeak_12 : decode cX6_howManySpeak 12 = .ok (.getfield 15, 3) := by decide +kernel
theorem dX6_howManySpeak_15 : decode cX6_howManySpeak 15 = .ok (.iload_n 2, 1) := by decide +kernel
theorem dX6_howManySpeak_16 : decode cX6_howManySpeak 16 = .ok (.baload, 1) := by decide +kernel
theorem dX6_howManySpeak_17 : decode cX6_howManySpeak 17 = .ok (.invokestatic 59, 3) := by decide +kernel
theorem dX6_howManySpeak_20 : decode cX6_howManySpeak 20 = .ok (.iadd, 1) := by decide +kernel
theorem dX6_howManySpeak_21 : decode cX6_howManySpeak 21 = .ok (.istore_n 1, 1) := by decide +kernel
theorem dX6_howManySpeak_22 : decode cX6_howManySpeak 22 = .ok (.iinc 2 1, 3) := by decide +kernel
theorem dX6_howManySpeak_25 : decode cX6_howManySpeak 25 = .ok (.goto (-21), 3) := by decide +kernel
theorem dX6_howManySpeak_28 : decode cX6_howManySpeak 28 = .ok (.iload_n 1, 1) := by decide +kernel
theorem dX6_howManySpeak_29 : decode cX6_howManySpeak 29 = .ok (.ireturn, 1) := by decide +kernel
theorem dX6_keptBoxes_0 : decode cX6_keptBoxes 0 = .ok (.iconst 0, 1) := by decide +kernel
theorem dX6_keptBoxes_1 : decode cX6_keptBoxes 1 = .ok (.istore_n 2, 1) := by decide +kernel
theorem dX6_keptBoxes_2 : decode cX6_keptBoxes 2 = .ok (.iconst (-1), 1) := by decide +kernel
theorem dX6_keptBoxes_3 : decode cX6_keptBoxes 3 = .ok (.istore_n 3, 1) := by decide +kernel
theorem dX6_keptBoxes_4 : decode cX6_keptBoxes 4 = .ok (.iconst (-1), 1) := by decide +kernel
theorem dX6_keptBoxes_5 : decode cX6_keptBoxes 5 = .ok (.istore 4, 2) := by decide +kernel
theorem dX6_keptBoxes_7 : decode cX6_keptBoxes 7 = .ok (.iconst 1, 1) := by decide +kernel
theorem dX6_keptBoxes_8 : decode cX6_keptBoxes 8 = .ok (.istore 5, 2) := by decide +kernel
theorem dX6_keptBoxes_10 : decode cX6_keptBoxes 10 = .ok (.iload 5, 2) := by decide +kernel
theorem dX6_keptBoxes_12 : decode cX6_keptBoxes 12 = .ok (.sipush 200, 3) := by decide +kernel
theorem dX6_keptBoxes_15 : decode cX6_keptBoxes 15 = .ok (.if_icmp .gt 38, 3) := by decide +kernel
theorem dX6_keptBoxes_18 : decode cX6_keptBoxes 18 = .ok (.aload_n 0, 1) := by decide +kernel
theorem dX6_keptBoxes_19 : decode cX6_keptBoxes 19 = .ok (.iload 5, 2) := by decide +kernel
theorem dX6_keptBoxes_21 : decode cX6_keptBoxes 21 = .ok (.invokevirtual 63, 3) := by decide +kernel
theorem dX6_keptBoxes_24 : decode cX6_keptBoxes 24 = .ok (.iconst (-1), 1) := by decide +kernel
theorem dX6_keptBoxes_25 : decode cX6_keptBoxes 25 = .ok (.if_icmp .ne 22, 3) := by decide +kernel
theorem dX6_keptBoxes_28 : decode cX6_keptBoxes 28 = .ok (.iinc 2 1, 3) := by decide +kernel
theorem dX6_keptBoxes_31 : decode cX6_keptBoxes 31 = .ok (.iload 5, 2) := by decide +kernel
theorem dX6_keptBoxes_33 : decode cX6_keptBoxes 33 = .ok (.istore 4, 2) := by decide +kernel
theorem dX6_keptBoxes_35 : decode cX6_keptBoxes 35 = .ok (.iload_n 3, 1) := by decide +kernel
theorem dX6_keptBoxes_36 : decode cX6_keptBoxes 36 = .ok (.iconst (-1), 1) := by decide +kernel
theorem dX6_keptBoxes_37 : decode cX6_keptBoxes 37 = .ok (.if_icmp .ne 8, 3) := by decide +kernel
theorem dX6_keptBoxes_40 : decode cX6_keptBoxes 40 = .ok (.iload 5, 2) := by decide +kernel
theorem dX6_keptBoxes_42 : decode cX6_keptBoxes 42 = .ok (.goto 4, 3) := by decide +kernel
theorem dX6_keptBoxes_45 : decode cX6_keptBoxes 45 = .ok (.iload_n 3, 1) := by decide +kernel
theorem dX6_keptBoxes_46 : decode cX6_keptBoxes 46 = .ok (.istore_n 3, 1) := by decide +kernel
theorem dX6_keptBoxes_47 : decode cX6_keptBoxes 47 = .ok (.iinc 5 1, 3) := by decide +kernel
theorem dX6_keptBoxes_50 : decode cX6_keptBoxes 50 = .ok (.goto (-40), 3) := by decide +kernel
theorem dX6_keptBoxes_53 : decode cX6_keptBoxes 53 = .ok (.iload_n 1, 1) := by decide +kernel
theorem dX6_keptBoxes_54 : decode cX6_keptBoxes 54 = .ok (.ifCond .ne 5, 3) := by decide +kernel
theorem dX6_keptBoxes_57 : decode cX6_keptBoxes 57 = .ok (.iload_n 2, 1) := by decide +kernel
theorem dX6_keptBoxes_58 : decode cX6_keptBoxes 58 = .ok (.ireturn, 1) := by decide +kernel
theorem dX6_keptBoxes_59 : decode cX6_keptBoxes 59 = .ok (.iload_n 1, 1) := by decide +kernel
theorem dX6_keptBoxes_60 : decode cX6_keptBoxes 60 = .ok (.iconst 1, 1) := by decide +kernel
theorem dX6_keptBoxes_61 : decode cX6_keptBoxes 61 = .ok (.if_icmp .ne 7, 3) := by decide +kernel
theorem dX6_keptBoxes_64 : decode cX6_keptBoxes 64 = .ok (.iload_n 3, 1) := by decide +kernel
theorem dX6_keptBoxes_65 : decode cX6_keptBoxes 65 = .ok (.goto 5, 3) := by decide +kernel
theorem dX6_keptBoxes_68 : decode cX6_keptBoxes 68 = .ok (.iload 4, 2) := by decide +kernel
theorem dX6_keptBoxes_70 : decode cX6_keptBoxes 70 = .ok (.ireturn, 1) := by decide +kernel
theorem dX6_firstAgainst_0 : decode cX6_firstAgainst 0 = .ok (.iconst 0, 1) := by decide +kernel
theorem dX6_firstAgainst_1 : decode cX6_firstAgainst 1 = .ok (.istore_n 2, 1) := by decide +kernel
theorem dX6_firstAgainst_2 : decode cX6_firstAgainst 2 = .ok (.iload_n 2, 1) := by decide +kernel
theorem dX6_firstAgainst_3 : decode cX6_firstAgainst 3 = .ok (.bipush 10, 2) := by decide +kernel
theorem dX6_firstAgainst_5 : decode cX6_firstAgainst 5 = .ok (.if_icmp .ge 29, 3) := by decide +kernel
theorem dX6_firstAgainst_8 : decode cX6_firstAgainst 8 = .ok (.aload_n 0, 1) := by decide +kernel
theorem dX6_firstAgainst_9 : decode cX6_firstAgainst 9 = .ok (.getfield 15, 3) := by decide +kernel
theorem dX6_firstAgainst_12 : decode cX6_firstAgainst 12 = .ok (.iload_n 2, 1) := by decide +kernel
theorem dX6_firstAgainst_13 : decode cX6_firstAgainst 13 = .ok (.baload, 1) := by decide +kernel
theorem dX6_firstAgainst_14 : decode cX6_firstAgainst 14 = .ok (.ifCond .eq 14, 3) := by decide +kernel
theorem dX6_firstAgainst_17 : decode cX6_firstAgainst 17 = .ok (.aload_n 0, 1) := by decide +kernel
theorem dX6_firstAgainst_18 : decode cX6_firstAgainst 18 = .ok (.iload_n 2, 1) := by decide +kernel
theorem dX6_firstAgainst_19 : decode cX6_firstAgainst 19 = .ok (.iload_n 1, 1) := by decide +kernel
theorem dX6_firstAgainst_20 : decode cX6_firstAgainst 20 = .ok (.invokevirtual 67, 3) := by decide +kernel
theorem dX6_firstAgainst_23 : decode cX6_firstAgainst 23 = .ok (.ifCond .ne 5, 3) := by decide +kernel
theorem dX6_firstAgainst_26 : decode cX6_firstAgainst 26 = .ok (.iload_n 2, 1) := by decide +kernel
theorem dX6_firstAgainst_27 : decode cX6_firstAgainst 27 = .ok (.ireturn, 1) := by decide +kernel
theorem dX6_firstAgainst_28 : decode cX6_firstAgainst 28 = .ok (.iinc 2 1, 3) := by decide +kernel
theorem dX6_firstAgainst_31 : decode cX6_firstAgainst 31 = .ok (.goto (-29), 3) := by decide +kernel
theorem dX6_firstAgainst_34 : decode cX6_firstAgainst 34 = .ok (.iconst (-1), 1) := by decide +kernel
theorem dX6_firstAgainst_35 : decode cX6_firstAgainst 35 = .ok (.ireturn, 1) := by decide +kernel
theorem dX6_couldHave_0 : decode cX6_couldHave 0 = .ok (.iload_n 2, 1) := by decide +kernel
theorem dX6_couldHave_1 : decode cX6_couldHave 1 = .ok (.i2l, 1) := by decide +kernel
theorem dX6_couldHave_2 : decode cX6_couldHave 2 = .ok (.aload_n 0, 1) := by decide +kernel
theorem dX6_couldHave_3 : decode cX6_couldHave 3 = .ok (.getfield 19, 3) := by decide +kernel
theorem dX6_couldHave_6 : decode cX6_couldHave 6 = .ok (.iload_n 1, 1) := by decide +kernel
theorem dX6_couldHave_7 : decode cX6_couldHave 7 = .ok (.laload, 1) := by decide +kernel
theorem dX6_couldHave_8 : decode cX6_couldHave 8 = .ok (.lmul, 1) := by decide +kernel
theorem dX6_couldHave_9 : decode cX6_couldHave 9 = .ok (.ldc2_w 71, 3) := by decide +kernel
theorem dX6_couldHave_12 : decode cX6_couldHave 12 = .ok (.invokestatic 73, 3) := by decide +kernel
theorem dX6_couldHave_15 : decode cX6_couldHave 15 = .ok (.lstore_n 3, 1) := by decide +kernel
theorem dX6_couldHave_16 : decode cX6_couldHave 16 = .ok (.iload_n 2, 1) := by decide +kernel
theorem dX6_couldHave_17 : decode cX6_couldHave 17 = .ok (.ineg, 1) := by decide +kernel
theorem dX6_couldHave_18 : decode cX6_couldHave 18 = .ok (.i2l, 1) := by decide +kernel
theorem dX6_couldHave_19 : decode cX6_couldHave 19 = .ok (.aload_n 0, 1) := by decide +kernel
theorem dX6_couldHave_20 : decode cX6_couldHave 20 = .ok (.getfield 23, 3) := by decide +kernel
theorem dX6_couldHave_23 : decode cX6_couldHave 23 = .ok (.iload_n 1, 1) := by decide +kernel
theorem dX6_couldHave_24 : decode cX6_couldHave 24 = .ok (.laload, 1) := by decide +kernel
theorem dX6_couldHave_25 : decode cX6_couldHave 25 = .ok (.lmul, 1) := by decide +kernel
theorem dX6_couldHave_26 : decode cX6_couldHave 26 = .ok (.ldc2_w 71, 3) := by decide +kernel
theorem dX6_couldHave_29 : decode cX6_couldHave 29 = .ok (.invokestatic 73, 3) := by decide +kernel
theorem dX6_couldHave_32 : decode cX6_couldHave 32 = .ok (.lneg, 1) := by decide +kernel
theorem dX6_couldHave_33 : decode cX6_couldHave 33 = .ok (.lstore 5, 2) := by decide +kernel
theorem dX6_couldHave_35 : decode cX6_couldHave 35 = .ok (.aload_n 0, 1) := by decide +kernel
theorem dX6_couldHave_36 : decode cX6_couldHave 36 = .ok (.getfield 9, 3) := by decide +kernel
theorem dX6_couldHave_39 : decode cX6_couldHave 39 = .ok (.iload_n 1, 1) := by decide +kernel
theorem dX6_couldHave_40 : decode cX6_couldHave 40 = .ok (.iaload, 1) := by decide +kernel
theorem dX6_couldHave_41 : decode cX6_couldHave 41 = .ok (.i2l, 1) := by decide +kernel
theorem dX6_couldHave_42 : decode cX6_couldHave 42 = .ok (.lload_n 3, 1) := by decide +kernel
theorem dX6_couldHave_43 : decode cX6_couldHave 43 = .ok (.aload_n 0, 1) := by decide +kernel
theorem dX6_couldHave_44 : decode cX6_couldHave 44 = .ok (.getfield 26, 3) := by decide +kernel
theorem dX6_couldHave_47 : decode cX6_couldHave 47 = .ok (.i2l, 1) := by decide +kernel
theorem dX6_couldHave_48 : decode cX6_couldHave 48 = .ok (.lsub, 1) := by decide +kernel
theorem dX6_couldHave_49 : decode cX6_couldHave 49 = .ok (.lcmp, 1) := by decide +kernel
theorem dX6_couldHave_50 : decode cX6_couldHave 50 = .ok (.ifCond .lt 26, 3) := by decide +kernel
theorem dX6_couldHave_53 : decode cX6_couldHave 53 = .ok (.aload_n 0, 1) := by decide +kernel
theorem dX6_couldHave_54 : decode cX6_couldHave 54 = .ok (.getfield 9, 3) := by decide +kernel
theorem dX6_couldHave_57 : decode cX6_couldHave 57 = .ok (.iload_n 1, 1) := by decide +kernel
theorem dX6_couldHave_58 : decode cX6_couldHave 58 = .ok (.iaload, 1) := by decide +kernel
theorem dX6_couldHave_59 : decode cX6_couldHave 59 = .ok (.i2l, 1) := by decide +kernel
theorem dX6_couldHave_60 : decode cX6_couldHave 60 = .ok (.lload 5, 2) := by decide +kernel
theorem dX6_couldHave_62 : decode cX6_couldHave 62 = .ok (.aload_n 0, 1) := by decide +kernel
theorem dX6_couldHave_63 : decode cX6_couldHave 63 = .ok (.getfield 26, 3) := by decide +kernel
theorem dX6_couldHave_66 : decode cX6_couldHave 66 = .ok (.i2l, 1) := by decide +kernel
theorem dX6_couldHave_67 : decode cX6_couldHave 67 = .ok (.ladd, 1) := by decide +kernel
theorem dX6_couldHave_68 : decode cX6_couldHave 68 = .ok (.lcmp, 1) := by decide +kernel
theorem dX6_couldHave_69 : decode cX6_couldHave 69 = .ok (.ifCond .gt 7, 3) := by decide +kernel
theorem dX6_couldHave_72 : decode cX6_couldHave 72 = .ok (.iconst 1, 1) := by decide +kernel
theorem dX6_couldHave_73 : decode cX6_couldHave 73 = .ok (.goto 4, 3) := by decide +kernel
theorem dX6_couldHave_76 : decode cX6_couldHave 76 = .ok (.iconst 0, 1) := by decide +kernel
theorem dX6_couldHave_77 : decode cX6_couldHave 77 = .ok (.ireturn, 1) := by decide +kernel
theorem dJ9_floorDiv_7cf53_0 : decode cJ9_floorDiv_7cf53 0 = .ok (.iload_n 0, 1) := by decide +kernel
theorem dJ9_floorDiv_7cf53_1 : decode cJ9_floorDiv_7cf53 1 = .ok (.iload_n 1, 1) := by decide +kernel
theorem dJ9_floorDiv_7cf53_2 : decode cJ9_floorDiv_7cf53 2 = .ok (.idiv, 1) := by decide +kernel
theorem dJ9_floorDiv_7cf53_3 : decode cJ9_floorDiv_7cf53 3 = .ok (.istore_n 2, 1) := by decide +kernel
theorem dJ9_floorDiv_7cf53_4 : decode cJ9_floorDiv_7cf53 4 = .ok (.iload_n 0, 1) := by decide +kernel
theorem dJ9_floorDiv_7cf53_5 : decode cJ9_floorDiv_7cf53 5 = .ok (.iload_n 1, 1) := by decide +kernel
theorem dJ9_floorDiv_7cf53_6 : decode cJ9_floorDiv_7cf53 6 = .ok (.ixor, 1) := by decide +kernel
theorem dJ9_floorDiv_7cf53_7 : decode cJ9_floorDiv_7cf53 7 = .ok (.ifCond .ge 14, 3) := by decide +kernel
theorem dJ9_floorDiv_7cf53_10 : decode cJ9_floorDiv_7cf53 10 = .ok (.iload_n 2, 1) := by decide +kernel
theorem dJ9_floorDiv_7cf53_11 : decode cJ9_floorDiv_7cf53 11 = .ok (.iload_n 1, 1) := by decide +kernel
theorem dJ9_floorDiv_7cf53_12 : decode cJ9_floorDiv_7cf53 12 = .ok (.imul, 1) := by decide +kernel
theorem dJ9_floorDiv_7cf53_13 : decode cJ9_floorDiv_7cf53 13 = .ok (.iload_n 0, 1) := by decide +kernel
theorem dJ9_floorDiv_7cf53_14 : decode cJ9_floorDiv_7cf53 14 = .ok (.if_icmp .eq 7, 3) := by decide +kernel
theorem dJ9_floorDiv_7cf53_17 : decode cJ9_floorDiv_7cf53 17 = .ok (.iload_n 2, 1) := by decide +kernel
theorem dJ9_floorDiv_7cf53_18 : decode cJ9_floorDiv_7cf53 18 = .ok (.iconst 1, 1) := by decide +kernel
theorem dJ9_floorDiv_7cf53_19 : decode cJ9_floorDiv_7cf53 19 = .ok (.isub, 1) := by decide +kernel
theorem dJ9_floorDiv_7cf53_20 : decode cJ9_floorDiv_7cf53 20 = .ok (.ireturn, 1) := by decide +kernel
theorem dJ9_floorDiv_7cf53_21 : decode cJ9_floorDiv_7cf53 21 = .ok (.iload_n 2, 1) := by decide +kernel
theorem dJ9_floorDiv_7cf53_22 : decode cJ9_floorDiv_7cf53 22 = .ok (.ireturn, 1) := by decide +kernel
theorem dJ9_floorDiv_f86c9_0 : decode cJ9_floorDiv_f86c9 0 = .ok (.lload_n 0, 1) := by decide +kernel
theorem dJ9_floorDiv_f86c9_1 : decode cJ9_floorDiv_f86c9 1 = .ok (.lload_n 2, 1) := by decide +kernel
theorem dJ9_floorDiv_f86c9_2 : decode cJ9_floorDiv_f86c9 2 = .ok (.ldiv, 1) := by decide +kernel
theorem dJ9_floorDiv_f86c9_3 : decode cJ9_floorDiv_f86c9 3 = .ok (.lstore 4, 2) := by decide +kernel
theorem dJ9_floorDiv_f86c9_5 : decode cJ9_floorDiv_f86c9 5 = .ok (.lload_n 0, 1) := by decide +kernel
theorem dJ9_floorDiv_f86c9_6 : decode cJ9_floorDiv_f86c9 6 = .ok (.lload_n 2, 1) := by decide +kernel
theorem dJ9_floorDiv_f86c9_7 : decode cJ9_floorDiv_f86c9 7 = .ok (.lxor, 1) := by decide +kernel
theorem dJ9_floorDiv_f86c9_8 : decode cJ9_floorDiv_f86c9 8 = .ok (.lconst 0, 1) := by decide +kernel
theorem dJ9_floorDiv_f86c9_9 : decode cJ9_floorDiv_f86c9 9 = .ok (.lcmp, 1) := by decide +kernel
theorem dJ9_floorDiv_f86c9_10 : decode cJ9_floorDiv_f86c9 10 = .ok (.ifCond .ge 17, 3) := by decide +kernel
theorem dJ9_floorDiv_f86c9_13 : decode cJ9_floorDiv_f86c9 13 = .ok (.lload 4, 2) := by decide +kernel
theorem dJ9_floorDiv_f86c9_15 : decode cJ9_floorDiv_f86c9 15 = .ok (.lload_n 2, 1) := by decide +kernel
theorem dJ9_floorDiv_f86c9_16 : decode cJ9_floorDiv_f86c9 16 = .ok (.lmul, 1) := by decide +kernel
theorem dJ9_floorDiv_f86c9_17 : decode cJ9_floorDiv_f86c9 17 = .ok (.lload_n 0, 1) := by decide +kernel
theorem dJ9_floorDiv_f86c9_18 : decode cJ9_floorDiv_f86c9 18 = .ok (.lcmp, 1) := by decide +kernel
theorem dJ9_floorDiv_f86c9_19 : decode cJ9_floorDiv_f86c9 19 = .ok (.ifCond .eq 8, 3) := by decide +kernel
theorem dJ9_floorDiv_f86c9_22 : decode cJ9_floorDiv_f86c9 22 = .ok (.lload 4, 2) := by decide +kernel
theorem dJ9_floorDiv_f86c9_24 : decode cJ9_floorDiv_f86c9 24 = .ok (.lconst 1, 1) := by decide +kernel
theorem dJ9_floorDiv_f86c9_25 : decode cJ9_floorDiv_f86c9 25 = .ok (.lsub, 1) := by decide +kernel
theorem dJ9_floorDiv_f86c9_26 : decode cJ9_floorDiv_f86c9 26 = .ok (.lreturn, 1) := by decide +kernel
theorem dJ9_floorDiv_f86c9_27 : decode cJ9_floorDiv_f86c9 27 = .ok (.lload 4, 2) := by decide +kernel
theorem dJ9_floorDiv_f86c9_29 : decode cJ9_floorDiv_f86c9 29 = .ok (.lreturn, 1) := by decide +kernel
theorem dJ9_max_7cf53_0 : decode cJ9_max_7cf53 0 = .ok (.iload_n 0, 1) := by decide +kernel
theorem dJ9_max_7cf53_1 : decode cJ9_max_7cf53 1 = .ok (.iload_n 1, 1) := by decide +kernel
theorem dJ9_max_7cf53_2 : decode cJ9_max_7cf53 2 = .ok (.if_icmp .lt 7, 3) := by decide +kernel
theorem dJ9_max_7cf53_5 : decode cJ9_max_7cf53 5 = .ok (.iload_n 0, 1) := by decide +kernel
theorem dJ9_max_7cf53_6 : decode cJ9_max_7cf53 6 = .ok (.goto 4, 3) := by decide +kernel
theorem dJ9_max_7cf53_9 : decode cJ9_max_7cf53 9 = .ok (.iload_n 1, 1) := by decide +kernel
theorem dJ9_max_7cf53_10 : decode cJ9_max_7cf53 10 = .ok (.ireturn, 1) := by decide +kernel
theorem dJ9_max_f86c9_0 : decode cJ9_max_f86c9 0 = .ok (.lload_n 0, 1) := by decide +kernel
theorem dJ9_max_f86c9_1 : decode cJ9_max_f86c9 1 = .ok (.lload_n 2, 1) := by decide +kernel
theorem dJ9_max_f86c9_2 : decode cJ9_max_f86c9 2 = .ok (.lcmp, 1) := by decide +kernel
theorem dJ9_max_f86c9_3 : decode cJ9_max_f86c9 3 = .ok (.ifCond .lt 7, 3) := by decide +kernel
theorem dJ9_max_f86c9_6 : decode cJ9_max_f86c9 6 = .ok (.lload_n 0, 1) := by decide +kernel
theorem dJ9_max_f86c9_7 : decode cJ9_max_f86c9 7 = .ok (.goto 4, 3) := by decide +kernel
theorem dJ9_max_f86c9_10 : decode cJ9_max_f86c9 10 = .ok (.lload_n 2, 1) := by decide +kernel
theorem dJ9_max_f86c9_11 : decode cJ9_max_f86c9 11 = .ok (.lreturn, 1) := by decide +kernel
theorem dJ9_min_7cf53_0 : decode cJ9_min_7cf53 0 = .ok (.iload_n 0, 1) := by decide +kernel
theorem dJ9_min_7cf53_1 : decode cJ9_min_7cf53 1 = .ok (.iload_n 1, 1) := by decide +kernel
theorem dJ9_min_7cf53_2 : decode cJ9_min_7cf53 2 = .ok (.if_icmp .gt 7, 3) := by decide +kernel
theorem dJ9_min_7cf53_5 : decode cJ9_min_7cf53 5 = .ok (.iload_n 0, 1) := by decide +kernel
theorem dJ9_min_7cf53_6 : decode cJ9_min_7cf53 6 = .ok (.goto 4, 3) := by decide +kernel
theorem dJ9_min_7cf53_9 : decode cJ9_min_7cf53 9 = .ok (.iload_n 1, 1) := by decide +kernel
theorem dJ9_min_7cf53_10 : decode cJ9_min_7cf53 10 = .ok (.ireturn, 1) := by decide +kernel
theorem dJ0_length_8abf5_0 : decode cJ0_length_8abf5 0 = .ok (.aload_n 0, 1) := by decide +kernel
theorem dJ0_length_8abf5_1 : decode cJ0_length_8abf5 1 = .ok (.getfield 9, 3) := by decide +kernel
theorem dJ0_length_8abf5_4 : decode cJ0_length_8abf5 4 = .ok (.arraylength, 1) := by decide +kernel
theorem dJ0_length_8abf5_5 : decode cJ0_length_8abf5 5 = .ok (.aload_n 0, 1) := by decide +kernel
theorem dJ0_length_8abf5_6 : decode cJ0_length_8abf5 6 = .ok (.invokevirtual 335, 3) := by decide +kernel
theorem dJ0_length_8abf5_9 : decode cJ0_length_8abf5 9 = .ok (.ishr, 1) := by decide +kernel
theorem dJ0_length_8abf5_10 : decode cJ0_length_8abf5 10 = .ok (.ireturn, 1) := by decide +kernel
theorem dJ0_charAt_5068e_0 : decode cJ0_charAt_5068e 0 = .ok (.aload_n 0, 1) := by decide +kernel
theorem dJ0_charAt_5068e_1 : decode cJ0_charAt_5068e 1 = .ok (.invokevirtual 492, 3) := by decide +kernel
theorem dJ0_charAt_5068e_4 : decode cJ0_charAt_5068e 4 = .ok (.ifCond .eq 12, 3) := by decide +kernel
theorem dJ0_charAt_5068e_7 : decode cJ0_charAt_5068e 7 = .ok (.aload_n 0, 1) := by decide +kernel
theorem dJ0_charAt_5068e_8 : decode cJ0_charAt_5068e 8 = .ok (.getfield 9, 3) := by decide +kernel
theorem dJ0_charAt_5068e_11 : decode cJ0_charAt_5068e 11 = .ok (.iload_n 1, 1) := by decide +kernel
theorem dJ0_charAt_5068e_12 : decode cJ0_charAt_5068e 12 = .ok (.invokestatic 495, 3) := by decide +kernel
theorem dJ0_charAt_5068e_15 : decode cJ0_charAt_5068e 15 = .ok (.ireturn, 1) := by decide +kernel
theorem dJ0_charAt_5068e_16 : decode cJ0_charAt_5068e 16 = .ok (.aload_n 0, 1) := by decide +kernel
theorem dJ0_charAt_5068e_17 : decode cJ0_charAt_5068e 17 = .ok (.getfield 9, 3) := by decide +kernel
theorem dJ0_charAt_5068e_20 : decode cJ0_charAt_5068e 20 = .ok (.iload_n 1, 1) := by decide +kernel
theorem dJ0_charAt_5068e_21 : decode cJ0_charAt_5068e 21 = .ok (.invokestatic 498, 3) := by decide +kernel
theorem dJ0_charAt_5068e_24 : decode cJ0_charAt_5068e 24 = .ok (.ireturn, 1) := by decide +kernel
theorem dJ0_coder_7d493_0 : decode cJ0_coder_7d493 0 = .ok (.getstatic 38, 3) := by decide +kernel
theorem dJ0_coder_7d493_3 : decode cJ0_coder_7d493 3 = .ok (.ifCond .eq 10, 3) := by decide +kernel
theorem dJ0_coder_7d493_6 : decode cJ0_coder_7d493 6 = .ok (.aload_n 0, 1) := by decide +kernel
theorem dJ0_coder_7d493_7 : decode cJ0_coder_7d493 7 = .ok (.getfield 15, 3) := by decide +kernel
theorem dJ0_coder_7d493_10 : decode cJ0_coder_7d493 10 = .ok (.goto 4, 3) := by decide +kernel
theorem dJ0_coder_7d493_13 : decode cJ0_coder_7d493 13 = .ok (.iconst 1, 1) := by decide +kernel
theorem dJ0_coder_7d493_14 : decode cJ0_coder_7d493 14 = .ok (.ireturn, 1) := by decide +kernel
theorem dJ0_isLatin1_aae02_0 : decode cJ0_isLatin1_aae02 0 = .ok (.getstatic 38, 3) := by decide +kernel
theorem dJ0_isLatin1_aae02_3 : decode cJ0_isLatin1_aae02 3 = .ok (.ifCond .eq 14, 3) := by decide +kernel
theorem dJ0_isLatin1_aae02_6 : decode cJ0_isLatin1_aae02 6 = .ok (.aload_n 0, 1) := by decide +kernel
theorem dJ0_isLatin1_aae02_7 : decode cJ0_isLatin1_aae02 7 = .ok (.getfield 15, 3) := by decide +kernel
theorem dJ0_isLatin1_aae02_10 : decode cJ0_isLatin1_aae02 10 = .ok (.ifCond .ne 7, 3) := by decide +kernel
theorem dJ0_isLatin1_aae02_13 : decode cJ0_isLatin1_aae02 13 = .ok (.iconst 1, 1) := by decide +kernel
theorem dJ0_isLatin1_aae02_14 : decode cJ0_isLatin1_aae02 14 = .ok (.goto 4, 3) := by decide +kernel
theorem dJ0_isLatin1_aae02_17 : decode cJ0_isLatin1_aae02 17 = .ok (.iconst 0, 1) := by decide +kernel
theorem dJ0_isLatin1_aae02_18 : decode cJ0_isLatin1_aae02 18 = .ok (.ireturn, 1) := by decide +kernel
theorem dJ0_checkIndex_df160_0 : decode cJ0_checkIndex_df160 0 = .ok (.iload_n 0, 1) := by decide +kernel
theorem dJ0_checkIndex_df160_1 : decode cJ0_checkIndex_df160 1 = .ok (.iload_n 1, 1) := by decide +kernel
theorem dJ0_checkIndex_df160_2 : decode cJ0_checkIndex_df160 2 = .ok (.getstatic 1053, 3) := by decide +kernel
theorem dJ0_checkIndex_df160_5 : decode cJ0_checkIndex_df160 5 = .ok (.invokestatic 1059, 3) := by decide +kernel
theorem dJ0_checkIndex_df160_8 : decode cJ0_checkIndex_df160 8 = .ok (.pop, 1) := by decide +kernel
theorem dJ0_checkIndex_df160_9 : decode cJ0_checkIndex_df160 9 = .ok (.return_, 1) := by decide +kernel
theorem dJ1_charAt_3b067_0 : decode cJ1_charAt_3b067 0 = .ok (.iload_n 1, 1) := by decide +kernel
theorem dJ1_charAt_3b067_1 : decode cJ1_charAt_3b067 1 = .ok (.aload_n 0, 1) := by decide +kernel
theorem dJ1_charAt_3b067_2 : decode cJ1_charAt_3b067 2 = .ok (.arraylength, 1) := by decide +kernel
theorem dJ1_charAt_3b067_3 : decode cJ1_charAt_3b067 3 = .ok (.invokestatic 9, 3) := by decide +kernel
theorem dJ1_charAt_3b067_6 : decode cJ1_charAt_3b067 6 = .ok (.aload_n 0, 1) := by decide +kernel
theorem dJ1_charAt_3b067_7 : decode cJ1_charAt_3b067 7 = .ok (.iload_n 1, 1) := by decide +kernel
theorem dJ1_charAt_3b067_8 : decode cJ1_charAt_3b067 8 = .ok (.baload, 1) := by decide +kernel
theorem dJ1_charAt_3b067_9 : decode cJ1_charAt_3b067 9 = .ok (.sipush 255, 3) := by decide +kernel
theorem dJ1_charAt_3b067_12 : decode cJ1_charAt_3b067 12 = .ok (.iand, 1) := by decide +kernel
theorem dJ1_charAt_3b067_13 : decode cJ1_charAt_3b067 13 = .ok (.i2c, 1) := by decide +kernel
theorem dJ1_charAt_3b067_14 : decode cJ1_charAt_3b067 14 = .ok (.ireturn, 1) := by decide +kernel
theorem dJ2_getChar_3b067_0 : decode cJ2_getChar_3b067 0 = .ok (.getstatic 44, 3) := by decide +kernel
theorem dJ2_getChar_3b067_3 : decode cJ2_getChar_3b067 3 = .ok (.ifCond .ne 25, 3) := by decide +kernel
theorem dJ2_getChar_3b067_6 : decode cJ2_getChar_3b067 6 = .ok (.iload_n 1, 1) := by decide +kernel
theorem dJ2_getChar_3b067_7 : decode cJ2_getChar_3b067 7 = .ok (.ifCond .lt 11, 3) := by decide +kernel
theorem dJ2_getChar_3b067_10 : decode cJ2_getChar_3b067 10 = .ok (.iload_n 1, 1) := by decide +kernel
theorem dJ2_getChar_3b067_11 : decode cJ2_getChar_3b067 11 = .ok (.aload_n 0, 1) := by decide +kernel
theorem dJ2_getChar_3b067_12 : decode cJ2_getChar_3b067 12 = .ok (.invokestatic 48, 3) := by decide +kernel
theorem dJ2_getChar_3b067_15 : decode cJ2_getChar_3b067 15 = .ok (.if_icmp .lt 13, 3) := by decide +kernel
theorem dJ2_getChar_3b067_18 : decode cJ2_getChar_3b067 18 = .ok (.new 52, 3) := by decide +kernel
theorem dJ2_getChar_3b067_21 : decode cJ2_getChar_3b067 21 = .ok (.dup, 1) := by decide +kernel
theorem dJ2_getChar_3b067_22 : decode cJ2_getChar_3b067 22 = .ok (.ldc 54, 2) := by decide +kernel
theorem dJ2_getChar_3b067_24 : decode cJ2_getChar_3b067 24 = .ok (.invokespecial 56, 3) := by decide +kernel
theorem dJ2_getChar_3b067_27 : decode cJ2_getChar_3b067 27 = .ok (.athrow, 1) := by decide +kernel
theorem dJ2_getChar_3b067_28 : decode cJ2_getChar_3b067 28 = .ok (.iload_n 1, 1) := by decide +kernel
theorem dJ2_getChar_3b067_29 : decode cJ2_getChar_3b067 29 = .ok (.iconst 1, 1) := by decide +kernel
theorem dJ2_getChar_3b067_30 : decode cJ2_getChar_3b067 30 = .ok (.ishl, 1) := by decide +kernel
theorem dJ2_getChar_3b067_31 : decode cJ2_getChar_3b067 31 = .ok (.istore_n 1, 1) := by decide +kernel
theorem dJ2_getChar_3b067_32 : decode cJ2_getChar_3b067 32 = .ok (.aload_n 0, 1) := by decide +kernel
theorem dJ2_getChar_3b067_33 : decode cJ2_getChar_3b067 33 = .ok (.iload_n 1, 1) := by decide +kernel
theorem dJ2_getChar_3b067_34 : decode cJ2_getChar_3b067 34 = .ok (.iinc 1 1, 3) := by decide +kernel
theorem dJ2_getChar_3b067_37 : decode cJ2_getChar_3b067 37 = .ok (.baload, 1) := by decide +kernel
theorem dJ2_getChar_3b067_38 : decode cJ2_getChar_3b067 38 = .ok (.sipush 255, 3) := by decide +kernel
theorem dJ2_getChar_3b067_41 : decode cJ2_getChar_3b067 41 = .ok (.iand, 1) := by decide +kernel
theorem dJ2_getChar_3b067_42 : decode cJ2_getChar_3b067 42 = .ok (.getstatic 59, 3) := by decide +kernel
theorem dJ2_getChar_3b067_45 : decode cJ2_getChar_3b067 45 = .ok (.ishl, 1) := by decide +kernel
theorem dJ2_getChar_3b067_46 : decode cJ2_getChar_3b067 46 = .ok (.aload_n 0, 1) := by decide +kernel
theorem dJ2_getChar_3b067_47 : decode cJ2_getChar_3b067 47 = .ok (.iload_n 1, 1) := by decide +kernel
theorem dJ2_getChar_3b067_48 : decode cJ2_getChar_3b067 48 = .ok (.baload, 1) := by decide +kernel
theorem dJ2_getChar_3b067_49 : decode cJ2_getChar_3b067 49 = .ok (.sipush 255, 3) := by decide +kernel
theorem dJ2_getChar_3b067_52 : decode cJ2_getChar_3b067 52 = .ok (.iand, 1) := by decide +kernel
theorem dJ2_getChar_3b067_53 : decode cJ2_getChar_3b067 53 = .ok (.getstatic 63, 3) := by decide +kernel
theorem dJ2_getChar_3b067_56 : decode cJ2_getChar_3b067 56 = .ok (.ishl, 1) := by decide +kernel
theorem dJ2_getChar_3b067_57 : decode cJ2_getChar_3b067 57 = .ok (.ior, 1) := by decide +kernel
theorem dJ2_getChar_3b067_58 : decode cJ2_getChar_3b067 58 = .ok (.i2c, 1) := by decide +kernel
theorem dJ2_getChar_3b067_59 : decode cJ2_getChar_3b067 59 = .ok (.ireturn, 1) := by decide +kernel
theorem dJ2_length_9d52b_0 : decode cJ2_length_9d52b 0 = .ok (.aload_n 0, 1) := by decide +kernel
theorem dJ2_length_9d52b_1 : decode cJ2_length_9d52b 1 = .ok (.arraylength, 1) := by decide +kernel
theorem dJ2_length_9d52b_2 : decode cJ2_length_9d52b 2 = .ok (.iconst 1, 1) := by decide +kernel
theorem dJ2_length_9d52b_3 : decode cJ2_length_9d52b 3 = .ok (.ishr, 1) := by decide +kernel
theorem dJ2_length_9d52b_4 : decode cJ2_length_9d52b 4 = .ok (.ireturn, 1) := by decide +kernel
theorem dJ2_charAt_3b067_0 : decode cJ2_charAt_3b067 0 = .ok (.iload_n 1, 1) := by decide +kernel
theorem dJ2_charAt_3b067_1 : decode cJ2_charAt_3b067 1 = .ok (.aload_n 0, 1) := by decide +kernel
theorem dJ2_charAt_3b067_2 : decode cJ2_charAt_3b067 2 = .ok (.invokestatic 67, 3) := by decide +kernel
theorem dJ2_charAt_3b067_5 : decode cJ2_charAt_3b067 5 = .ok (.aload_n 0, 1) := by decide +kernel
theorem dJ2_charAt_3b067_6 : decode cJ2_charAt_3b067 6 = .ok (.iload_n 1, 1) := by decide +kernel
theorem dJ2_charAt_3b067_7 : decode cJ2_charAt_3b067 7 = .ok (.invokestatic 71, 3) := by decide +kernel
theorem dJ2_charAt_3b067_10 : decode cJ2_charAt_3b067 10 = .ok (.ireturn, 1) := by decide +kernel
theorem dJ2_checkIndex_2214a_0 : decode cJ2_checkIndex_2214a 0 = .ok (.iload_n 0, 1) := by decide +kernel
theorem dJ2_checkIndex_2214a_1 : decode cJ2_checkIndex_2214a 1 = .ok (.aload_n 1, 1) := by decide +kernel
theorem dJ2_checkIndex_2214a_2 : decode cJ2_checkIndex_2214a 2 = .ok (.invokestatic 48, 3) := by decide +kernel
theorem dJ2_checkIndex_2214a_5 : decode cJ2_checkIndex_2214a 5 = .ok (.invokestatic 414, 3) := by decide +kernel
theorem dJ2_checkIndex_2214a_8 : decode cJ2_checkIndex_2214a 8 = .ok (.return_, 1) := by decide +kernel
theorem dJ3_checkIndex_8e157_0 : decode cJ3_checkIndex_8e157 0 = .ok (.iload_n 0, 1) := by decide +kernel
theorem dJ3_checkIndex_8e157_1 : decode cJ3_checkIndex_8e157 1 = .ok (.ifCond .lt 8, 3) := by decide +kernel
theorem dJ3_checkIndex_8e157_4 : decode cJ3_checkIndex_8e157 4 = .ok (.iload_n 0, 1) := by decide +kernel
theorem dJ3_checkIndex_8e157_5 : decode cJ3_checkIndex_8e157 5 = .ok (.iload_n 1, 1) := by decide +kernel
theorem dJ3_checkIndex_8e157_6 : decode cJ3_checkIndex_8e157 6 = .ok (.if_icmp .lt 10, 3) := by decide +kernel
theorem dJ3_checkIndex_8e157_9 : decode cJ3_checkIndex_8e157 9 = .ok (.aload_n 2, 1) := by decide +kernel
theorem dJ3_checkIndex_8e157_10 : decode cJ3_checkIndex_8e157 10 = .ok (.iload_n 0, 1) := by decide +kernel
theorem dJ3_checkIndex_8e157_11 : decode cJ3_checkIndex_8e157 11 = .ok (.iload_n 1, 1) := by decide +kernel
theorem dJ3_checkIndex_8e157_12 : decode cJ3_checkIndex_8e157 12 = .ok (.invokestatic 95, 3) := by decide +kernel
theorem dJ3_checkIndex_8e157_15 : decode cJ3_checkIndex_8e157 15 = .ok (.athrow, 1) := by decide +kernel
theorem dJ3_checkIndex_8e157_16 : decode cJ3_checkIndex_8e157 16 = .ok (.iload_n 0, 1) := by decide +kernel
theorem dJ3_checkIndex_8e157_17 : decode cJ3_checkIndex_8e157 17 = .ok (.ireturn, 1) := by decide +kernel

theorem dX7_init_0 : decode cX7_init 0 = .ok (.aload_n 0, 1) := by decide +kernel
theorem dX7_init_1 : decode cX7_init 1 = .ok (.invokespecial 1, 3) := by decide +kernel
theorem dX7_init_4 : decode cX7_init 4 = .ok (.aload_n 0, 1) := by decide +kernel
theorem dX7_init_5 : decode cX7_init 5 = .ok (.new 7, 3) := by decide +kernel
theorem dX7_init_8 : decode cX7_init 8 = .ok (.dup, 1) := by decide +kernel
theorem dX7_init_9 : decode cX7_init 9 = .ok (.invokespecial 9, 3) := by decide +kernel
theorem dX7_init_12 : decode cX7_init 12 = .ok (.putfield 10, 3) := by decide +kernel
theorem dX7_init_15 : decode cX7_init 15 = .ok (.aload_n 0, 1) := by decide +kernel
theorem dX7_init_16 : decode cX7_init 16 = .ok (.new 16, 3) := by decide +kernel
theorem dX7_init_19 : decode cX7_init 19 = .ok (.dup, 1) := by decide +kernel
theorem dX7_init_20 : decode cX7_init 20 = .ok (.invokespecial 18, 3) := by decide +kernel
theorem dX7_init_23 : decode cX7_init 23 = .ok (.putfield 19, 3) := by decide +kernel
theorem dX7_init_26 : decode cX7_init 26 = .ok (.aload_n 0, 1) := by decide +kernel
theorem dX7_init_27 : decode cX7_init 27 = .ok (.new 23, 3) := by decide +kernel
theorem dX7_init_30 : decode cX7_init 30 = .ok (.dup, 1) := by decide +kernel
theorem dX7_init_31 : decode cX7_init 31 = .ok (.invokespecial 25, 3) := by decide +kernel
theorem dX7_init_34 : decode cX7_init 34 = .ok (.putfield 26, 3) := by decide +kernel
theorem dX7_init_37 : decode cX7_init 37 = .ok (.aload_n 0, 1) := by decide +kernel
theorem dX7_init_38 : decode cX7_init 38 = .ok (.new 30, 3) := by decide +kernel
theorem dX7_init_41 : decode cX7_init 41 = .ok (.dup, 1) := by decide +kernel
theorem dX7_init_42 : decode cX7_init 42 = .ok (.invokespecial 32, 3) := by decide +kernel
theorem dX7_init_45 : decode cX7_init 45 = .ok (.putfield 33, 3) := by decide +kernel
theorem dX7_init_48 : decode cX7_init 48 = .ok (.aload_n 0, 1) := by decide +kernel
theorem dX7_init_49 : decode cX7_init 49 = .ok (.new 37, 3) := by decide +kernel
theorem dX7_init_52 : decode cX7_init 52 = .ok (.dup, 1) := by decide +kernel
theorem dX7_init_53 : decode cX7_init 53 = .ok (.invokespecial 39, 3) := by decide +kernel
theorem dX7_init_56 : decode cX7_init 56 = .ok (.putfield 40, 3) := by decide +kernel
theorem dX7_init_59 : decode cX7_init 59 = .ok (.aload_n 0, 1) := by decide +kernel
theorem dX7_init_60 : decode cX7_init 60 = .ok (.new 44, 3) := by decide +kernel
theorem dX7_init_63 : decode cX7_init 63 = .ok (.dup, 1) := by decide +kernel
theorem dX7_init_64 : decode cX7_init 64 = .ok (.invokespecial 46, 3) := by decide +kernel
theorem dX7_init_67 : decode cX7_init 67 = .ok (.putfield 47, 3) := by decide +kernel
theorem dX7_init_70 : decode cX7_init 70 = .ok (.aload_n 0, 1) := by decide +kernel
theorem dX7_init_71 : decode cX7_init 71 = .ok (.new 51, 3) := by decide +kernel
theorem dX7_init_74 : decode cX7_init 74 = .ok (.dup, 1) := by decide +kernel
theorem dX7_init_75 : decode cX7_init 75 = .ok (.invokespecial 53, 3) := by decide +kernel
theorem dX7_init_78 : decode cX7_init 78 = .ok (.putfield 54, 3) := by decide +kernel
theorem dX7_init_81 : decode cX7_init 81 = .ok (.aload_n 0, 1) := by decide +kernel
theorem dX7_init_82 : decode cX7_init 82 = .ok (.new 51, 3) := by decide +kernel
theorem dX7_init_85 : decode cX7_init 85 = .ok (.dup, 1) := by decide +kernel
theorem dX7_init_86 : decode cX7_init 86 = .ok (.invokespecial 53, 3) := by decide +kernel
theorem dX7_init_89 : decode cX7_init 89 = .ok (.putfield 58, 3) := by decide +kernel
theorem dX7_init_92 : decode cX7_init 92 = .ok (.aload_n 0, 1) := by decide +kernel
theorem dX7_init_93 : decode cX7_init 93 = .ok (.iconst 0, 1) := by decide +kernel
theorem dX7_init_94 : decode cX7_init 94 = .ok (.putfield 61, 3) := by decide +kernel
theorem dX7_init_97 : decode cX7_init 97 = .ok (.aload_n 0, 1) := by decide +kernel
theorem dX7_init_98 : decode cX7_init 98 = .ok (.iconst 0, 1) := by decide +kernel
theorem dX7_init_99 : decode cX7_init 99 = .ok (.putfield 65, 3) := by decide +kernel
theorem dX7_init_102 : decode cX7_init 102 = .ok (.aload_n 0, 1) := by decide +kernel
theorem dX7_init_103 : decode cX7_init 103 = .ok (.iconst 0, 1) := by decide +kernel
theorem dX7_init_104 : decode cX7_init 104 = .ok (.putfield 69, 3) := by decide +kernel
theorem dX7_init_107 : decode cX7_init 107 = .ok (.return_, 1) := by decide +kernel
theorem dX7_light_0 : decode cX7_light 0 = .ok (.iload_n 1, 1) := by decide +kernel
theorem dX7_light_1 : decode cX7_light 1 = .ok (.invokestatic 72, 3) := by decide +kernel
theorem dX7_light_4 : decode cX7_light 4 = .ok (.ifCond .eq 17, 3) := by decide +kernel
theorem dX7_light_7 : decode cX7_light 7 = .ok (.iload_n 2, 1) := by decide +kernel
theorem dX7_light_8 : decode cX7_light 8 = .ok (.invokestatic 76, 3) := by decide +kernel
theorem dX7_light_11 : decode cX7_light 11 = .ok (.ifCond .eq 10, 3) := by decide +kernel
theorem dX7_light_14 : decode cX7_light 14 = .ok (.iload_n 3, 1) := by decide +kernel
theorem dX7_light_15 : decode cX7_light 15 = .ok (.invokestatic 79, 3) := by decide +kernel
theorem dX7_light_18 : decode cX7_light 18 = .ok (.ifCond .ne 6, 3) := by decide +kernel
theorem dX7_light_21 : decode cX7_light 21 = .ok (.ldc 82, 2) := by decide +kernel
theorem dX7_light_23 : decode cX7_light 23 = .ok (.ireturn, 1) := by decide +kernel
theorem dX7_light_24 : decode cX7_light 24 = .ok (.iload 4, 2) := by decide +kernel
theorem dX7_light_26 : decode cX7_light 26 = .ok (.sipush (-5000), 3) := by decide +kernel
theorem dX7_light_29 : decode cX7_light 29 = .ok (.sipush 30000, 3) := by decide +kernel
theorem dX7_light_32 : decode cX7_light 32 = .ok (.invokestatic 83, 3) := by decide +kernel
theorem dX7_light_35 : decode cX7_light 35 = .ok (.ifCond .eq 19, 3) := by decide +kernel
theorem dX7_light_38 : decode cX7_light 38 = .ok (.iload 5, 2) := by decide +kernel
theorem dX7_light_40 : decode cX7_light 40 = .ok (.iconst 0, 1) := by decide +kernel
theorem dX7_light_41 : decode cX7_light 41 = .ok (.sipush 999, 3) := by decide +kernel
theorem dX7_light_44 : decode cX7_light 44 = .ok (.invokestatic 83, 3) := by decide +kernel
theorem dX7_light_47 : decode cX7_light 47 = .ok (.ifCond .eq 7, 3) := by decide +kernel
theorem dX7_light_50 : decode cX7_light 50 = .ok (.iconst 1, 1) := by decide +kernel
theorem dX7_light_51 : decode cX7_light 51 = .ok (.goto 4, 3) := by decide +kernel
theorem dX7_light_54 : decode cX7_light 54 = .ok (.iconst 0, 1) := by decide +kernel
theorem dX7_light_55 : decode cX7_light 55 = .ok (.istore 8, 2) := by decide +kernel
theorem dX7_light_57 : decode cX7_light 57 = .ok (.iload 8, 2) := by decide +kernel
theorem dX7_light_59 : decode cX7_light 59 = .ok (.ifCond .eq 29, 3) := by decide +kernel
theorem dX7_light_62 : decode cX7_light 62 = .ok (.iload 6, 2) := by decide +kernel
theorem dX7_light_64 : decode cX7_light 64 = .ok (.iconst 0, 1) := by decide +kernel
theorem dX7_light_65 : decode cX7_light 65 = .ok (.sipush 3000, 3) := by decide +kernel
theorem dX7_light_68 : decode cX7_light 68 = .ok (.invokestatic 83, 3) := by decide +kernel
theorem dX7_light_71 : decode cX7_light 71 = .ok (.ifCond .eq 17, 3) := by decide +kernel
theorem dX7_light_74 : decode cX7_light 74 = .ok (.iload 7, 2) := by decide +kernel
theorem dX7_light_76 : decode cX7_light 76 = .ok (.sipush (-500), 3) := by decide +kernel
theorem dX7_light_79 : decode cX7_light 79 = .ok (.sipush 3000, 3) := by decide +kernel
theorem dX7_light_82 : decode cX7_light 82 = .ok (.invokestatic 83, 3) := by decide +kernel
theorem dX7_light_85 : decode cX7_light 85 = .ok (.ifCond .ne 6, 3) := by decide +kernel
theorem dX7_light_88 : decode cX7_light 88 = .ok (.ldc 87, 2) := by decide +kernel
theorem dX7_light_90 : decode cX7_light 90 = .ok (.ireturn, 1) := by decide +kernel
theorem dX7_light_91 : decode cX7_light 91 = .ok (.aload_n 0, 1) := by decide +kernel
theorem dX7_light_92 : decode cX7_light 92 = .ok (.getfield 10, 3) := by decide +kernel
theorem dX7_light_95 : decode cX7_light 95 = .ok (.invokevirtual 88, 3) := by decide +kernel
theorem dX7_light_98 : decode cX7_light 98 = .ok (.ifCond .eq 6, 3) := by decide +kernel
theorem dX7_light_101 : decode cX7_light 101 = .ok (.ldc 92, 2) := by decide +kernel
theorem dX7_light_103 : decode cX7_light 103 = .ok (.ireturn, 1) := by decide +kernel
theorem dX7_light_104 : decode cX7_light 104 = .ok (.aload_n 0, 1) := by decide +kernel
theorem dX7_light_105 : decode cX7_light 105 = .ok (.getfield 10, 3) := by decide +kernel
theorem dX7_light_108 : decode cX7_light 108 = .ok (.iconst 0, 1) := by decide +kernel
theorem dX7_light_109 : decode cX7_light 109 = .ok (.iload_n 1, 1) := by decide +kernel
theorem dX7_light_110 : decode cX7_light 110 = .ok (.iload_n 2, 1) := by decide +kernel
theorem dX7_light_111 : decode cX7_light 111 = .ok (.iload_n 3, 1) := by decide +kernel
theorem dX7_light_112 : decode cX7_light 112 = .ok (.iload 4, 2) := by decide +kernel
theorem dX7_light_114 : decode cX7_light 114 = .ok (.iload 5, 2) := by decide +kernel
theorem dX7_light_116 : decode cX7_light 116 = .ok (.invokevirtual 93, 3) := by decide +kernel
theorem dX7_light_119 : decode cX7_light 119 = .ok (.istore 9, 2) := by decide +kernel
theorem dX7_light_121 : decode cX7_light 121 = .ok (.aload_n 0, 1) := by decide +kernel
theorem dX7_light_122 : decode cX7_light 122 = .ok (.getfield 10, 3) := by decide +kernel
theorem dX7_light_125 : decode cX7_light 125 = .ok (.iload 9, 2) := by decide +kernel
theorem dX7_light_127 : decode cX7_light 127 = .ok (.iload 6, 2) := by decide +kernel
theorem dX7_light_129 : decode cX7_light 129 = .ok (.iload 7, 2) := by decide +kernel
theorem dX7_light_131 : decode cX7_light 131 = .ok (.invokevirtual 97, 3) := by decide +kernel
theorem dX7_light_134 : decode cX7_light 134 = .ok (.iload 9, 2) := by decide +kernel
theorem dX7_light_136 : decode cX7_light 136 = .ok (.ireturn, 1) := by decide +kernel
theorem dX7_shift_0 : decode cX7_shift 0 = .ok (.iload_n 1, 1) := by decide +kernel
theorem dX7_shift_1 : decode cX7_shift 1 = .ok (.invokestatic 72, 3) := by decide +kernel
theorem dX7_shift_4 : decode cX7_shift 4 = .ok (.ifCond .eq 10, 3) := by decide +kernel
theorem dX7_shift_7 : decode cX7_shift 7 = .ok (.iload_n 2, 1) := by decide +kernel
theorem dX7_shift_8 : decode cX7_shift 8 = .ok (.invokestatic 79, 3) := by decide +kernel
theorem dX7_shift_11 : decode cX7_shift 11 = .ok (.ifCond .ne 6, 3) := by decide +kernel
theorem dX7_shift_14 : decode cX7_shift 14 = .ok (.ldc 82, 2) := by decide +kernel
theorem dX7_shift_16 : decode cX7_shift 16 = .ok (.ireturn, 1) := by decide +kernel
theorem dX7_shift_17 : decode cX7_shift 17 = .ok (.iload_n 3, 1) := by decide +kernel
theorem dX7_shift_18 : decode cX7_shift 18 = .ok (.iload 4, 2) := by decide +kernel
theorem dX7_shift_20 : decode cX7_shift 20 = .ok (.invokestatic 101, 3) := by decide +kernel
theorem dX7_shift_23 : decode cX7_shift 23 = .ok (.ifCond .ne 6, 3) := by decide +kernel
theorem dX7_shift_26 : decode cX7_shift 26 = .ok (.ldc 87, 2) := by decide +kernel
theorem dX7_shift_28 : decode cX7_shift 28 = .ok (.ireturn, 1) := by decide +kernel
theorem dX7_shift_29 : decode cX7_shift 29 = .ok (.aload_n 0, 1) := by decide +kernel
theorem dX7_shift_30 : decode cX7_shift 30 = .ok (.getfield 10, 3) := by decide +kernel
theorem dX7_shift_33 : decode cX7_shift 33 = .ok (.invokevirtual 88, 3) := by decide +kernel
theorem dX7_shift_36 : decode cX7_shift 36 = .ok (.ifCond .eq 8, 3) := by decide +kernel
theorem dX7_shift_39 : decode cX7_shift 39 = .ok (.ldc 92, 2) := by decide +kernel
theorem dX7_shift_41 : decode cX7_shift 41 = .ok (.goto 17, 3) := by decide +kernel
theorem dX7_shift_44 : decode cX7_shift 44 = .ok (.aload_n 0, 1) := by decide +kernel
theorem dX7_shift_45 : decode cX7_shift 45 = .ok (.getfield 10, 3) := by decide +kernel
theorem dX7_shift_48 : decode cX7_shift 48 = .ok (.iconst 1, 1) := by decide +kernel
theorem dX7_shift_49 : decode cX7_shift 49 = .ok (.iload_n 1, 1) := by decide +kernel
theorem dX7_shift_50 : decode cX7_shift 50 = .ok (.iconst (-1), 1) := by decide +kernel
theorem dX7_shift_51 : decode cX7_shift 51 = .ok (.iload_n 2, 1) := by decide +kernel
theorem dX7_shift_52 : decode cX7_shift 52 = .ok (.iload_n 3, 1) := by decide +kernel
theorem dX7_shift_53 : decode cX7_shift 53 = .ok (.iload 4, 2) := by decide +kernel
theorem dX7_shift_55 : decode cX7_shift 55 = .ok (.invokevirtual 93, 3) := by decide +kernel
theorem dX7_shift_58 : decode cX7_shift 58 = .ok (.ireturn, 1) := by decide +kernel
theorem dX7_anchor_0 : decode cX7_anchor 0 = .ok (.iload_n 1, 1) := by decide +kernel
theorem dX7_anchor_1 : decode cX7_anchor 1 = .ok (.invokestatic 72, 3) := by decide +kernel
theorem dX7_anchor_4 : decode cX7_anchor 4 = .ok (.ifCond .eq 10, 3) := by decide +kernel
theorem dX7_anchor_7 : decode cX7_anchor 7 = .ok (.iload_n 2, 1) := by decide +kernel
theorem dX7_anchor_8 : decode cX7_anchor 8 = .ok (.invokestatic 76, 3) := by decide +kernel
theorem dX7_anchor_11 : decode cX7_anchor 11 = .ok (.ifCond .ne 6, 3) := by decide +kernel
theorem dX7_anchor_14 : decode cX7_anchor 14 = .ok (.ldc 82, 2) := by decide +kernel
theorem dX7_anchor_16 : decode cX7_anchor 16 = .ok (.ireturn, 1) := by decide +kernel
theorem dX7_anchor_17 : decode cX7_anchor 17 = .ok (.iload_n 3, 1) := by decide +kernel
theorem dX7_anchor_18 : decode cX7_anchor 18 = .ok (.iload 4, 2) := by decide +kernel
theorem dX7_anchor_20 : decode cX7_anchor 20 = .ok (.invokestatic 101, 3) := by decide +kernel
theorem dX7_anchor_23 : decode cX7_anchor 23 = .ok (.ifCond .ne 6, 3) := by decide +kernel
theorem dX7_anchor_26 : decode cX7_anchor 26 = .ok (.ldc 87, 2) := by decide +kernel
theorem dX7_anchor_28 : decode cX7_anchor 28 = .ok (.ireturn, 1) := by decide +kernel
theorem dX7_anchor_29 : decode cX7_anchor 29 = .ok (.aload_n 0, 1) := by decide +kernel
theorem dX7_anchor_30 : decode cX7_anchor 30 = .ok (.getfield 10, 3) := by decide +kernel
theorem dX7_anchor_33 : decode cX7_anchor 33 = .ok (.invokevirtual 88, 3) := by decide +kernel
theorem dX7_anchor_36 : decode cX7_anchor 36 = .ok (.ifCond .eq 8, 3) := by decide +kernel
theorem dX7_anchor_39 : decode cX7_anchor 39 = .ok (.ldc 92, 2) := by decide +kernel
theorem dX7_anchor_41 : decode cX7_anchor 41 = .ok (.goto 17, 3) := by decide +kernel
theorem dX7_anchor_44 : decode cX7_anchor 44 = .ok (.aload_n 0, 1) := by decide +kernel
theorem dX7_anchor_45 : decode cX7_anchor 45 = .ok (.getfield 10, 3) := by decide +kernel
theorem dX7_anchor_48 : decode cX7_anchor 48 = .ok (.iconst 2, 1) := by decide +kernel
theorem dX7_anchor_49 : decode cX7_anchor 49 = .ok (.iload_n 1, 1) := by decide +kernel
theorem dX7_anchor_50 : decode cX7_anchor 50 = .ok (.iload_n 2, 1) := by decide +kernel
theorem dX7_anchor_51 : decode cX7_anchor 51 = .ok (.iconst (-1), 1) := by decide +kernel
theorem dX7_anchor_52 : decode cX7_anchor 52 = .ok (.iload_n 3, 1) := by decide +kernel
theorem dX7_anchor_53 : decode cX7_anchor 53 = .ok (.iload 4, 2) := by decide +kernel
theorem dX7_anchor_55 : decode cX7_anchor 55 = .ok (.invokevirtual 93, 3) := by decide +kernel
theorem dX7_anchor_58 : decode cX7_anchor 58 = .ok (.ireturn, 1) := by decide +kernel
theorem dX7_redden_0 : decode cX7_redden 0 = .ok (.iload_n 1, 1) := by decide +kernel
theorem dX7_redden_1 : decode cX7_redden 1 = .ok (.invokestatic 79, 3) := by decide +kernel
theorem dX7_redden_4 : decode cX7_redden 4 = .ok (.ifCond .ne 6, 3) := by decide +kernel
theorem dX7_redden_7 : decode cX7_redden 7 = .ok (.ldc 82, 2) := by decide +kernel
theorem dX7_redden_9 : decode cX7_redden 9 = .ok (.ireturn, 1) := by decide +kernel
theorem dX7_redden_10 : decode cX7_redden 10 = .ok (.iload_n 2, 1) := by decide +kernel
theorem dX7_redden_11 : decode cX7_redden 11 = .ok (.ifCond .lt 15, 3) := by decide +kernel
theorem dX7_redden_14 : decode cX7_redden 14 = .ok (.iload_n 3, 1) := by decide +kernel
theorem dX7_redden_15 : decode cX7_redden 15 = .ok (.iload_n 2, 1) := by decide +kernel
theorem dX7_redden_16 : decode cX7_redden 16 = .ok (.if_icmp .lt 10, 3) := by decide +kernel
theorem dX7_redden_19 : decode cX7_redden 19 = .ok (.iload_n 3, 1) := by decide +kernel
theorem dX7_redden_20 : decode cX7_redden 20 = .ok (.sipush 2000, 3) := by decide +kernel
theorem dX7_redden_23 : decode cX7_redden 23 = .ok (.if_icmp .le 6, 3) := by decide +kernel
theorem dX7_redden_26 : decode cX7_redden 26 = .ok (.ldc 87, 2) := by decide +kernel
theorem dX7_redden_28 : decode cX7_redden 28 = .ok (.ireturn, 1) := by decide +kernel
theorem dX7_redden_29 : decode cX7_redden 29 = .ok (.aload_n 0, 1) := by decide +kernel
theorem dX7_redden_30 : decode cX7_redden 30 = .ok (.getfield 19, 3) := by decide +kernel
theorem dX7_redden_33 : decode cX7_redden 33 = .ok (.getfield 105, 3) := by decide +kernel
theorem dX7_redden_36 : decode cX7_redden 36 = .ok (.iload_n 1, 1) := by decide +kernel
theorem dX7_redden_37 : decode cX7_redden 37 = .ok (.iload_n 2, 1) := by decide +kernel
theorem dX7_redden_38 : decode cX7_redden 38 = .ok (.iastore, 1) := by decide +kernel
theorem dX7_redden_39 : decode cX7_redden 39 = .ok (.aload_n 0, 1) := by decide +kernel
theorem dX7_redden_40 : decode cX7_redden 40 = .ok (.getfield 19, 3) := by decide +kernel
theorem dX7_redden_43 : decode cX7_redden 43 = .ok (.getfield 109, 3) := by decide +kernel
theorem dX7_redden_46 : decode cX7_redden 46 = .ok (.iload_n 1, 1) := by decide +kernel
theorem dX7_redden_47 : decode cX7_redden 47 = .ok (.iload_n 3, 1) := by decide +kernel
theorem dX7_redden_48 : decode cX7_redden 48 = .ok (.iastore, 1) := by decide +kernel
theorem dX7_redden_49 : decode cX7_redden 49 = .ok (.iconst 1, 1) := by decide +kernel
theorem dX7_redden_50 : decode cX7_redden 50 = .ok (.ireturn, 1) := by decide +kernel
theorem dX7_redness_0 : decode cX7_redness 0 = .ok (.iload_n 1, 1) := by decide +kernel
theorem dX7_redness_1 : decode cX7_redness 1 = .ok (.invokestatic 79, 3) := by decide +kernel
theorem dX7_redness_4 : decode cX7_redness 4 = .ok (.ifCond .ne 6, 3) := by decide +kernel
theorem dX7_redness_7 : decode cX7_redness 7 = .ok (.ldc 82, 2) := by decide +kernel
theorem dX7_redness_9 : decode cX7_redness 9 = .ok (.ireturn, 1) := by decide +kernel
theorem dX7_redness_10 : decode cX7_redness 10 = .ok (.iload_n 2, 1) := by decide +kernel
theorem dX7_redness_11 : decode cX7_redness 11 = .ok (.iconst (-1), 1) := by decide +kernel
theorem dX7_redness_12 : decode cX7_redness 12 = .ok (.if_icmp .eq 16, 3) := by decide +kernel
theorem dX7_redness_15 : decode cX7_redness 15 = .ok (.iload_n 2, 1) := by decide +kernel
theorem dX7_redness_16 : decode cX7_redness 16 = .ok (.iconst 0, 1) := by decide +kernel
theorem dX7_redness_17 : decode cX7_redness 17 = .ok (.ldc 112, 2) := by decide +kernel
theorem dX7_redness_19 : decode cX7_redness 19 = .ok (.invokestatic 83, 3) := by decide +kernel
theorem dX7_redness_22 : decode cX7_redness 22 = .ok (.ifCond .ne 6, 3) := by decide +kernel
theorem dX7_redness_25 : decode cX7_redness 25 = .ok (.ldc 87, 2) := by decide +kernel
theorem dX7_redness_27 : decode cX7_redness 27 = .ok (.ireturn, 1) := by decide +kernel
theorem dX7_redness_28 : decode cX7_redness 28 = .ok (.aload_n 0, 1) := by decide +kernel
theorem dX7_redness_29 : decode cX7_redness 29 = .ok (.getfield 47, 3) := by decide +kernel
theorem dX7_redness_32 : decode cX7_redness 32 = .ok (.getfield 113, 3) := by decide +kernel
theorem dX7_redness_35 : decode cX7_redness 35 = .ok (.iload_n 1, 1) := by decide +kernel
theorem dX7_redness_36 : decode cX7_redness 36 = .ok (.iaload, 1) := by decide +kernel
theorem dX7_redness_37 : decode cX7_redness 37 = .ok (.istore_n 3, 1) := by decide +kernel
theorem dX7_redness_38 : decode cX7_redness 38 = .ok (.aload_n 0, 1) := by decide +kernel
theorem dX7_redness_39 : decode cX7_redness 39 = .ok (.getfield 47, 3) := by decide +kernel
theorem dX7_redness_42 : decode cX7_redness 42 = .ok (.getfield 113, 3) := by decide +kernel
theorem dX7_redness_45 : decode cX7_redness 45 = .ok (.iload_n 1, 1) := by decide +kernel
theorem dX7_redness_46 : decode cX7_redness 46 = .ok (.iload_n 2, 1) := by decide +kernel
theorem dX7_redness_47 : decode cX7_redness 47 = .ok (.iastore, 1) := by decide +kernel
theorem dX7_redness_48 : decode cX7_redness 48 = .ok (.iload_n 3, 1) := by decide +kernel
theorem dX7_redness_49 : decode cX7_redness 49 = .ok (.ireturn, 1) := by decide +kernel
theorem dX7_leave_0 : decode cX7_leave 0 = .ok (.aload_n 0, 1) := by decide +kernel
theorem dX7_leave_1 : decode cX7_leave 1 = .ok (.getfield 10, 3) := by decide +kernel
theorem dX7_leave_4 : decode cX7_leave 4 = .ok (.iload_n 1, 1) := by decide +kernel
theorem dX7_leave_5 : decode cX7_leave 5 = .ok (.invokevirtual 116, 3) := by decide +kernel
theorem dX7_leave_8 : decode cX7_leave 8 = .ok (.ifCond .ne 6, 3) := by decide +kernel
theorem dX7_leave_11 : decode cX7_leave 11 = .ok (.ldc 82, 2) := by decide +kernel
theorem dX7_leave_13 : decode cX7_leave 13 = .ok (.ireturn, 1) := by decide +kernel
theorem dX7_leave_14 : decode cX7_leave 14 = .ok (.aload_n 0, 1) := by decide +kernel
theorem dX7_leave_15 : decode cX7_leave 15 = .ok (.getfield 10, 3) := by decide +kernel
theorem dX7_leave_18 : decode cX7_leave 18 = .ok (.getfield 119, 3) := by decide +kernel
theorem dX7_leave_21 : decode cX7_leave 21 = .ok (.iload_n 1, 1) := by decide +kernel
theorem dX7_leave_22 : decode cX7_leave 22 = .ok (.baload, 1) := by decide +kernel
theorem dX7_leave_23 : decode cX7_leave 23 = .ok (.invokestatic 123, 3) := by decide +kernel
theorem dX7_leave_26 : decode cX7_leave 26 = .ok (.istore_n 3, 1) := by decide +kernel
theorem dX7_leave_27 : decode cX7_leave 27 = .ok (.aload_n 0, 1) := by decide +kernel
theorem dX7_leave_28 : decode cX7_leave 28 = .ok (.getfield 10, 3) := by decide +kernel
theorem dX7_leave_31 : decode cX7_leave 31 = .ok (.getfield 119, 3) := by decide +kernel
theorem dX7_leave_34 : decode cX7_leave 34 = .ok (.iload_n 1, 1) := by decide +kernel
theorem dX7_leave_35 : decode cX7_leave 35 = .ok (.iload_n 2, 1) := by decide +kernel
theorem dX7_leave_36 : decode cX7_leave 36 = .ok (.bastore, 1) := by decide +kernel
theorem dX7_leave_37 : decode cX7_leave 37 = .ok (.iload_n 3, 1) := by decide +kernel
theorem dX7_leave_38 : decode cX7_leave 38 = .ok (.ireturn, 1) := by decide +kernel
theorem dX7_undo_0 : decode cX7_undo 0 = .ok (.aload_n 0, 1) := by decide +kernel
theorem dX7_undo_1 : decode cX7_undo 1 = .ok (.getfield 10, 3) := by decide +kernel
theorem dX7_undo_4 : decode cX7_undo 4 = .ok (.invokevirtual 127, 3) := by decide +kernel
theorem dX7_undo_7 : decode cX7_undo 7 = .ok (.istore_n 1, 1) := by decide +kernel
theorem dX7_undo_8 : decode cX7_undo 8 = .ok (.iload_n 1, 1) := by decide +kernel
theorem dX7_undo_9 : decode cX7_undo 9 = .ok (.iconst (-1), 1) := by decide +kernel
theorem dX7_undo_10 : decode cX7_undo 10 = .ok (.if_icmp .ne 8, 3) := by decide +kernel
theorem dX7_undo_13 : decode cX7_undo 13 = .ok (.ldc 131, 2) := by decide +kernel
theorem dX7_undo_15 : decode cX7_undo 15 = .ok (.goto 4, 3) := by decide +kernel
theorem dX7_undo_18 : decode cX7_undo 18 = .ok (.iload_n 1, 1) := by decide +kernel
theorem dX7_undo_19 : decode cX7_undo 19 = .ok (.ireturn, 1) := by decide +kernel
theorem dX7_redo_0 : decode cX7_redo 0 = .ok (.aload_n 0, 1) := by decide +kernel
theorem dX7_redo_1 : decode cX7_redo 1 = .ok (.getfield 10, 3) := by decide +kernel
theorem dX7_redo_4 : decode cX7_redo 4 = .ok (.invokevirtual 132, 3) := by decide +kernel
theorem dX7_redo_7 : decode cX7_redo 7 = .ok (.istore_n 1, 1) := by decide +kernel
theorem dX7_redo_8 : decode cX7_redo 8 = .ok (.iload_n 1, 1) := by decide +kernel
theorem dX7_redo_9 : decode cX7_redo 9 = .ok (.iconst (-1), 1) := by decide +kernel
theorem dX7_redo_10 : decode cX7_redo 10 = .ok (.if_icmp .ne 8, 3) := by decide +kernel
theorem dX7_redo_13 : decode cX7_redo 13 = .ok (.ldc 131, 2) := by decide +kernel
theorem dX7_redo_15 : decode cX7_redo 15 = .ok (.goto 4, 3) := by decide +kernel
theorem dX7_redo_18 : decode cX7_redo 18 = .ok (.iload_n 1, 1) := by decide +kernel
theorem dX7_redo_19 : decode cX7_redo 19 = .ok (.ireturn, 1) := by decide +kernel
theorem dX7_told_0 : decode cX7_told 0 = .ok (.aload_n 0, 1) := by decide +kernel
theorem dX7_told_1 : decode cX7_told 1 = .ok (.getfield 10, 3) := by decide +kernel
theorem dX7_told_4 : decode cX7_told 4 = .ok (.iload_n 1, 1) := by decide +kernel
theorem dX7_told_5 : decode cX7_told 5 = .ok (.invokevirtual 116, 3) := by decide +kernel
theorem dX7_told_8 : decode cX7_told 8 = .ok (.ifCond .ne 6, 3) := by decide +kernel
theorem dX7_told_11 : decode cX7_told 11 = .ok (.ldc 82, 2) := by decide +kernel
theorem dX7_told_13 : decode cX7_told 13 = .ok (.ireturn, 1) := by decide +kernel
theorem dX7_told_14 : decode cX7_told 14 = .ok (.iload_n 2, 1) := by decide +kernel
theorem dX7_told_15 : decode cX7_told 15 = .ok (.tableswitch 105 0 6 #[41, 51, 61, 71, 81, 93, 99], 41) := by decide +kernel
theorem dX7_told_56 : decode cX7_told 56 = .ok (.aload_n 0, 1) := by decide +kernel
theorem dX7_told_57 : decode cX7_told 57 = .ok (.getfield 10, 3) := by decide +kernel
theorem dX7_told_60 : decode cX7_told 60 = .ok (.getfield 135, 3) := by decide +kernel
theorem dX7_told_63 : decode cX7_told 63 = .ok (.iload_n 1, 1) := by decide +kernel
theorem dX7_told_64 : decode cX7_told 64 = .ok (.iaload, 1) := by decide +kernel
theorem dX7_told_65 : decode cX7_told 65 = .ok (.ireturn, 1) := by decide +kernel
theorem dX7_told_66 : decode cX7_told 66 = .ok (.aload_n 0, 1) := by decide +kernel
theorem dX7_told_67 : decode cX7_told 67 = .ok (.getfield 10, 3) := by decide +kernel
theorem dX7_told_70 : decode cX7_told 70 = .ok (.getfield 138, 3) := by decide +kernel
theorem dX7_told_73 : decode cX7_told 73 = .ok (.iload_n 1, 1) := by decide +kernel
theorem dX7_told_74 : decode cX7_told 74 = .ok (.iaload, 1) := by decide +kernel
theorem dX7_told_75 : decode cX7_told 75 = .ok (.ireturn, 1) := by decide +kernel
theorem dX7_told_76 : decode cX7_told 76 = .ok (.aload_n 0, 1) := by decide +kernel
theorem dX7_told_77 : decode cX7_told 77 = .ok (.getfield 10, 3) := by decide +kernel
theorem dX7_told_80 : decode cX7_told 80 = .ok (.getfield 141, 3) := by decide +kernel
theorem dX7_told_83 : decode cX7_told 83 = .ok (.iload_n 1, 1) := by decide +kernel
theorem dX7_told_84 : decode cX7_told 84 = .ok (.iaload, 1) := by decide +kernel
theorem dX7_told_85 : decode cX7_told 85 = .ok (.ireturn, 1) := by decide +kernel
theorem dX7_told_86 : decode cX7_told 86 = .ok (.aload_n 0, 1) := by decide +kernel
theorem dX7_told_87 : decode cX7_told 87 = .ok (.getfield 10, 3) := by decide +kernel
theorem dX7_told_90 : decode cX7_told 90 = .ok (.getfield 144, 3) := by decide +kernel
theorem dX7_told_93 : decode cX7_told 93 = .ok (.iload_n 1, 1) := by decide +kernel
theorem dX7_told_94 : decode cX7_told 94 = .ok (.iaload, 1) := by decide +kernel
theorem dX7_told_95 : decode cX7_told 95 = .ok (.ireturn, 1) := by decide +kernel
theorem dX7_told_96 : decode cX7_told 96 = .ok (.aload_n 0, 1) := by decide +kernel
theorem dX7_told_97 : decode cX7_told 97 = .ok (.getfield 10, 3) := by decide +kernel
theorem dX7_told_100 : decode cX7_told 100 = .ok (.iload_n 1, 1) := by decide +kernel
theorem dX7_told_101 : decode cX7_told 101 = .ok (.invokevirtual 147, 3) := by decide +kernel
theorem dX7_told_104 : decode cX7_told 104 = .ok (.invokestatic 123, 3) := by decide +kernel
theorem dX7_told_107 : decode cX7_told 107 = .ok (.ireturn, 1) := by decide +kernel
theorem dX7_told_108 : decode cX7_told 108 = .ok (.aload_n 0, 1) := by decide +kernel
theorem dX7_told_109 : decode cX7_told 109 = .ok (.iload_n 1, 1) := by decide +kernel
theorem dX7_told_110 : decode cX7_told 110 = .ok (.invokevirtual 150, 3) := by decide +kernel
theorem dX7_told_113 : decode cX7_told 113 = .ok (.ireturn, 1) := by decide +kernel
theorem dX7_told_114 : decode cX7_told 114 = .ok (.aload_n 0, 1) := by decide +kernel
theorem dX7_told_115 : decode cX7_told 115 = .ok (.iload_n 1, 1) := by decide +kernel
theorem dX7_told_116 : decode cX7_told 116 = .ok (.invokevirtual 154, 3) := by decide +kernel
theorem dX7_told_119 : decode cX7_told 119 = .ok (.ireturn, 1) := by decide +kernel
theorem dX7_told_120 : decode cX7_told 120 = .ok (.ldc 87, 2) := by decide +kernel
theorem dX7_told_122 : decode cX7_told 122 = .ok (.ireturn, 1) := by decide +kernel
theorem dX7_count_0 : decode cX7_count 0 = .ok (.iload_n 1, 1) := by decide +kernel
theorem dX7_count_1 : decode cX7_count 1 = .ok (.tableswitch 124 0 8 #[51, 59, 68, 77, 86, 91, 99, 107, 115], 51) := by decide +kernel
theorem dX7_count_52 : decode cX7_count 52 = .ok (.aload_n 0, 1) := by decide +kernel
theorem dX7_count_53 : decode cX7_count 53 = .ok (.getfield 10, 3) := by decide +kernel
theorem dX7_count_56 : decode cX7_count 56 = .ok (.getfield 157, 3) := by decide +kernel
theorem dX7_count_59 : decode cX7_count 59 = .ok (.ireturn, 1) := by decide +kernel
theorem dX7_count_60 : decode cX7_count 60 = .ok (.aload_n 0, 1) := by decide +kernel
theorem dX7_count_61 : decode cX7_count 61 = .ok (.getfield 10, 3) := by decide +kernel
theorem dX7_count_64 : decode cX7_count 64 = .ok (.iconst 0, 1) := by decide +kernel
theorem dX7_count_65 : decode cX7_count 65 = .ok (.invokevirtual 160, 3) := by decide +kernel
theorem dX7_count_68 : decode cX7_count 68 = .ok (.ireturn, 1) := by decide +kernel
theorem dX7_count_69 : decode cX7_count 69 = .ok (.aload_n 0, 1) := by decide +kernel
theorem dX7_count_70 : decode cX7_count 70 = .ok (.getfield 10, 3) := by decide +kernel
theorem dX7_count_73 : decode cX7_count 73 = .ok (.iconst 1, 1) := by decide +kernel
theorem dX7_count_74 : decode cX7_count 74 = .ok (.invokevirtual 160, 3) := by decide +kernel
theorem dX7_count_77 : decode cX7_count 77 = .ok (.ireturn, 1) := by decide +kernel
theorem dX7_count_78 : decode cX7_count 78 = .ok (.aload_n 0, 1) := by decide +kernel
theorem dX7_count_79 : decode cX7_count 79 = .ok (.getfield 10, 3) := by decide +kernel
theorem dX7_count_82 : decode cX7_count 82 = .ok (.iconst 2, 1) := by decide +kernel
theorem dX7_count_83 : decode cX7_count 83 = .ok (.invokevirtual 160, 3) := by decide +kernel
theorem dX7_count_86 : decode cX7_count 86 = .ok (.ireturn, 1) := by decide +kernel
theorem dX7_count_87 : decode cX7_count 87 = .ok (.aload_n 0, 1) := by decide +kernel
theorem dX7_count_88 : decode cX7_count 88 = .ok (.invokevirtual 163, 3) := by decide +kernel
theorem dX7_count_91 : decode cX7_count 91 = .ok (.ireturn, 1) := by decide +kernel
theorem dX7_count_92 : decode cX7_count 92 = .ok (.aload_n 0, 1) := by decide +kernel
theorem dX7_count_93 : decode cX7_count 93 = .ok (.getfield 54, 3) := by decide +kernel
theorem dX7_count_96 : decode cX7_count 96 = .ok (.getfield 166, 3) := by decide +kernel
theorem dX7_count_99 : decode cX7_count 99 = .ok (.ireturn, 1) := by decide +kernel
theorem dX7_count_100 : decode cX7_count 100 = .ok (.aload_n 0, 1) := by decide +kernel
theorem dX7_count_101 : decode cX7_count 101 = .ok (.getfield 26, 3) := by decide +kernel
theorem dX7_count_104 : decode cX7_count 104 = .ok (.getfield 169, 3) := by decide +kernel
theorem dX7_count_107 : decode cX7_count 107 = .ok (.ireturn, 1) := by decide +kernel
theorem dX7_count_108 : decode cX7_count 108 = .ok (.aload_n 0, 1) := by decide +kernel
theorem dX7_count_109 : decode cX7_count 109 = .ok (.getfield 69, 3) := by decide +kernel
theorem dX7_count_112 : decode cX7_count 112 = .ok (.invokestatic 123, 3) := by decide +kernel
theorem dX7_count_115 : decode cX7_count 115 = .ok (.ireturn, 1) := by decide +kernel
theorem dX7_count_116 : decode cX7_count 116 = .ok (.aload_n 0, 1) := by decide +kernel
theorem dX7_count_117 : decode cX7_count 117 = .ok (.getfield 10, 3) := by decide +kernel
theorem dX7_count_120 : decode cX7_count 120 = .ok (.iconst 3, 1) := by decide +kernel
theorem dX7_count_121 : decode cX7_count 121 = .ok (.invokevirtual 160, 3) := by decide +kernel
theorem dX7_count_124 : decode cX7_count 124 = .ok (.ireturn, 1) := by decide +kernel
theorem dX7_count_125 : decode cX7_count 125 = .ok (.ldc 87, 2) := by decide +kernel
theorem dX7_count_127 : decode cX7_count 127 = .ok (.ireturn, 1) := by decide +kernel
theorem dX7_feed_0 : decode cX7_feed 0 = .ok (.iload_n 1, 1) := by decide +kernel
theorem dX7_feed_1 : decode cX7_feed 1 = .ok (.iconst 1, 1) := by decide +kernel
theorem dX7_feed_2 : decode cX7_feed 2 = .ok (.bipush 8, 2) := by decide +kernel
theorem dX7_feed_4 : decode cX7_feed 4 = .ok (.invokestatic 83, 3) := by decide +kernel
theorem dX7_feed_7 : decode cX7_feed 7 = .ok (.ifCond .ne 6, 3) := by decide +kernel
theorem dX7_feed_10 : decode cX7_feed 10 = .ok (.ldc 87, 2) := by decide +kernel
theorem dX7_feed_12 : decode cX7_feed 12 = .ok (.ireturn, 1) := by decide +kernel
theorem dX7_feed_13 : decode cX7_feed 13 = .ok (.aload_n 0, 1) := by decide +kernel
theorem dX7_feed_14 : decode cX7_feed 14 = .ok (.getfield 26, 3) := by decide +kernel
theorem dX7_feed_17 : decode cX7_feed 17 = .ok (.getfield 169, 3) := by decide +kernel
theorem dX7_feed_20 : decode cX7_feed 20 = .ok (.iload_n 1, 1) := by decide +kernel
theorem dX7_feed_21 : decode cX7_feed 21 = .ok (.iadd, 1) := by decide +kernel
theorem dX7_feed_22 : decode cX7_feed 22 = .ok (.sipush 240, 3) := by decide +kernel
theorem dX7_feed_25 : decode cX7_feed 25 = .ok (.if_icmp .le 6, 3) := by decide +kernel
theorem dX7_feed_28 : decode cX7_feed 28 = .ok (.ldc 92, 2) := by decide +kernel
theorem dX7_feed_30 : decode cX7_feed 30 = .ok (.ireturn, 1) := by decide +kernel
theorem dX7_feed_31 : decode cX7_feed 31 = .ok (.iload_n 1, 1) := by decide +kernel
theorem dX7_feed_32 : decode cX7_feed 32 = .ok (.iconst 1, 1) := by decide +kernel
theorem dX7_feed_33 : decode cX7_feed 33 = .ok (.isub, 1) := by decide +kernel
theorem dX7_feed_34 : decode cX7_feed 34 = .ok (.istore 4, 2) := by decide +kernel
theorem dX7_feed_36 : decode cX7_feed 36 = .ok (.iload 4, 2) := by decide +kernel
theorem dX7_feed_38 : decode cX7_feed 38 = .ok (.ifCond .lt 28, 3) := by decide +kernel
theorem dX7_feed_41 : decode cX7_feed 41 = .ok (.aload_n 0, 1) := by decide +kernel
theorem dX7_feed_42 : decode cX7_feed 42 = .ok (.getfield 26, 3) := by decide +kernel
theorem dX7_feed_45 : decode cX7_feed 45 = .ok (.lload_n 2, 1) := by decide +kernel
theorem dX7_feed_46 : decode cX7_feed 46 = .ok (.bipush 8, 2) := by decide +kernel
theorem dX7_feed_48 : decode cX7_feed 48 = .ok (.iload 4, 2) := by decide +kernel
theorem dX7_feed_50 : decode cX7_feed 50 = .ok (.imul, 1) := by decide +kernel
theorem dX7_feed_51 : decode cX7_feed 51 = .ok (.lushr, 1) := by decide +kernel
theorem dX7_feed_52 : decode cX7_feed 52 = .ok (.l2i, 1) := by decide +kernel
theorem dX7_feed_53 : decode cX7_feed 53 = .ok (.sipush 255, 3) := by decide +kernel
theorem dX7_feed_56 : decode cX7_feed 56 = .ok (.iand, 1) := by decide +kernel
theorem dX7_feed_57 : decode cX7_feed 57 = .ok (.invokevirtual 172, 3) := by decide +kernel
theorem dX7_feed_60 : decode cX7_feed 60 = .ok (.iinc 4 (-1), 3) := by decide +kernel
theorem dX7_feed_63 : decode cX7_feed 63 = .ok (.goto (-27), 3) := by decide +kernel
theorem dX7_feed_66 : decode cX7_feed 66 = .ok (.aload_n 0, 1) := by decide +kernel
theorem dX7_feed_67 : decode cX7_feed 67 = .ok (.getfield 26, 3) := by decide +kernel
theorem dX7_feed_70 : decode cX7_feed 70 = .ok (.getfield 169, 3) := by decide +kernel
theorem dX7_feed_73 : decode cX7_feed 73 = .ok (.ireturn, 1) := by decide +kernel
theorem dX7_read_0 : decode cX7_read 0 = .ok (.aload_n 0, 1) := by decide +kernel
theorem dX7_read_1 : decode cX7_read 1 = .ok (.getfield 26, 3) := by decide +kernel
theorem dX7_read_4 : decode cX7_read 4 = .ok (.aload_n 0, 1) := by decide +kernel
theorem dX7_read_5 : decode cX7_read 5 = .ok (.getfield 58, 3) := by decide +kernel
theorem dX7_read_8 : decode cX7_read 8 = .ok (.invokevirtual 176, 3) := by decide +kernel
theorem dX7_read_11 : decode cX7_read 11 = .ok (.istore_n 1, 1) := by decide +kernel
theorem dX7_read_12 : decode cX7_read 12 = .ok (.aload_n 0, 1) := by decide +kernel
theorem dX7_read_13 : decode cX7_read 13 = .ok (.getfield 26, 3) := by decide +kernel
theorem dX7_read_16 : decode cX7_read 16 = .ok (.getfield 180, 3) := by decide +kernel
theorem dX7_read_19 : decode cX7_read 19 = .ok (.ifCond .eq 14, 3) := by decide +kernel
theorem dX7_read_22 : decode cX7_read 22 = .ok (.bipush (-10), 2) := by decide +kernel
theorem dX7_read_24 : decode cX7_read 24 = .ok (.aload_n 0, 1) := by decide +kernel
theorem dX7_read_25 : decode cX7_read 25 = .ok (.getfield 26, 3) := by decide +kernel
theorem dX7_read_28 : decode cX7_read 28 = .ok (.getfield 180, 3) := by decide +kernel
theorem dX7_read_31 : decode cX7_read 31 = .ok (.isub, 1) := by decide +kernel
theorem dX7_read_32 : decode cX7_read 32 = .ok (.ireturn, 1) := by decide +kernel
theorem dX7_read_33 : decode cX7_read 33 = .ok (.aload_n 0, 1) := by decide +kernel
theorem dX7_read_34 : decode cX7_read 34 = .ok (.getfield 54, 3) := by decide +kernel
theorem dX7_read_37 : decode cX7_read 37 = .ok (.astore_n 2, 1) := by decide +kernel
theorem dX7_read_38 : decode cX7_read 38 = .ok (.aload_n 0, 1) := by decide +kernel
theorem dX7_read_39 : decode cX7_read 39 = .ok (.aload_n 0, 1) := by decide +kernel
theorem dX7_read_40 : decode cX7_read 40 = .ok (.getfield 58, 3) := by decide +kernel
theorem dX7_read_43 : decode cX7_read 43 = .ok (.putfield 54, 3) := by decide +kernel
theorem dX7_read_46 : decode cX7_read 46 = .ok (.aload_n 0, 1) := by decide +kernel
theorem dX7_read_47 : decode cX7_read 47 = .ok (.aload_n 2, 1) := by decide +kernel
theorem dX7_read_48 : decode cX7_read 48 = .ok (.putfield 58, 3) := by decide +kernel
theorem dX7_read_51 : decode cX7_read 51 = .ok (.iload_n 1, 1) := by decide +kernel
theorem dX7_read_52 : decode cX7_read 52 = .ok (.ireturn, 1) := by decide +kernel
theorem dX7_fault_0 : decode cX7_fault 0 = .ok (.aload_n 0, 1) := by decide +kernel
theorem dX7_fault_1 : decode cX7_fault 1 = .ok (.getfield 26, 3) := by decide +kernel
theorem dX7_fault_4 : decode cX7_fault 4 = .ok (.getfield 183, 3) := by decide +kernel
theorem dX7_fault_7 : decode cX7_fault 7 = .ok (.ireturn, 1) := by decide +kernel
theorem dX7_rule_0 : decode cX7_rule 0 = .ok (.iload_n 1, 1) := by decide +kernel
theorem dX7_rule_1 : decode cX7_rule 1 = .ok (.iconst 0, 1) := by decide +kernel
theorem dX7_rule_2 : decode cX7_rule 2 = .ok (.iconst 3, 1) := by decide +kernel
theorem dX7_rule_3 : decode cX7_rule 3 = .ok (.invokestatic 83, 3) := by decide +kernel
theorem dX7_rule_6 : decode cX7_rule 6 = .ok (.ifCond .eq 10, 3) := by decide +kernel
theorem dX7_rule_9 : decode cX7_rule 9 = .ok (.iload_n 2, 1) := by decide +kernel
theorem dX7_rule_10 : decode cX7_rule 10 = .ok (.invokestatic 76, 3) := by decide +kernel
theorem dX7_rule_13 : decode cX7_rule 13 = .ok (.ifCond .eq 16, 3) := by decide +kernel
theorem dX7_rule_16 : decode cX7_rule 16 = .ok (.iload_n 1, 1) := by decide +kernel
theorem dX7_rule_17 : decode cX7_rule 17 = .ok (.bipush 6, 2) := by decide +kernel
theorem dX7_rule_19 : decode cX7_rule 19 = .ok (.if_icmp .ne 13, 3) := by decide +kernel
theorem dX7_rule_22 : decode cX7_rule 22 = .ok (.iload_n 2, 1) := by decide +kernel
theorem dX7_rule_23 : decode cX7_rule 23 = .ok (.invokestatic 72, 3) := by decide +kernel
theorem dX7_rule_26 : decode cX7_rule 26 = .ok (.ifCond .ne 6, 3) := by decide +kernel
theorem dX7_rule_29 : decode cX7_rule 29 = .ok (.ldc 82, 2) := by decide +kernel
theorem dX7_rule_31 : decode cX7_rule 31 = .ok (.ireturn, 1) := by decide +kernel
theorem dX7_rule_32 : decode cX7_rule 32 = .ok (.iload_n 1, 1) := by decide +kernel
theorem dX7_rule_33 : decode cX7_rule 33 = .ok (.tableswitch 121 0 7 #[47, 57, 67, 77, 87, 95, 103, 113], 47) := by decide +kernel
theorem dX7_rule_80 : decode cX7_rule 80 = .ok (.aload_n 0, 1) := by decide +kernel
theorem dX7_rule_81 : decode cX7_rule 81 = .ok (.getfield 54, 3) := by decide +kernel
theorem dX7_rule_84 : decode cX7_rule 84 = .ok (.getfield 186, 3) := by decide +kernel
theorem dX7_rule_87 : decode cX7_rule 87 = .ok (.iload_n 2, 1) := by decide +kernel
theorem dX7_rule_88 : decode cX7_rule 88 = .ok (.iaload, 1) := by decide +kernel
theorem dX7_rule_89 : decode cX7_rule 89 = .ok (.ireturn, 1) := by decide +kernel
theorem dX7_rule_90 : decode cX7_rule 90 = .ok (.aload_n 0, 1) := by decide +kernel
theorem dX7_rule_91 : decode cX7_rule 91 = .ok (.getfield 54, 3) := by decide +kernel
theorem dX7_rule_94 : decode cX7_rule 94 = .ok (.getfield 189, 3) := by decide +kernel
theorem dX7_rule_97 : decode cX7_rule 97 = .ok (.iload_n 2, 1) := by decide +kernel
theorem dX7_rule_98 : decode cX7_rule 98 = .ok (.iaload, 1) := by decide +kernel
theorem dX7_rule_99 : decode cX7_rule 99 = .ok (.ireturn, 1) := by decide +kernel
theorem dX7_rule_100 : decode cX7_rule 100 = .ok (.aload_n 0, 1) := by decide +kernel
theorem dX7_rule_101 : decode cX7_rule 101 = .ok (.getfield 54, 3) := by decide +kernel
theorem dX7_rule_104 : decode cX7_rule 104 = .ok (.getfield 192, 3) := by decide +kernel
theorem dX7_rule_107 : decode cX7_rule 107 = .ok (.iload_n 2, 1) := by decide +kernel
theorem dX7_rule_108 : decode cX7_rule 108 = .ok (.iaload, 1) := by decide +kernel
theorem dX7_rule_109 : decode cX7_rule 109 = .ok (.ireturn, 1) := by decide +kernel
theorem dX7_rule_110 : decode cX7_rule 110 = .ok (.aload_n 0, 1) := by decide +kernel
theorem dX7_rule_111 : decode cX7_rule 111 = .ok (.getfield 54, 3) := by decide +kernel
theorem dX7_rule_114 : decode cX7_rule 114 = .ok (.getfield 195, 3) := by decide +kernel
theorem dX7_rule_117 : decode cX7_rule 117 = .ok (.iload_n 2, 1) := by decide +kernel
theorem dX7_rule_118 : decode cX7_rule 118 = .ok (.iaload, 1) := by decide +kernel
theorem dX7_rule_119 : decode cX7_rule 119 = .ok (.ireturn, 1) := by decide +kernel
theorem dX7_rule_120 : decode cX7_rule 120 = .ok (.aload_n 0, 1) := by decide +kernel
theorem dX7_rule_121 : decode cX7_rule 121 = .ok (.getfield 54, 3) := by decide +kernel
theorem dX7_rule_124 : decode cX7_rule 124 = .ok (.getfield 198, 3) := by decide +kernel
theorem dX7_rule_127 : decode cX7_rule 127 = .ok (.ireturn, 1) := by decide +kernel
theorem dX7_rule_128 : decode cX7_rule 128 = .ok (.aload_n 0, 1) := by decide +kernel
theorem dX7_rule_129 : decode cX7_rule 129 = .ok (.getfield 54, 3) := by decide +kernel
theorem dX7_rule_132 : decode cX7_rule 132 = .ok (.getfield 201, 3) := by decide +kernel
theorem dX7_rule_135 : decode cX7_rule 135 = .ok (.ireturn, 1) := by decide +kernel
theorem dX7_rule_136 : decode cX7_rule 136 = .ok (.aload_n 0, 1) := by decide +kernel
theorem dX7_rule_137 : decode cX7_rule 137 = .ok (.getfield 54, 3) := by decide +kernel
theorem dX7_rule_140 : decode cX7_rule 140 = .ok (.getfield 204, 3) := by decide +kernel
theorem dX7_rule_143 : decode cX7_rule 143 = .ok (.iload_n 2, 1) := by decide +kernel
theorem dX7_rule_144 : decode cX7_rule 144 = .ok (.iaload, 1) := by decide +kernel
theorem dX7_rule_145 : decode cX7_rule 145 = .ok (.ireturn, 1) := by decide +kernel
theorem dX7_rule_146 : decode cX7_rule 146 = .ok (.aload_n 0, 1) := by decide +kernel
theorem dX7_rule_147 : decode cX7_rule 147 = .ok (.getfield 54, 3) := by decide +kernel
theorem dX7_rule_150 : decode cX7_rule 150 = .ok (.getfield 207, 3) := by decide +kernel
theorem dX7_rule_153 : decode cX7_rule 153 = .ok (.ireturn, 1) := by decide +kernel
theorem dX7_rule_154 : decode cX7_rule 154 = .ok (.ldc 87, 2) := by decide +kernel
theorem dX7_rule_156 : decode cX7_rule 156 = .ok (.ireturn, 1) := by decide +kernel
theorem dX7_ends_0 : decode cX7_ends 0 = .ok (.iload_n 1, 1) := by decide +kernel
theorem dX7_ends_1 : decode cX7_ends 1 = .ok (.invokestatic 79, 3) := by decide +kernel
theorem dX7_ends_4 : decode cX7_ends 4 = .ok (.ifCond .ne 6, 3) := by decide +kernel
theorem dX7_ends_7 : decode cX7_ends 7 = .ok (.ldc 82, 2) := by decide +kernel
theorem dX7_ends_9 : decode cX7_ends 9 = .ok (.ireturn, 1) := by decide +kernel
theorem dX7_ends_10 : decode cX7_ends 10 = .ok (.aload_n 0, 1) := by decide +kernel
theorem dX7_ends_11 : decode cX7_ends 11 = .ok (.iload_n 2, 1) := by decide +kernel
theorem dX7_ends_12 : decode cX7_ends 12 = .ok (.invokevirtual 210, 3) := by decide +kernel
theorem dX7_ends_15 : decode cX7_ends 15 = .ok (.ifCond .eq 10, 3) := by decide +kernel
theorem dX7_ends_18 : decode cX7_ends 18 = .ok (.iload_n 3, 1) := by decide +kernel
theorem dX7_ends_19 : decode cX7_ends 19 = .ok (.invokestatic 213, 3) := by decide +kernel
theorem dX7_ends_22 : decode cX7_ends 22 = .ok (.ifCond .ne 6, 3) := by decide +kernel
theorem dX7_ends_25 : decode cX7_ends 25 = .ok (.ldc 87, 2) := by decide +kernel
theorem dX7_ends_27 : decode cX7_ends 27 = .ok (.ireturn, 1) := by decide +kernel
theorem dX7_ends_28 : decode cX7_ends 28 = .ok (.aload_n 0, 1) := by decide +kernel
theorem dX7_ends_29 : decode cX7_ends 29 = .ok (.iload_n 2, 1) := by decide +kernel
theorem dX7_ends_30 : decode cX7_ends 30 = .ok (.invokevirtual 216, 3) := by decide +kernel
theorem dX7_ends_33 : decode cX7_ends 33 = .ok (.aload_n 0, 1) := by decide +kernel
theorem dX7_ends_34 : decode cX7_ends 34 = .ok (.getfield 33, 3) := by decide +kernel
theorem dX7_ends_37 : decode cX7_ends 37 = .ok (.invokevirtual 219, 3) := by decide +kernel
theorem dX7_ends_40 : decode cX7_ends 40 = .ok (.ifCond .eq 6, 3) := by decide +kernel
theorem dX7_ends_43 : decode cX7_ends 43 = .ok (.ldc 222, 2) := by decide +kernel
theorem dX7_ends_45 : decode cX7_ends 45 = .ok (.ireturn, 1) := by decide +kernel
theorem dX7_ends_46 : decode cX7_ends 46 = .ok (.aload_n 0, 1) := by decide +kernel
theorem dX7_ends_47 : decode cX7_ends 47 = .ok (.getfield 33, 3) := by decide +kernel
theorem dX7_ends_50 : decode cX7_ends 50 = .ok (.bipush 16, 2) := by decide +kernel
theorem dX7_ends_52 : decode cX7_ends 52 = .ok (.iload_n 3, 1) := by decide +kernel
theorem dX7_ends_53 : decode cX7_ends 53 = .ok (.invokevirtual 223, 3) := by decide +kernel
theorem dX7_ends_56 : decode cX7_ends 56 = .ok (.aload_n 0, 1) := by decide +kernel
theorem dX7_ends_57 : decode cX7_ends 57 = .ok (.getfield 33, 3) := by decide +kernel
theorem dX7_ends_60 : decode cX7_ends 60 = .ok (.iload_n 1, 1) := by decide +kernel
theorem dX7_ends_61 : decode cX7_ends 61 = .ok (.invokevirtual 227, 3) := by decide +kernel
theorem dX7_ends_64 : decode cX7_ends 64 = .ok (.ifCond .ne 6, 3) := by decide +kernel
theorem dX7_ends_67 : decode cX7_ends 67 = .ok (.ldc 230, 2) := by decide +kernel
theorem dX7_ends_69 : decode cX7_ends 69 = .ok (.ireturn, 1) := by decide +kernel
theorem dX7_ends_70 : decode cX7_ends 70 = .ok (.aload_n 0, 1) := by decide +kernel
theorem dX7_ends_71 : decode cX7_ends 71 = .ok (.getfield 33, 3) := by decide +kernel
theorem dX7_ends_74 : decode cX7_ends 74 = .ok (.iload_n 1, 1) := by decide +kernel
theorem dX7_ends_75 : decode cX7_ends 75 = .ok (.iload_n 3, 1) := by decide +kernel
theorem dX7_ends_76 : decode cX7_ends 76 = .ok (.invokevirtual 231, 3) := by decide +kernel
theorem dX7_ends_79 : decode cX7_ends 79 = .ok (.aload_n 0, 1) := by decide +kernel
theorem dX7_ends_80 : decode cX7_ends 80 = .ok (.getfield 69, 3) := by decide +kernel
theorem dX7_ends_83 : decode cX7_ends 83 = .ok (.ifCond .eq 10, 3) := by decide +kernel
theorem dX7_ends_86 : decode cX7_ends 86 = .ok (.aload_n 0, 1) := by decide +kernel
theorem dX7_ends_87 : decode cX7_ends 87 = .ok (.getfield 61, 3) := by decide +kernel
theorem dX7_ends_90 : decode cX7_ends 90 = .ok (.goto 4, 3) := by decide +kernel
theorem dX7_ends_93 : decode cX7_ends 93 = .ok (.iconst 0, 1) := by decide +kernel
theorem dX7_ends_94 : decode cX7_ends 94 = .ok (.iadd, 1) := by decide +kernel
theorem dX7_ends_95 : decode cX7_ends 95 = .ok (.ireturn, 1) := by decide +kernel
theorem dX7_between_0 : decode cX7_between 0 = .ok (.iload_n 1, 1) := by decide +kernel
theorem dX7_between_1 : decode cX7_between 1 = .ok (.invokestatic 79, 3) := by decide +kernel
theorem dX7_between_4 : decode cX7_between 4 = .ok (.ifCond .eq 10, 3) := by decide +kernel
theorem dX7_between_7 : decode cX7_between 7 = .ok (.iload_n 2, 1) := by decide +kernel
theorem dX7_between_8 : decode cX7_between 8 = .ok (.invokestatic 79, 3) := by decide +kernel
theorem dX7_between_11 : decode cX7_between 11 = .ok (.ifCond .ne 6, 3) := by decide +kernel
theorem dX7_between_14 : decode cX7_between 14 = .ok (.ldc 82, 2) := by decide +kernel
theorem dX7_between_16 : decode cX7_between 16 = .ok (.ireturn, 1) := by decide +kernel
theorem dX7_between_17 : decode cX7_between 17 = .ok (.iload_n 3, 1) := by decide +kernel
theorem dX7_between_18 : decode cX7_between 18 = .ok (.invokestatic 213, 3) := by decide +kernel
theorem dX7_between_21 : decode cX7_between 21 = .ok (.ifCond .ne 6, 3) := by decide +kernel
theorem dX7_between_24 : decode cX7_between 24 = .ok (.ldc 87, 2) := by decide +kernel
theorem dX7_between_26 : decode cX7_between 26 = .ok (.ireturn, 1) := by decide +kernel
theorem dX7_between_27 : decode cX7_between 27 = .ok (.aload_n 0, 1) := by decide +kernel
theorem dX7_between_28 : decode cX7_between 28 = .ok (.invokevirtual 235, 3) := by decide +kernel
theorem dX7_between_31 : decode cX7_between 31 = .ok (.ifCond .eq 6, 3) := by decide +kernel
theorem dX7_between_34 : decode cX7_between 34 = .ok (.ldc 222, 2) := by decide +kernel
theorem dX7_between_36 : decode cX7_between 36 = .ok (.ireturn, 1) := by decide +kernel
theorem dX7_between_37 : decode cX7_between 37 = .ok (.aload_n 0, 1) := by decide +kernel
theorem dX7_between_38 : decode cX7_between 38 = .ok (.getfield 33, 3) := by decide +kernel
theorem dX7_between_41 : decode cX7_between 41 = .ok (.iload_n 1, 1) := by decide +kernel
theorem dX7_between_42 : decode cX7_between 42 = .ok (.iload_n 3, 1) := by decide +kernel
theorem dX7_between_43 : decode cX7_between 43 = .ok (.invokevirtual 223, 3) := by decide +kernel
theorem dX7_between_46 : decode cX7_between 46 = .ok (.aload_n 0, 1) := by decide +kernel
theorem dX7_between_47 : decode cX7_between 47 = .ok (.getfield 33, 3) := by decide +kernel
theorem dX7_between_50 : decode cX7_between 50 = .ok (.iload_n 2, 1) := by decide +kernel
theorem dX7_between_51 : decode cX7_between 51 = .ok (.invokevirtual 227, 3) := by decide +kernel
theorem dX7_between_54 : decode cX7_between 54 = .ok (.ifCond .eq 15, 3) := by decide +kernel
theorem dX7_between_57 : decode cX7_between 57 = .ok (.aload_n 0, 1) := by decide +kernel
theorem dX7_between_58 : decode cX7_between 58 = .ok (.getfield 33, 3) := by decide +kernel
theorem dX7_between_61 : decode cX7_between 61 = .ok (.iload_n 2, 1) := by decide +kernel
theorem dX7_between_62 : decode cX7_between 62 = .ok (.iload_n 3, 1) := by decide +kernel
theorem dX7_between_63 : decode cX7_between 63 = .ok (.invokevirtual 231, 3) := by decide +kernel
theorem dX7_between_66 : decode cX7_between 66 = .ok (.goto 5, 3) := by decide +kernel
theorem dX7_between_69 : decode cX7_between 69 = .ok (.ldc 230, 2) := by decide +kernel
theorem dX7_between_71 : decode cX7_between 71 = .ok (.ireturn, 1) := by decide +kernel
theorem dX7_widening_0 : decode cX7_widening 0 = .ok (.aload_n 0, 1) := by decide +kernel
theorem dX7_widening_1 : decode cX7_widening 1 = .ok (.iload_n 1, 1) := by decide +kernel
theorem dX7_widening_2 : decode cX7_widening 2 = .ok (.invokevirtual 210, 3) := by decide +kernel
theorem dX7_widening_5 : decode cX7_widening 5 = .ok (.ifCond .ne 6, 3) := by decide +kernel
theorem dX7_widening_8 : decode cX7_widening 8 = .ok (.ldc 87, 2) := by decide +kernel
theorem dX7_widening_10 : decode cX7_widening 10 = .ok (.ireturn, 1) := by decide +kernel
theorem dX7_widening_11 : decode cX7_widening 11 = .ok (.aload_n 0, 1) := by decide +kernel
theorem dX7_widening_12 : decode cX7_widening 12 = .ok (.iload_n 1, 1) := by decide +kernel
theorem dX7_widening_13 : decode cX7_widening 13 = .ok (.invokevirtual 216, 3) := by decide +kernel
theorem dX7_widening_16 : decode cX7_widening 16 = .ok (.aload_n 0, 1) := by decide +kernel
theorem dX7_widening_17 : decode cX7_widening 17 = .ok (.getfield 40, 3) := by decide +kernel
theorem dX7_widening_20 : decode cX7_widening 20 = .ok (.aload_n 0, 1) := by decide +kernel
theorem dX7_widening_21 : decode cX7_widening 21 = .ok (.getfield 33, 3) := by decide +kernel
theorem dX7_widening_24 : decode cX7_widening 24 = .ok (.invokevirtual 238, 3) := by decide +kernel
theorem dX7_widening_27 : decode cX7_widening 27 = .ok (.ireturn, 1) := by decide +kernel
theorem dX7_blame_0 : decode cX7_blame 0 = .ok (.aload_n 0, 1) := by decide +kernel
theorem dX7_blame_1 : decode cX7_blame 1 = .ok (.invokevirtual 235, 3) := by decide +kernel
theorem dX7_blame_4 : decode cX7_blame 4 = .ok (.ifCond .eq 17, 3) := by decide +kernel
theorem dX7_blame_7 : decode cX7_blame 7 = .ok (.aload_n 0, 1) := by decide +kernel
theorem dX7_blame_8 : decode cX7_blame 8 = .ok (.getfield 40, 3) := by decide +kernel
theorem dX7_blame_11 : decode cX7_blame 11 = .ok (.aload_n 0, 1) := by decide +kernel
theorem dX7_blame_12 : decode cX7_blame 12 = .ok (.getfield 33, 3) := by decide +kernel
theorem dX7_blame_15 : decode cX7_blame 15 = .ok (.invokevirtual 242, 3) := by decide +kernel
theorem dX7_blame_18 : decode cX7_blame 18 = .ok (.goto 5, 3) := by decide +kernel
theorem dX7_blame_21 : decode cX7_blame 21 = .ok (.ldc 131, 2) := by decide +kernel
theorem dX7_blame_23 : decode cX7_blame 23 = .ok (.ireturn, 1) := by decide +kernel
theorem dX7_odd_0 : decode cX7_odd 0 = .ok (.aload_n 0, 1) := by decide +kernel
theorem dX7_odd_1 : decode cX7_odd 1 = .ok (.invokevirtual 235, 3) := by decide +kernel
theorem dX7_odd_4 : decode cX7_odd 4 = .ok (.ifCond .ne 6, 3) := by decide +kernel
theorem dX7_odd_7 : decode cX7_odd 7 = .ok (.ldc 131, 2) := by decide +kernel
theorem dX7_odd_9 : decode cX7_odd 9 = .ok (.ireturn, 1) := by decide +kernel
theorem dX7_odd_10 : decode cX7_odd 10 = .ok (.aload_n 0, 1) := by decide +kernel
theorem dX7_odd_11 : decode cX7_odd 11 = .ok (.getfield 40, 3) := by decide +kernel
theorem dX7_odd_14 : decode cX7_odd 14 = .ok (.aload_n 0, 1) := by decide +kernel
theorem dX7_odd_15 : decode cX7_odd 15 = .ok (.getfield 33, 3) := by decide +kernel
theorem dX7_odd_18 : decode cX7_odd 18 = .ok (.invokevirtual 245, 3) := by decide +kernel
theorem dX7_odd_21 : decode cX7_odd 21 = .ok (.iload_n 1, 1) := by decide +kernel
theorem dX7_odd_22 : decode cX7_odd 22 = .ok (.iconst (-1), 1) := by decide +kernel
theorem dX7_odd_23 : decode cX7_odd 23 = .ok (.if_icmp .ne 11, 3) := by decide +kernel
theorem dX7_odd_26 : decode cX7_odd 26 = .ok (.aload_n 0, 1) := by decide +kernel
theorem dX7_odd_27 : decode cX7_odd 27 = .ok (.getfield 40, 3) := by decide +kernel
theorem dX7_odd_30 : decode cX7_odd 30 = .ok (.getfield 249, 3) := by decide +kernel
theorem dX7_odd_33 : decode cX7_odd 33 = .ok (.ireturn, 1) := by decide +kernel
theorem dX7_odd_34 : decode cX7_odd 34 = .ok (.iload_n 1, 1) := by decide +kernel
theorem dX7_odd_35 : decode cX7_odd 35 = .ok (.ifCond .ne 11, 3) := by decide +kernel
theorem dX7_odd_38 : decode cX7_odd 38 = .ok (.aload_n 0, 1) := by decide +kernel
theorem dX7_odd_39 : decode cX7_odd 39 = .ok (.getfield 40, 3) := by decide +kernel
theorem dX7_odd_42 : decode cX7_odd 42 = .ok (.getfield 252, 3) := by decide +kernel
theorem dX7_odd_45 : decode cX7_odd 45 = .ok (.ireturn, 1) := by decide +kernel
theorem dX7_odd_46 : decode cX7_odd 46 = .ok (.iload_n 1, 1) := by decide +kernel
theorem dX7_odd_47 : decode cX7_odd 47 = .ok (.iconst 1, 1) := by decide +kernel
theorem dX7_odd_48 : decode cX7_odd 48 = .ok (.if_icmp .ne 13, 3) := by decide +kernel
theorem dX7_odd_51 : decode cX7_odd 51 = .ok (.aload_n 0, 1) := by decide +kernel
theorem dX7_odd_52 : decode cX7_odd 52 = .ok (.getfield 40, 3) := by decide +kernel
theorem dX7_odd_55 : decode cX7_odd 55 = .ok (.getfield 255, 3) := by decide +kernel
theorem dX7_odd_58 : decode cX7_odd 58 = .ok (.goto 4, 3) := by decide +kernel
theorem dX7_odd_61 : decode cX7_odd 61 = .ok (.iconst (-1), 1) := by decide +kernel
theorem dX7_odd_62 : decode cX7_odd 62 = .ok (.ireturn, 1) := by decide +kernel
theorem dX7_worth_0 : decode cX7_worth 0 = .ok (.iload_n 1, 1) := by decide +kernel
theorem dX7_worth_1 : decode cX7_worth 1 = .ok (.invokestatic 72, 3) := by decide +kernel
theorem dX7_worth_4 : decode cX7_worth 4 = .ok (.ifCond .eq 10, 3) := by decide +kernel
theorem dX7_worth_7 : decode cX7_worth 7 = .ok (.iload_n 2, 1) := by decide +kernel
theorem dX7_worth_8 : decode cX7_worth 8 = .ok (.invokestatic 79, 3) := by decide +kernel
theorem dX7_worth_11 : decode cX7_worth 11 = .ok (.ifCond .ne 6, 3) := by decide +kernel
theorem dX7_worth_14 : decode cX7_worth 14 = .ok (.ldc 82, 2) := by decide +kernel
theorem dX7_worth_16 : decode cX7_worth 16 = .ok (.ireturn, 1) := by decide +kernel
theorem dX7_worth_17 : decode cX7_worth 17 = .ok (.aload_n 0, 1) := by decide +kernel
theorem dX7_worth_18 : decode cX7_worth 18 = .ok (.invokevirtual 235, 3) := by decide +kernel
theorem dX7_worth_21 : decode cX7_worth 21 = .ok (.ifCond .eq 6, 3) := by decide +kernel
theorem dX7_worth_24 : decode cX7_worth 24 = .ok (.ldc 222, 2) := by decide +kernel
theorem dX7_worth_26 : decode cX7_worth 26 = .ok (.ireturn, 1) := by decide +kernel
theorem dX7_worth_27 : decode cX7_worth 27 = .ok (.aload_n 0, 1) := by decide +kernel
theorem dX7_worth_28 : decode cX7_worth 28 = .ok (.getfield 33, 3) := by decide +kernel
theorem dX7_worth_31 : decode cX7_worth 31 = .ok (.invokevirtual 258, 3) := by decide +kernel
theorem dX7_worth_34 : decode cX7_worth 34 = .ok (.aload_n 0, 1) := by decide +kernel
theorem dX7_worth_35 : decode cX7_worth 35 = .ok (.getfield 33, 3) := by decide +kernel
theorem dX7_worth_38 : decode cX7_worth 38 = .ok (.getfield 261, 3) := by decide +kernel
theorem dX7_worth_41 : decode cX7_worth 41 = .ok (.iload_n 2, 1) := by decide +kernel
theorem dX7_worth_42 : decode cX7_worth 42 = .ok (.baload, 1) := by decide +kernel
theorem dX7_worth_43 : decode cX7_worth 43 = .ok (.ifCond .ne 6, 3) := by decide +kernel
theorem dX7_worth_46 : decode cX7_worth 46 = .ok (.ldc 230, 2) := by decide +kernel
theorem dX7_worth_48 : decode cX7_worth 48 = .ok (.ireturn, 1) := by decide +kernel
theorem dX7_worth_49 : decode cX7_worth 49 = .ok (.aload_n 0, 1) := by decide +kernel
theorem dX7_worth_50 : decode cX7_worth 50 = .ok (.getfield 33, 3) := by decide +kernel
theorem dX7_worth_53 : decode cX7_worth 53 = .ok (.getfield 264, 3) := by decide +kernel
theorem dX7_worth_56 : decode cX7_worth 56 = .ok (.iload_n 2, 1) := by decide +kernel
theorem dX7_worth_57 : decode cX7_worth 57 = .ok (.iaload, 1) := by decide +kernel
theorem dX7_worth_58 : decode cX7_worth 58 = .ok (.aload_n 0, 1) := by decide +kernel
theorem dX7_worth_59 : decode cX7_worth 59 = .ok (.getfield 33, 3) := by decide +kernel
theorem dX7_worth_62 : decode cX7_worth 62 = .ok (.getfield 267, 3) := by decide +kernel
theorem dX7_worth_65 : decode cX7_worth 65 = .ok (.iload_n 2, 1) := by decide +kernel
theorem dX7_worth_66 : decode cX7_worth 66 = .ok (.iaload, 1) := by decide +kernel
theorem dX7_worth_67 : decode cX7_worth 67 = .ok (.isub, 1) := by decide +kernel
theorem dX7_worth_68 : decode cX7_worth 68 = .ok (.istore_n 3, 1) := by decide +kernel
theorem dX7_worth_69 : decode cX7_worth 69 = .ok (.aload_n 0, 1) := by decide +kernel
theorem dX7_worth_70 : decode cX7_worth 70 = .ok (.getfield 33, 3) := by decide +kernel
theorem dX7_worth_73 : decode cX7_worth 73 = .ok (.iload_n 1, 1) := by decide +kernel
theorem dX7_worth_74 : decode cX7_worth 74 = .ok (.iconst (-1), 1) := by decide +kernel
theorem dX7_worth_75 : decode cX7_worth 75 = .ok (.iconst (-1), 1) := by decide +kernel
theorem dX7_worth_76 : decode cX7_worth 76 = .ok (.invokevirtual 270, 3) := by decide +kernel
theorem dX7_worth_79 : decode cX7_worth 79 = .ok (.aload_n 0, 1) := by decide +kernel
theorem dX7_worth_80 : decode cX7_worth 80 = .ok (.getfield 33, 3) := by decide +kernel
theorem dX7_worth_83 : decode cX7_worth 83 = .ok (.invokevirtual 258, 3) := by decide +kernel
theorem dX7_worth_86 : decode cX7_worth 86 = .ok (.aload_n 0, 1) := by decide +kernel
theorem dX7_worth_87 : decode cX7_worth 87 = .ok (.getfield 33, 3) := by decide +kernel
theorem dX7_worth_90 : decode cX7_worth 90 = .ok (.getfield 261, 3) := by decide +kernel
theorem dX7_worth_93 : decode cX7_worth 93 = .ok (.iload_n 2, 1) := by decide +kernel
theorem dX7_worth_94 : decode cX7_worth 94 = .ok (.baload, 1) := by decide +kernel
theorem dX7_worth_95 : decode cX7_worth 95 = .ok (.ifCond .eq 27, 3) := by decide +kernel
theorem dX7_worth_98 : decode cX7_worth 98 = .ok (.aload_n 0, 1) := by decide +kernel
theorem dX7_worth_99 : decode cX7_worth 99 = .ok (.getfield 33, 3) := by decide +kernel
theorem dX7_worth_102 : decode cX7_worth 102 = .ok (.getfield 264, 3) := by decide +kernel
theorem dX7_worth_105 : decode cX7_worth 105 = .ok (.iload_n 2, 1) := by decide +kernel
theorem dX7_worth_106 : decode cX7_worth 106 = .ok (.iaload, 1) := by decide +kernel
theorem dX7_worth_107 : decode cX7_worth 107 = .ok (.aload_n 0, 1) := by decide +kernel
theorem dX7_worth_108 : decode cX7_worth 108 = .ok (.getfield 33, 3) := by decide +kernel
theorem dX7_worth_111 : decode cX7_worth 111 = .ok (.getfield 267, 3) := by decide +kernel
theorem dX7_worth_114 : decode cX7_worth 114 = .ok (.iload_n 2, 1) := by decide +kernel
theorem dX7_worth_115 : decode cX7_worth 115 = .ok (.iaload, 1) := by decide +kernel
theorem dX7_worth_116 : decode cX7_worth 116 = .ok (.isub, 1) := by decide +kernel
theorem dX7_worth_117 : decode cX7_worth 117 = .ok (.iload_n 3, 1) := by decide +kernel
theorem dX7_worth_118 : decode cX7_worth 118 = .ok (.isub, 1) := by decide +kernel
theorem dX7_worth_119 : decode cX7_worth 119 = .ok (.goto 6, 3) := by decide +kernel
theorem dX7_worth_122 : decode cX7_worth 122 = .ok (.ldc_w 273, 3) := by decide +kernel
theorem dX7_worth_125 : decode cX7_worth 125 = .ok (.ireturn, 1) := by decide +kernel
theorem dX7_lead_0 : decode cX7_lead 0 = .ok (.iload_n 1, 1) := by decide +kernel
theorem dX7_lead_1 : decode cX7_lead 1 = .ok (.invokestatic 79, 3) := by decide +kernel
theorem dX7_lead_4 : decode cX7_lead 4 = .ok (.ifCond .ne 6, 3) := by decide +kernel
theorem dX7_lead_7 : decode cX7_lead 7 = .ok (.ldc 82, 2) := by decide +kernel
theorem dX7_lead_9 : decode cX7_lead 9 = .ok (.ireturn, 1) := by decide +kernel
theorem dX7_lead_10 : decode cX7_lead 10 = .ok (.iload_n 2, 1) := by decide +kernel
theorem dX7_lead_11 : decode cX7_lead 11 = .ok (.invokestatic 213, 3) := by decide +kernel
theorem dX7_lead_14 : decode cX7_lead 14 = .ok (.ifCond .ne 6, 3) := by decide +kernel
theorem dX7_lead_17 : decode cX7_lead 17 = .ok (.ldc 87, 2) := by decide +kernel
theorem dX7_lead_19 : decode cX7_lead 19 = .ok (.ireturn, 1) := by decide +kernel
theorem dX7_lead_20 : decode cX7_lead 20 = .ok (.aload_n 0, 1) := by decide +kernel
theorem dX7_lead_21 : decode cX7_lead 21 = .ok (.invokevirtual 235, 3) := by decide +kernel
theorem dX7_lead_24 : decode cX7_lead 24 = .ok (.ifCond .eq 6, 3) := by decide +kernel
theorem dX7_lead_27 : decode cX7_lead 27 = .ok (.ldc 222, 2) := by decide +kernel
theorem dX7_lead_29 : decode cX7_lead 29 = .ok (.ireturn, 1) := by decide +kernel
theorem dX7_lead_30 : decode cX7_lead 30 = .ok (.aload_n 0, 1) := by decide +kernel
theorem dX7_lead_31 : decode cX7_lead 31 = .ok (.getfield 33, 3) := by decide +kernel
theorem dX7_lead_34 : decode cX7_lead 34 = .ok (.bipush 16, 2) := by decide +kernel
theorem dX7_lead_36 : decode cX7_lead 36 = .ok (.iload_n 2, 1) := by decide +kernel
theorem dX7_lead_37 : decode cX7_lead 37 = .ok (.invokevirtual 223, 3) := by decide +kernel
theorem dX7_lead_40 : decode cX7_lead 40 = .ok (.aload_n 0, 1) := by decide +kernel
theorem dX7_lead_41 : decode cX7_lead 41 = .ok (.getfield 33, 3) := by decide +kernel
theorem dX7_lead_44 : decode cX7_lead 44 = .ok (.iload_n 1, 1) := by decide +kernel
theorem dX7_lead_45 : decode cX7_lead 45 = .ok (.invokevirtual 227, 3) := by decide +kernel
theorem dX7_lead_48 : decode cX7_lead 48 = .ok (.ifCond .eq 13, 3) := by decide +kernel
theorem dX7_lead_51 : decode cX7_lead 51 = .ok (.aload_n 0, 1) := by decide +kernel
theorem dX7_lead_52 : decode cX7_lead 52 = .ok (.iload_n 1, 1) := by decide +kernel
theorem dX7_lead_53 : decode cX7_lead 53 = .ok (.iload_n 2, 1) := by decide +kernel
theorem dX7_lead_54 : decode cX7_lead 54 = .ok (.iload_n 3, 1) := by decide +kernel
theorem dX7_lead_55 : decode cX7_lead 55 = .ok (.invokevirtual 274, 3) := by decide +kernel
theorem dX7_lead_58 : decode cX7_lead 58 = .ok (.goto 5, 3) := by decide +kernel
theorem dX7_lead_61 : decode cX7_lead 61 = .ok (.ldc 230, 2) := by decide +kernel
theorem dX7_lead_63 : decode cX7_lead 63 = .ok (.ireturn, 1) := by decide +kernel
theorem dX7_steps_0 : decode cX7_steps 0 = .ok (.iload_n 1, 1) := by decide +kernel
theorem dX7_steps_1 : decode cX7_steps 1 = .ok (.invokestatic 79, 3) := by decide +kernel
theorem dX7_steps_4 : decode cX7_steps 4 = .ok (.ifCond .eq 14, 3) := by decide +kernel
theorem dX7_steps_7 : decode cX7_steps 7 = .ok (.aload_n 0, 1) := by decide +kernel
theorem dX7_steps_8 : decode cX7_steps 8 = .ok (.getfield 10, 3) := by decide +kernel
theorem dX7_steps_11 : decode cX7_steps 11 = .ok (.iload_n 1, 1) := by decide +kernel
theorem dX7_steps_12 : decode cX7_steps 12 = .ok (.invokevirtual 278, 3) := by decide +kernel
theorem dX7_steps_15 : decode cX7_steps 15 = .ok (.goto 5, 3) := by decide +kernel
theorem dX7_steps_18 : decode cX7_steps 18 = .ok (.ldc 82, 2) := by decide +kernel
theorem dX7_steps_20 : decode cX7_steps 20 = .ok (.ireturn, 1) := by decide +kernel
theorem dX7_far_0 : decode cX7_far 0 = .ok (.iload_n 1, 1) := by decide +kernel
theorem dX7_far_1 : decode cX7_far 1 = .ok (.invokestatic 281, 3) := by decide +kernel
theorem dX7_far_4 : decode cX7_far 4 = .ok (.ifCond .eq 10, 3) := by decide +kernel
theorem dX7_far_7 : decode cX7_far 7 = .ok (.iload_n 2, 1) := by decide +kernel
theorem dX7_far_8 : decode cX7_far 8 = .ok (.invokestatic 213, 3) := by decide +kernel
theorem dX7_far_11 : decode cX7_far 11 = .ok (.ifCond .ne 7, 3) := by decide +kernel
theorem dX7_far_14 : decode cX7_far 14 = .ok (.ldc2_w 284, 3) := by decide +kernel
theorem dX7_far_17 : decode cX7_far 17 = .ok (.lreturn, 1) := by decide +kernel
theorem dX7_far_18 : decode cX7_far 18 = .ok (.iload_n 2, 1) := by decide +kernel
theorem dX7_far_19 : decode cX7_far 19 = .ok (.ifCond .ne 10, 3) := by decide +kernel
theorem dX7_far_22 : decode cX7_far 22 = .ok (.iload_n 1, 1) := by decide +kernel
theorem dX7_far_23 : decode cX7_far 23 = .ok (.invokestatic 286, 3) := by decide +kernel
theorem dX7_far_26 : decode cX7_far 26 = .ok (.goto 7, 3) := by decide +kernel
theorem dX7_far_29 : decode cX7_far 29 = .ok (.iload_n 1, 1) := by decide +kernel
theorem dX7_far_30 : decode cX7_far 30 = .ok (.invokestatic 290, 3) := by decide +kernel
theorem dX7_far_33 : decode cX7_far 33 = .ok (.lreturn, 1) := by decide +kernel
theorem dX7_boxes_0 : decode cX7_boxes 0 = .ok (.iload_n 1, 1) := by decide +kernel
theorem dX7_boxes_1 : decode cX7_boxes 1 = .ok (.iconst 0, 1) := by decide +kernel
theorem dX7_boxes_2 : decode cX7_boxes 2 = .ok (.iconst 3, 1) := by decide +kernel
theorem dX7_boxes_3 : decode cX7_boxes 3 = .ok (.invokestatic 83, 3) := by decide +kernel
theorem dX7_boxes_6 : decode cX7_boxes 6 = .ok (.ifCond .ne 6, 3) := by decide +kernel
theorem dX7_boxes_9 : decode cX7_boxes 9 = .ok (.ldc 87, 2) := by decide +kernel
theorem dX7_boxes_11 : decode cX7_boxes 11 = .ok (.ireturn, 1) := by decide +kernel
theorem dX7_boxes_12 : decode cX7_boxes 12 = .ok (.aload_n 0, 1) := by decide +kernel
theorem dX7_boxes_13 : decode cX7_boxes 13 = .ok (.invokevirtual 235, 3) := by decide +kernel
theorem dX7_boxes_16 : decode cX7_boxes 16 = .ok (.ifCond .eq 6, 3) := by decide +kernel
theorem dX7_boxes_19 : decode cX7_boxes 19 = .ok (.ldc 222, 2) := by decide +kernel
theorem dX7_boxes_21 : decode cX7_boxes 21 = .ok (.ireturn, 1) := by decide +kernel
theorem dX7_boxes_22 : decode cX7_boxes 22 = .ok (.aload_n 0, 1) := by decide +kernel
theorem dX7_boxes_23 : decode cX7_boxes 23 = .ok (.getfield 33, 3) := by decide +kernel
theorem dX7_boxes_26 : decode cX7_boxes 26 = .ok (.invokevirtual 258, 3) := by decide +kernel
theorem dX7_boxes_29 : decode cX7_boxes 29 = .ok (.aload_n 0, 1) := by decide +kernel
theorem dX7_boxes_30 : decode cX7_boxes 30 = .ok (.getfield 47, 3) := by decide +kernel
theorem dX7_boxes_33 : decode cX7_boxes 33 = .ok (.aload_n 0, 1) := by decide +kernel
theorem dX7_boxes_34 : decode cX7_boxes 34 = .ok (.getfield 33, 3) := by decide +kernel
theorem dX7_boxes_37 : decode cX7_boxes 37 = .ok (.aload_n 0, 1) := by decide +kernel
theorem dX7_boxes_38 : decode cX7_boxes 38 = .ok (.getfield 54, 3) := by decide +kernel
theorem dX7_boxes_41 : decode cX7_boxes 41 = .ok (.getfield 207, 3) := by decide +kernel
theorem dX7_boxes_44 : decode cX7_boxes 44 = .ok (.invokevirtual 293, 3) := by decide +kernel
theorem dX7_boxes_47 : decode cX7_boxes 47 = .ok (.iload_n 1, 1) := by decide +kernel
theorem dX7_boxes_48 : decode cX7_boxes 48 = .ok (.iconst 3, 1) := by decide +kernel
theorem dX7_boxes_49 : decode cX7_boxes 49 = .ok (.if_icmp .ne 13, 3) := by decide +kernel
theorem dX7_boxes_52 : decode cX7_boxes 52 = .ok (.aload_n 0, 1) := by decide +kernel
theorem dX7_boxes_53 : decode cX7_boxes 53 = .ok (.getfield 47, 3) := by decide +kernel
theorem dX7_boxes_56 : decode cX7_boxes 56 = .ok (.invokevirtual 297, 3) := by decide +kernel
theorem dX7_boxes_59 : decode cX7_boxes 59 = .ok (.goto 11, 3) := by decide +kernel
theorem dX7_boxes_62 : decode cX7_boxes 62 = .ok (.aload_n 0, 1) := by decide +kernel
theorem dX7_boxes_63 : decode cX7_boxes 63 = .ok (.getfield 47, 3) := by decide +kernel
theorem dX7_boxes_66 : decode cX7_boxes 66 = .ok (.iload_n 1, 1) := by decide +kernel
theorem dX7_boxes_67 : decode cX7_boxes 67 = .ok (.invokevirtual 300, 3) := by decide +kernel
theorem dX7_boxes_70 : decode cX7_boxes 70 = .ok (.ireturn, 1) := by decide +kernel
theorem dX7_box_0 : decode cX7_box 0 = .ok (.iload_n 1, 1) := by decide +kernel
theorem dX7_box_1 : decode cX7_box 1 = .ok (.iconst 1, 1) := by decide +kernel
theorem dX7_box_2 : decode cX7_box 2 = .ok (.sipush 200, 3) := by decide +kernel
theorem dX7_box_5 : decode cX7_box 5 = .ok (.invokestatic 83, 3) := by decide +kernel
theorem dX7_box_8 : decode cX7_box 8 = .ok (.ifCond .ne 6, 3) := by decide +kernel
theorem dX7_box_11 : decode cX7_box 11 = .ok (.ldc 87, 2) := by decide +kernel
theorem dX7_box_13 : decode cX7_box 13 = .ok (.ireturn, 1) := by decide +kernel
theorem dX7_box_14 : decode cX7_box 14 = .ok (.aload_n 0, 1) := by decide +kernel
theorem dX7_box_15 : decode cX7_box 15 = .ok (.invokevirtual 235, 3) := by decide +kernel
theorem dX7_box_18 : decode cX7_box 18 = .ok (.ifCond .eq 6, 3) := by decide +kernel
theorem dX7_box_21 : decode cX7_box 21 = .ok (.ldc 222, 2) := by decide +kernel
theorem dX7_box_23 : decode cX7_box 23 = .ok (.ireturn, 1) := by decide +kernel
theorem dX7_box_24 : decode cX7_box 24 = .ok (.aload_n 0, 1) := by decide +kernel
theorem dX7_box_25 : decode cX7_box 25 = .ok (.getfield 33, 3) := by decide +kernel
theorem dX7_box_28 : decode cX7_box 28 = .ok (.invokevirtual 258, 3) := by decide +kernel
theorem dX7_box_31 : decode cX7_box 31 = .ok (.aload_n 0, 1) := by decide +kernel
theorem dX7_box_32 : decode cX7_box 32 = .ok (.getfield 47, 3) := by decide +kernel
theorem dX7_box_35 : decode cX7_box 35 = .ok (.aload_n 0, 1) := by decide +kernel
theorem dX7_box_36 : decode cX7_box 36 = .ok (.getfield 33, 3) := by decide +kernel
theorem dX7_box_39 : decode cX7_box 39 = .ok (.aload_n 0, 1) := by decide +kernel
theorem dX7_box_40 : decode cX7_box 40 = .ok (.getfield 54, 3) := by decide +kernel
theorem dX7_box_43 : decode cX7_box 43 = .ok (.getfield 207, 3) := by decide +kernel
theorem dX7_box_46 : decode cX7_box 46 = .ok (.invokevirtual 293, 3) := by decide +kernel
theorem dX7_box_49 : decode cX7_box 49 = .ok (.aload_n 0, 1) := by decide +kernel
theorem dX7_box_50 : decode cX7_box 50 = .ok (.getfield 47, 3) := by decide +kernel
theorem dX7_box_53 : decode cX7_box 53 = .ok (.iload_n 1, 1) := by decide +kernel
theorem dX7_box_54 : decode cX7_box 54 = .ok (.invokevirtual 303, 3) := by decide +kernel
theorem dX7_box_57 : decode cX7_box 57 = .ok (.ireturn, 1) := by decide +kernel
theorem dX7_delay_0 : decode cX7_delay 0 = .ok (.iload_n 1, 1) := by decide +kernel
theorem dX7_delay_1 : decode cX7_delay 1 = .ok (.invokestatic 79, 3) := by decide +kernel
theorem dX7_delay_4 : decode cX7_delay 4 = .ok (.ifCond .ne 7, 3) := by decide +kernel
theorem dX7_delay_7 : decode cX7_delay 7 = .ok (.ldc2_w 306, 3) := by decide +kernel
theorem dX7_delay_10 : decode cX7_delay 10 = .ok (.lreturn, 1) := by decide +kernel
theorem dX7_delay_11 : decode cX7_delay 11 = .ok (.lload_n 2, 1) := by decide +kernel
theorem dX7_delay_12 : decode cX7_delay 12 = .ok (.lconst 1, 1) := by decide +kernel
theorem dX7_delay_13 : decode cX7_delay 13 = .ok (.lcmp, 1) := by decide +kernel
theorem dX7_delay_14 : decode cX7_delay 14 = .ok (.ifCond .lt 19, 3) := by decide +kernel
theorem dX7_delay_17 : decode cX7_delay 17 = .ok (.lload 4, 2) := by decide +kernel
theorem dX7_delay_19 : decode cX7_delay 19 = .ok (.lload_n 2, 1) := by decide +kernel
theorem dX7_delay_20 : decode cX7_delay 20 = .ok (.lcmp, 1) := by decide +kernel
theorem dX7_delay_21 : decode cX7_delay 21 = .ok (.ifCond .lt 12, 3) := by decide +kernel
theorem dX7_delay_24 : decode cX7_delay 24 = .ok (.lload 4, 2) := by decide +kernel
theorem dX7_delay_26 : decode cX7_delay 26 = .ok (.ldc2_w 308, 3) := by decide +kernel
theorem dX7_delay_29 : decode cX7_delay 29 = .ok (.lcmp, 1) := by decide +kernel
theorem dX7_delay_30 : decode cX7_delay 30 = .ok (.ifCond .le 7, 3) := by decide +kernel
theorem dX7_delay_33 : decode cX7_delay 33 = .ok (.ldc2_w 284, 3) := by decide +kernel
theorem dX7_delay_36 : decode cX7_delay 36 = .ok (.lreturn, 1) := by decide +kernel
theorem dX7_delay_37 : decode cX7_delay 37 = .ok (.aload_n 0, 1) := by decide +kernel
theorem dX7_delay_38 : decode cX7_delay 38 = .ok (.invokevirtual 235, 3) := by decide +kernel
theorem dX7_delay_41 : decode cX7_delay 41 = .ok (.ifCond .eq 7, 3) := by decide +kernel
theorem dX7_delay_44 : decode cX7_delay 44 = .ok (.ldc2_w 310, 3) := by decide +kernel
theorem dX7_delay_47 : decode cX7_delay 47 = .ok (.lreturn, 1) := by decide +kernel
theorem dX7_delay_48 : decode cX7_delay 48 = .ok (.aload_n 0, 1) := by decide +kernel
theorem dX7_delay_49 : decode cX7_delay 49 = .ok (.getfield 33, 3) := by decide +kernel
theorem dX7_delay_52 : decode cX7_delay 52 = .ok (.invokevirtual 258, 3) := by decide +kernel
theorem dX7_delay_55 : decode cX7_delay 55 = .ok (.aload_n 0, 1) := by decide +kernel
theorem dX7_delay_56 : decode cX7_delay 56 = .ok (.getfield 33, 3) := by decide +kernel
theorem dX7_delay_59 : decode cX7_delay 59 = .ok (.iload_n 1, 1) := by decide +kernel
theorem dX7_delay_60 : decode cX7_delay 60 = .ok (.invokevirtual 312, 3) := by decide +kernel
theorem dX7_delay_63 : decode cX7_delay 63 = .ok (.ifCond .ne 7, 3) := by decide +kernel
theorem dX7_delay_66 : decode cX7_delay 66 = .ok (.ldc2_w 315, 3) := by decide +kernel
theorem dX7_delay_69 : decode cX7_delay 69 = .ok (.lreturn, 1) := by decide +kernel
theorem dX7_delay_70 : decode cX7_delay 70 = .ok (.aload_n 0, 1) := by decide +kernel
theorem dX7_delay_71 : decode cX7_delay 71 = .ok (.getfield 33, 3) := by decide +kernel
theorem dX7_delay_74 : decode cX7_delay 74 = .ok (.getfield 267, 3) := by decide +kernel
theorem dX7_delay_77 : decode cX7_delay 77 = .ok (.iload_n 1, 1) := by decide +kernel
theorem dX7_delay_78 : decode cX7_delay 78 = .ok (.iaload, 1) := by decide +kernel
theorem dX7_delay_79 : decode cX7_delay 79 = .ok (.invokestatic 286, 3) := by decide +kernel
theorem dX7_delay_82 : decode cX7_delay 82 = .ok (.lstore 6, 2) := by decide +kernel
theorem dX7_delay_84 : decode cX7_delay 84 = .ok (.aload_n 0, 1) := by decide +kernel
theorem dX7_delay_85 : decode cX7_delay 85 = .ok (.getfield 33, 3) := by decide +kernel
theorem dX7_delay_88 : decode cX7_delay 88 = .ok (.getfield 264, 3) := by decide +kernel
theorem dX7_delay_91 : decode cX7_delay 91 = .ok (.iload_n 1, 1) := by decide +kernel
theorem dX7_delay_92 : decode cX7_delay 92 = .ok (.iaload, 1) := by decide +kernel
theorem dX7_delay_93 : decode cX7_delay 93 = .ok (.invokestatic 290, 3) := by decide +kernel
theorem dX7_delay_96 : decode cX7_delay 96 = .ok (.lstore 8, 2) := by decide +kernel
theorem dX7_delay_98 : decode cX7_delay 98 = .ok (.lconst 0, 1) := by decide +kernel
theorem dX7_delay_99 : decode cX7_delay 99 = .ok (.lload 6, 2) := by decide +kernel
theorem dX7_delay_101 : decode cX7_delay 101 = .ok (.lload 4, 2) := by decide +kernel
theorem dX7_delay_103 : decode cX7_delay 103 = .ok (.lsub, 1) := by decide +kernel
theorem dX7_delay_104 : decode cX7_delay 104 = .ok (.lload_n 2, 1) := by decide +kernel
theorem dX7_delay_105 : decode cX7_delay 105 = .ok (.lload 8, 2) := by decide +kernel
theorem dX7_delay_107 : decode cX7_delay 107 = .ok (.lsub, 1) := by decide +kernel
theorem dX7_delay_108 : decode cX7_delay 108 = .ok (.invokestatic 317, 3) := by decide +kernel
theorem dX7_delay_111 : decode cX7_delay 111 = .ok (.invokestatic 317, 3) := by decide +kernel
theorem dX7_delay_114 : decode cX7_delay 114 = .ok (.lreturn, 1) := by decide +kernel
theorem dX7_blind_0 : decode cX7_blind 0 = .ok (.iload_n 1, 1) := by decide +kernel
theorem dX7_blind_1 : decode cX7_blind 1 = .ok (.sipush (-999), 3) := by decide +kernel
theorem dX7_blind_4 : decode cX7_blind 4 = .ok (.sipush 999, 3) := by decide +kernel
theorem dX7_blind_7 : decode cX7_blind 7 = .ok (.invokestatic 83, 3) := by decide +kernel
theorem dX7_blind_10 : decode cX7_blind 10 = .ok (.ifCond .ne 6, 3) := by decide +kernel
theorem dX7_blind_13 : decode cX7_blind 13 = .ok (.ldc 87, 2) := by decide +kernel
theorem dX7_blind_15 : decode cX7_blind 15 = .ok (.ireturn, 1) := by decide +kernel
theorem dX7_blind_16 : decode cX7_blind 16 = .ok (.aload_n 0, 1) := by decide +kernel
theorem dX7_blind_17 : decode cX7_blind 17 = .ok (.getfield 65, 3) := by decide +kernel
theorem dX7_blind_20 : decode cX7_blind 20 = .ok (.ifCond .eq 6, 3) := by decide +kernel
theorem dX7_blind_23 : decode cX7_blind 23 = .ok (.ldc 131, 2) := by decide +kernel
theorem dX7_blind_25 : decode cX7_blind 25 = .ok (.ireturn, 1) := by decide +kernel
theorem dX7_blind_26 : decode cX7_blind 26 = .ok (.aload_n 0, 1) := by decide +kernel
theorem dX7_blind_27 : decode cX7_blind 27 = .ok (.iload_n 1, 1) := by decide +kernel
theorem dX7_blind_28 : decode cX7_blind 28 = .ok (.putfield 61, 3) := by decide +kernel
theorem dX7_blind_31 : decode cX7_blind 31 = .ok (.aload_n 0, 1) := by decide +kernel
theorem dX7_blind_32 : decode cX7_blind 32 = .ok (.iconst 1, 1) := by decide +kernel
theorem dX7_blind_33 : decode cX7_blind 33 = .ok (.putfield 65, 3) := by decide +kernel
theorem dX7_blind_36 : decode cX7_blind 36 = .ok (.aload_n 0, 1) := by decide +kernel
theorem dX7_blind_37 : decode cX7_blind 37 = .ok (.iconst 1, 1) := by decide +kernel
theorem dX7_blind_38 : decode cX7_blind 38 = .ok (.putfield 69, 3) := by decide +kernel
theorem dX7_blind_41 : decode cX7_blind 41 = .ok (.iconst 1, 1) := by decide +kernel
theorem dX7_blind_42 : decode cX7_blind 42 = .ok (.ireturn, 1) := by decide +kernel
theorem dX7_open_0 : decode cX7_open 0 = .ok (.aload_n 0, 1) := by decide +kernel
theorem dX7_open_1 : decode cX7_open 1 = .ok (.getfield 69, 3) := by decide +kernel
theorem dX7_open_4 : decode cX7_open 4 = .ok (.ifCond .ne 6, 3) := by decide +kernel
theorem dX7_open_7 : decode cX7_open 7 = .ok (.ldc 131, 2) := by decide +kernel
theorem dX7_open_9 : decode cX7_open 9 = .ok (.ireturn, 1) := by decide +kernel
theorem dX7_open_10 : decode cX7_open 10 = .ok (.aload_n 0, 1) := by decide +kernel
theorem dX7_open_11 : decode cX7_open 11 = .ok (.iconst 0, 1) := by decide +kernel
theorem dX7_open_12 : decode cX7_open 12 = .ok (.putfield 69, 3) := by decide +kernel
theorem dX7_open_15 : decode cX7_open 15 = .ok (.aload_n 0, 1) := by decide +kernel
theorem dX7_open_16 : decode cX7_open 16 = .ok (.getfield 61, 3) := by decide +kernel
theorem dX7_open_19 : decode cX7_open 19 = .ok (.ireturn, 1) := by decide +kernel
theorem dX7_claim_0 : decode cX7_claim 0 = .ok (.iload_n 1, 1) := by decide +kernel
theorem dX7_claim_1 : decode cX7_claim 1 = .ok (.ifCond .lt 14, 3) := by decide +kernel
theorem dX7_claim_4 : decode cX7_claim 4 = .ok (.iload_n 1, 1) := by decide +kernel
theorem dX7_claim_5 : decode cX7_claim 5 = .ok (.aload_n 0, 1) := by decide +kernel
theorem dX7_claim_6 : decode cX7_claim 6 = .ok (.getfield 54, 3) := by decide +kernel
theorem dX7_claim_9 : decode cX7_claim 9 = .ok (.getfield 166, 3) := by decide +kernel
theorem dX7_claim_12 : decode cX7_claim 12 = .ok (.if_icmp .lt 6, 3) := by decide +kernel
theorem dX7_claim_15 : decode cX7_claim 15 = .ok (.ldc 82, 2) := by decide +kernel
theorem dX7_claim_17 : decode cX7_claim 17 = .ok (.ireturn, 1) := by decide +kernel
theorem dX7_claim_18 : decode cX7_claim 18 = .ok (.iload_n 2, 1) := by decide +kernel
theorem dX7_claim_19 : decode cX7_claim 19 = .ok (.tableswitch 68 0 3 #[29, 35, 45, 55], 29) := by decide +kernel
theorem dX7_claim_48 : decode cX7_claim 48 = .ok (.aload_n 0, 1) := by decide +kernel
theorem dX7_claim_49 : decode cX7_claim 49 = .ok (.iload_n 1, 1) := by decide +kernel
theorem dX7_claim_50 : decode cX7_claim 50 = .ok (.invokevirtual 323, 3) := by decide +kernel
theorem dX7_claim_53 : decode cX7_claim 53 = .ok (.ireturn, 1) := by decide +kernel
theorem dX7_claim_54 : decode cX7_claim 54 = .ok (.aload_n 0, 1) := by decide +kernel
theorem dX7_claim_55 : decode cX7_claim 55 = .ok (.getfield 54, 3) := by decide +kernel
theorem dX7_claim_58 : decode cX7_claim 58 = .ok (.getfield 326, 3) := by decide +kernel
theorem dX7_claim_61 : decode cX7_claim 61 = .ok (.iload_n 1, 1) := by decide +kernel
theorem dX7_claim_62 : decode cX7_claim 62 = .ok (.iaload, 1) := by decide +kernel
theorem dX7_claim_63 : decode cX7_claim 63 = .ok (.ireturn, 1) := by decide +kernel
theorem dX7_claim_64 : decode cX7_claim 64 = .ok (.aload_n 0, 1) := by decide +kernel
theorem dX7_claim_65 : decode cX7_claim 65 = .ok (.getfield 54, 3) := by decide +kernel
theorem dX7_claim_68 : decode cX7_claim 68 = .ok (.getfield 329, 3) := by decide +kernel
theorem dX7_claim_71 : decode cX7_claim 71 = .ok (.iload_n 1, 1) := by decide +kernel
theorem dX7_claim_72 : decode cX7_claim 72 = .ok (.iaload, 1) := by decide +kernel
theorem dX7_claim_73 : decode cX7_claim 73 = .ok (.ireturn, 1) := by decide +kernel
theorem dX7_claim_74 : decode cX7_claim 74 = .ok (.aload_n 0, 1) := by decide +kernel
theorem dX7_claim_75 : decode cX7_claim 75 = .ok (.getfield 54, 3) := by decide +kernel
theorem dX7_claim_78 : decode cX7_claim 78 = .ok (.getfield 332, 3) := by decide +kernel
theorem dX7_claim_81 : decode cX7_claim 81 = .ok (.iload_n 1, 1) := by decide +kernel
theorem dX7_claim_82 : decode cX7_claim 82 = .ok (.baload, 1) := by decide +kernel
theorem dX7_claim_83 : decode cX7_claim 83 = .ok (.invokestatic 123, 3) := by decide +kernel
theorem dX7_claim_86 : decode cX7_claim 86 = .ok (.ireturn, 1) := by decide +kernel
theorem dX7_claim_87 : decode cX7_claim 87 = .ok (.ldc 87, 2) := by decide +kernel
theorem dX7_claim_89 : decode cX7_claim 89 = .ok (.ireturn, 1) := by decide +kernel
theorem dX7_isFrom_0 : decode cX7_isFrom 0 = .ok (.iload_n 0, 1) := by decide +kernel
theorem dX7_isFrom_1 : decode cX7_isFrom 1 = .ok (.iload_n 1, 1) := by decide +kernel
theorem dX7_isFrom_2 : decode cX7_isFrom 2 = .ok (.if_icmp .lt 12, 3) := by decide +kernel
theorem dX7_isFrom_5 : decode cX7_isFrom 5 = .ok (.iload_n 0, 1) := by decide +kernel
theorem dX7_isFrom_6 : decode cX7_isFrom 6 = .ok (.iload_n 2, 1) := by decide +kernel
theorem dX7_isFrom_7 : decode cX7_isFrom 7 = .ok (.if_icmp .gt 7, 3) := by decide +kernel
theorem dX7_isFrom_10 : decode cX7_isFrom 10 = .ok (.iconst 1, 1) := by decide +kernel
theorem dX7_isFrom_11 : decode cX7_isFrom 11 = .ok (.goto 4, 3) := by decide +kernel
theorem dX7_isFrom_14 : decode cX7_isFrom 14 = .ok (.iconst 0, 1) := by decide +kernel
theorem dX7_isFrom_15 : decode cX7_isFrom 15 = .ok (.ireturn, 1) := by decide +kernel
theorem dX7_isList_0 : decode cX7_isList 0 = .ok (.iload_n 0, 1) := by decide +kernel
theorem dX7_isList_1 : decode cX7_isList 1 = .ok (.iconst 0, 1) := by decide +kernel
theorem dX7_isList_2 : decode cX7_isList 2 = .ok (.iconst 5, 1) := by decide +kernel
theorem dX7_isList_3 : decode cX7_isList 3 = .ok (.invokestatic 83, 3) := by decide +kernel
theorem dX7_isList_6 : decode cX7_isList 6 = .ok (.ireturn, 1) := by decide +kernel
theorem dX7_isSort_0 : decode cX7_isSort 0 = .ok (.iload_n 0, 1) := by decide +kernel
theorem dX7_isSort_1 : decode cX7_isSort 1 = .ok (.iconst 0, 1) := by decide +kernel
theorem dX7_isSort_2 : decode cX7_isSort 2 = .ok (.iconst 5, 1) := by decide +kernel
theorem dX7_isSort_3 : decode cX7_isSort 3 = .ok (.invokestatic 83, 3) := by decide +kernel
theorem dX7_isSort_6 : decode cX7_isSort 6 = .ok (.ireturn, 1) := by decide +kernel
theorem dX7_isHome_0 : decode cX7_isHome 0 = .ok (.iload_n 0, 1) := by decide +kernel
theorem dX7_isHome_1 : decode cX7_isHome 1 = .ok (.iconst 0, 1) := by decide +kernel
theorem dX7_isHome_2 : decode cX7_isHome 2 = .ok (.bipush 9, 2) := by decide +kernel
theorem dX7_isHome_4 : decode cX7_isHome 4 = .ok (.invokestatic 83, 3) := by decide +kernel
theorem dX7_isHome_7 : decode cX7_isHome 7 = .ok (.ireturn, 1) := by decide +kernel
theorem dX7_isEnd_0 : decode cX7_isEnd 0 = .ok (.iload_n 0, 1) := by decide +kernel
theorem dX7_isEnd_1 : decode cX7_isEnd 1 = .ok (.ifCond .eq 8, 3) := by decide +kernel
theorem dX7_isEnd_4 : decode cX7_isEnd 4 = .ok (.iload_n 0, 1) := by decide +kernel
theorem dX7_isEnd_5 : decode cX7_isEnd 5 = .ok (.iconst 1, 1) := by decide +kernel
theorem dX7_isEnd_6 : decode cX7_isEnd 6 = .ok (.if_icmp .ne 7, 3) := by decide +kernel
theorem dX7_isEnd_9 : decode cX7_isEnd 9 = .ok (.iconst 1, 1) := by decide +kernel
theorem dX7_isEnd_10 : decode cX7_isEnd 10 = .ok (.goto 4, 3) := by decide +kernel
theorem dX7_isEnd_13 : decode cX7_isEnd 13 = .ok (.iconst 0, 1) := by decide +kernel
theorem dX7_isEnd_14 : decode cX7_isEnd 14 = .ok (.ireturn, 1) := by decide +kernel
theorem dX7_isFarness_0 : decode cX7_isFarness 0 = .ok (.iload_n 0, 1) := by decide +kernel
theorem dX7_isFarness_1 : decode cX7_isFarness 1 = .ok (.iconst 0, 1) := by decide +kernel
theorem dX7_isFarness_2 : decode cX7_isFarness 2 = .ok (.ldc_w 335, 3) := by decide +kernel
theorem dX7_isFarness_5 : decode cX7_isFarness 5 = .ok (.invokestatic 83, 3) := by decide +kernel
theorem dX7_isFarness_8 : decode cX7_isFarness 8 = .ok (.ireturn, 1) := by decide +kernel
theorem dX7_isSpan_0 : decode cX7_isSpan 0 = .ok (.iload_n 0, 1) := by decide +kernel
theorem dX7_isSpan_1 : decode cX7_isSpan 1 = .ok (.ldc_w 336, 3) := by decide +kernel
theorem dX7_isSpan_4 : decode cX7_isSpan 4 = .ok (.if_icmp .lt 19, 3) := by decide +kernel
theorem dX7_isSpan_7 : decode cX7_isSpan 7 = .ok (.iload_n 1, 1) := by decide +kernel
theorem dX7_isSpan_8 : decode cX7_isSpan 8 = .ok (.iload_n 0, 1) := by decide +kernel
theorem dX7_isSpan_9 : decode cX7_isSpan 9 = .ok (.if_icmp .lt 14, 3) := by decide +kernel
theorem dX7_isSpan_12 : decode cX7_isSpan 12 = .ok (.iload_n 1, 1) := by decide +kernel
theorem dX7_isSpan_13 : decode cX7_isSpan 13 = .ok (.ldc_w 335, 3) := by decide +kernel
theorem dX7_isSpan_16 : decode cX7_isSpan 16 = .ok (.if_icmp .gt 7, 3) := by decide +kernel
theorem dX7_isSpan_19 : decode cX7_isSpan 19 = .ok (.iconst 1, 1) := by decide +kernel
theorem dX7_isSpan_20 : decode cX7_isSpan 20 = .ok (.goto 4, 3) := by decide +kernel
theorem dX7_isSpan_23 : decode cX7_isSpan 23 = .ok (.iconst 0, 1) := by decide +kernel
theorem dX7_isSpan_24 : decode cX7_isSpan 24 = .ok (.ireturn, 1) := by decide +kernel
theorem dX7_isKnownBy_0 : decode cX7_isKnownBy 0 = .ok (.iload_n 1, 1) := by decide +kernel
theorem dX7_isKnownBy_1 : decode cX7_isKnownBy 1 = .ok (.iconst (-1), 1) := by decide +kernel
theorem dX7_isKnownBy_2 : decode cX7_isKnownBy 2 = .ok (.if_icmp .eq 18, 3) := by decide +kernel
theorem dX7_isKnownBy_5 : decode cX7_isKnownBy 5 = .ok (.iload_n 1, 1) := by decide +kernel
theorem dX7_isKnownBy_6 : decode cX7_isKnownBy 6 = .ok (.iconst 0, 1) := by decide +kernel
theorem dX7_isKnownBy_7 : decode cX7_isKnownBy 7 = .ok (.aload_n 0, 1) := by decide +kernel
theorem dX7_isKnownBy_8 : decode cX7_isKnownBy 8 = .ok (.getfield 10, 3) := by decide +kernel
theorem dX7_isKnownBy_11 : decode cX7_isKnownBy 11 = .ok (.getfield 157, 3) := by decide +kernel
theorem dX7_isKnownBy_14 : decode cX7_isKnownBy 14 = .ok (.invokestatic 83, 3) := by decide +kernel
theorem dX7_isKnownBy_17 : decode cX7_isKnownBy 17 = .ok (.ifCond .eq 7, 3) := by decide +kernel
theorem dX7_isKnownBy_20 : decode cX7_isKnownBy 20 = .ok (.iconst 1, 1) := by decide +kernel
theorem dX7_isKnownBy_21 : decode cX7_isKnownBy 21 = .ok (.goto 4, 3) := by decide +kernel
theorem dX7_isKnownBy_24 : decode cX7_isKnownBy 24 = .ok (.iconst 0, 1) := by decide +kernel
theorem dX7_isKnownBy_25 : decode cX7_isKnownBy 25 = .ok (.ireturn, 1) := by decide +kernel
theorem dX7_asNumber_0 : decode cX7_asNumber 0 = .ok (.iload_n 0, 1) := by decide +kernel
theorem dX7_asNumber_1 : decode cX7_asNumber 1 = .ok (.ifCond .eq 7, 3) := by decide +kernel
theorem dX7_asNumber_4 : decode cX7_asNumber 4 = .ok (.iconst 1, 1) := by decide +kernel
theorem dX7_asNumber_5 : decode cX7_asNumber 5 = .ok (.goto 4, 3) := by decide +kernel
theorem dX7_asNumber_8 : decode cX7_asNumber 8 = .ok (.iconst 0, 1) := by decide +kernel
theorem dX7_asNumber_9 : decode cX7_asNumber 9 = .ok (.ireturn, 1) := by decide +kernel
theorem dX7_lowOf_0 : decode cX7_lowOf 0 = .ok (.aload_n 0, 1) := by decide +kernel
theorem dX7_lowOf_1 : decode cX7_lowOf 1 = .ok (.getfield 10, 3) := by decide +kernel
theorem dX7_lowOf_4 : decode cX7_lowOf 4 = .ok (.getfield 337, 3) := by decide +kernel
theorem dX7_lowOf_7 : decode cX7_lowOf 7 = .ok (.iload_n 1, 1) := by decide +kernel
theorem dX7_lowOf_8 : decode cX7_lowOf 8 = .ok (.iaload, 1) := by decide +kernel
theorem dX7_lowOf_9 : decode cX7_lowOf 9 = .ok (.aload_n 0, 1) := by decide +kernel
theorem dX7_lowOf_10 : decode cX7_lowOf 10 = .ok (.getfield 54, 3) := by decide +kernel
theorem dX7_lowOf_13 : decode cX7_lowOf 13 = .ok (.getfield 204, 3) := by decide +kernel
theorem dX7_lowOf_16 : decode cX7_lowOf 16 = .ok (.aload_n 0, 1) := by decide +kernel
theorem dX7_lowOf_17 : decode cX7_lowOf 17 = .ok (.getfield 10, 3) := by decide +kernel
theorem dX7_lowOf_20 : decode cX7_lowOf 20 = .ok (.getfield 138, 3) := by decide +kernel
theorem dX7_lowOf_23 : decode cX7_lowOf 23 = .ok (.iload_n 1, 1) := by decide +kernel
theorem dX7_lowOf_24 : decode cX7_lowOf 24 = .ok (.iaload, 1) := by decide +kernel
theorem dX7_lowOf_25 : decode cX7_lowOf 25 = .ok (.iaload, 1) := by decide +kernel
theorem dX7_lowOf_26 : decode cX7_lowOf 26 = .ok (.isub, 1) := by decide +kernel
theorem dX7_lowOf_27 : decode cX7_lowOf 27 = .ok (.istore_n 2, 1) := by decide +kernel
theorem dX7_lowOf_28 : decode cX7_lowOf 28 = .ok (.aload_n 0, 1) := by decide +kernel
theorem dX7_lowOf_29 : decode cX7_lowOf 29 = .ok (.getfield 10, 3) := by decide +kernel
theorem dX7_lowOf_32 : decode cX7_lowOf 32 = .ok (.getfield 135, 3) := by decide +kernel
theorem dX7_lowOf_35 : decode cX7_lowOf 35 = .ok (.iload_n 1, 1) := by decide +kernel
theorem dX7_lowOf_36 : decode cX7_lowOf 36 = .ok (.iaload, 1) := by decide +kernel
theorem dX7_lowOf_37 : decode cX7_lowOf 37 = .ok (.ifCond .eq 5, 3) := by decide +kernel
theorem dX7_lowOf_40 : decode cX7_lowOf 40 = .ok (.iload_n 2, 1) := by decide +kernel
theorem dX7_lowOf_41 : decode cX7_lowOf 41 = .ok (.ireturn, 1) := by decide +kernel
theorem dX7_lowOf_42 : decode cX7_lowOf 42 = .ok (.aload_n 0, 1) := by decide +kernel
theorem dX7_lowOf_43 : decode cX7_lowOf 43 = .ok (.getfield 54, 3) := by decide +kernel
theorem dX7_lowOf_46 : decode cX7_lowOf 46 = .ok (.aload_n 0, 1) := by decide +kernel
theorem dX7_lowOf_47 : decode cX7_lowOf 47 = .ok (.getfield 10, 3) := by decide +kernel
theorem dX7_lowOf_50 : decode cX7_lowOf 50 = .ok (.getfield 141, 3) := by decide +kernel
theorem dX7_lowOf_53 : decode cX7_lowOf 53 = .ok (.iload_n 1, 1) := by decide +kernel
theorem dX7_lowOf_54 : decode cX7_lowOf 54 = .ok (.iaload, 1) := by decide +kernel
theorem dX7_lowOf_55 : decode cX7_lowOf 55 = .ok (.aload_n 0, 1) := by decide +kernel
theorem dX7_lowOf_56 : decode cX7_lowOf 56 = .ok (.getfield 10, 3) := by decide +kernel
theorem dX7_lowOf_59 : decode cX7_lowOf 59 = .ok (.getfield 339, 3) := by decide +kernel
theorem dX7_lowOf_62 : decode cX7_lowOf 62 = .ok (.iload_n 1, 1) := by decide +kernel
theorem dX7_lowOf_63 : decode cX7_lowOf 63 = .ok (.iaload, 1) := by decide +kernel
theorem dX7_lowOf_64 : decode cX7_lowOf 64 = .ok (.aload_n 0, 1) := by decide +kernel
theorem dX7_lowOf_65 : decode cX7_lowOf 65 = .ok (.getfield 10, 3) := by decide +kernel
theorem dX7_lowOf_68 : decode cX7_lowOf 68 = .ok (.getfield 342, 3) := by decide +kernel
theorem dX7_lowOf_71 : decode cX7_lowOf 71 = .ok (.iload_n 1, 1) := by decide +kernel
theorem dX7_lowOf_72 : decode cX7_lowOf 72 = .ok (.iaload, 1) := by decide +kernel
theorem dX7_lowOf_73 : decode cX7_lowOf 73 = .ok (.invokevirtual 345, 3) := by decide +kernel
theorem dX7_lowOf_76 : decode cX7_lowOf 76 = .ok (.istore_n 3, 1) := by decide +kernel
theorem dX7_lowOf_77 : decode cX7_lowOf 77 = .ok (.aload_n 0, 1) := by decide +kernel
theorem dX7_lowOf_78 : decode cX7_lowOf 78 = .ok (.getfield 10, 3) := by decide +kernel
theorem dX7_lowOf_81 : decode cX7_lowOf 81 = .ok (.getfield 348, 3) := by decide +kernel
theorem dX7_lowOf_84 : decode cX7_lowOf 84 = .ok (.iload_n 1, 1) := by decide +kernel
theorem dX7_lowOf_85 : decode cX7_lowOf 85 = .ok (.iaload, 1) := by decide +kernel
theorem dX7_lowOf_86 : decode cX7_lowOf 86 = .ok (.istore 4, 2) := by decide +kernel
theorem dX7_lowOf_88 : decode cX7_lowOf 88 = .ok (.iload_n 2, 1) := by decide +kernel
theorem dX7_lowOf_89 : decode cX7_lowOf 89 = .ok (.iload 4, 2) := by decide +kernel
theorem dX7_lowOf_91 : decode cX7_lowOf 91 = .ok (.isub, 1) := by decide +kernel
theorem dX7_lowOf_92 : decode cX7_lowOf 92 = .ok (.iload_n 3, 1) := by decide +kernel
theorem dX7_lowOf_93 : decode cX7_lowOf 93 = .ok (.ineg, 1) := by decide +kernel
theorem dX7_lowOf_94 : decode cX7_lowOf 94 = .ok (.sipush 1000, 3) := by decide +kernel
theorem dX7_lowOf_97 : decode cX7_lowOf 97 = .ok (.invokestatic 350, 3) := by decide +kernel
theorem dX7_lowOf_100 : decode cX7_lowOf 100 = .ok (.iadd, 1) := by decide +kernel
theorem dX7_lowOf_101 : decode cX7_lowOf 101 = .ok (.aload_n 0, 1) := by decide +kernel
theorem dX7_lowOf_102 : decode cX7_lowOf 102 = .ok (.getfield 19, 3) := by decide +kernel
theorem dX7_lowOf_105 : decode cX7_lowOf 105 = .ok (.aload_n 0, 1) := by decide +kernel
theorem dX7_lowOf_106 : decode cX7_lowOf 106 = .ok (.getfield 10, 3) := by decide +kernel
theorem dX7_lowOf_109 : decode cX7_lowOf 109 = .ok (.getfield 144, 3) := by decide +kernel
theorem dX7_lowOf_112 : decode cX7_lowOf 112 = .ok (.iload_n 1, 1) := by decide +kernel
theorem dX7_lowOf_113 : decode cX7_lowOf 113 = .ok (.iaload, 1) := by decide +kernel
theorem dX7_lowOf_114 : decode cX7_lowOf 114 = .ok (.aload_n 0, 1) := by decide +kernel
theorem dX7_lowOf_115 : decode cX7_lowOf 115 = .ok (.getfield 54, 3) := by decide +kernel
theorem dX7_lowOf_118 : decode cX7_lowOf 118 = .ok (.invokevirtual 353, 3) := by decide +kernel
theorem dX7_lowOf_121 : decode cX7_lowOf 121 = .ok (.isub, 1) := by decide +kernel
theorem dX7_lowOf_122 : decode cX7_lowOf 122 = .ok (.ireturn, 1) := by decide +kernel
theorem dX7_highOf_0 : decode cX7_highOf 0 = .ok (.aload_n 0, 1) := by decide +kernel
theorem dX7_highOf_1 : decode cX7_highOf 1 = .ok (.getfield 10, 3) := by decide +kernel
theorem dX7_highOf_4 : decode cX7_highOf 4 = .ok (.getfield 348, 3) := by decide +kernel
theorem dX7_highOf_7 : decode cX7_highOf 7 = .ok (.iload_n 1, 1) := by decide +kernel
theorem dX7_highOf_8 : decode cX7_highOf 8 = .ok (.iaload, 1) := by decide +kernel
theorem dX7_highOf_9 : decode cX7_highOf 9 = .ok (.aload_n 0, 1) := by decide +kernel
theorem dX7_highOf_10 : decode cX7_highOf 10 = .ok (.getfield 54, 3) := by decide +kernel
theorem dX7_highOf_13 : decode cX7_highOf 13 = .ok (.getfield 204, 3) := by decide +kernel
theorem dX7_highOf_16 : decode cX7_highOf 16 = .ok (.aload_n 0, 1) := by decide +kernel
theorem dX7_highOf_17 : decode cX7_highOf 17 = .ok (.getfield 10, 3) := by decide +kernel
theorem dX7_highOf_20 : decode cX7_highOf 20 = .ok (.getfield 138, 3) := by decide +kernel
theorem dX7_highOf_23 : decode cX7_highOf 23 = .ok (.iload_n 1, 1) := by decide +kernel
theorem dX7_highOf_24 : decode cX7_highOf 24 = .ok (.iaload, 1) := by decide +kernel
theorem dX7_highOf_25 : decode cX7_highOf 25 = .ok (.iaload, 1) := by decide +kernel
theorem dX7_highOf_26 : decode cX7_highOf 26 = .ok (.iadd, 1) := by decide +kernel
theorem dX7_highOf_27 : decode cX7_highOf 27 = .ok (.istore_n 2, 1) := by decide +kernel
theorem dX7_highOf_28 : decode cX7_highOf 28 = .ok (.aload_n 0, 1) := by decide +kernel
theorem dX7_highOf_29 : decode cX7_highOf 29 = .ok (.getfield 10, 3) := by decide +kernel
theorem dX7_highOf_32 : decode cX7_highOf 32 = .ok (.getfield 135, 3) := by decide +kernel
theorem dX7_highOf_35 : decode cX7_highOf 35 = .ok (.iload_n 1, 1) := by decide +kernel
theorem dX7_highOf_36 : decode cX7_highOf 36 = .ok (.iaload, 1) := by decide +kernel
theorem dX7_highOf_37 : decode cX7_highOf 37 = .ok (.ifCond .eq 5, 3) := by decide +kernel
theorem dX7_highOf_40 : decode cX7_highOf 40 = .ok (.iload_n 2, 1) := by decide +kernel
theorem dX7_highOf_41 : decode cX7_highOf 41 = .ok (.ireturn, 1) := by decide +kernel
theorem dX7_highOf_42 : decode cX7_highOf 42 = .ok (.aload_n 0, 1) := by decide +kernel
theorem dX7_highOf_43 : decode cX7_highOf 43 = .ok (.getfield 54, 3) := by decide +kernel
theorem dX7_highOf_46 : decode cX7_highOf 46 = .ok (.aload_n 0, 1) := by decide +kernel
theorem dX7_highOf_47 : decode cX7_highOf 47 = .ok (.getfield 10, 3) := by decide +kernel
theorem dX7_highOf_50 : decode cX7_highOf 50 = .ok (.getfield 141, 3) := by decide +kernel
theorem dX7_highOf_53 : decode cX7_highOf 53 = .ok (.iload_n 1, 1) := by decide +kernel
theorem dX7_highOf_54 : decode cX7_highOf 54 = .ok (.iaload, 1) := by decide +kernel
theorem dX7_highOf_55 : decode cX7_highOf 55 = .ok (.aload_n 0, 1) := by decide +kernel
theorem dX7_highOf_56 : decode cX7_highOf 56 = .ok (.getfield 10, 3) := by decide +kernel
theorem dX7_highOf_59 : decode cX7_highOf 59 = .ok (.getfield 339, 3) := by decide +kernel
theorem dX7_highOf_62 : decode cX7_highOf 62 = .ok (.iload_n 1, 1) := by decide +kernel
theorem dX7_highOf_63 : decode cX7_highOf 63 = .ok (.iaload, 1) := by decide +kernel
theorem dX7_highOf_64 : decode cX7_highOf 64 = .ok (.aload_n 0, 1) := by decide +kernel
theorem dX7_highOf_65 : decode cX7_highOf 65 = .ok (.getfield 10, 3) := by decide +kernel
theorem dX7_highOf_68 : decode cX7_highOf 68 = .ok (.getfield 342, 3) := by decide +kernel
theorem dX7_highOf_71 : decode cX7_highOf 71 = .ok (.iload_n 1, 1) := by decide +kernel
theorem dX7_highOf_72 : decode cX7_highOf 72 = .ok (.iaload, 1) := by decide +kernel
theorem dX7_highOf_73 : decode cX7_highOf 73 = .ok (.invokevirtual 357, 3) := by decide +kernel
theorem dX7_highOf_76 : decode cX7_highOf 76 = .ok (.istore_n 3, 1) := by decide +kernel
theorem dX7_highOf_77 : decode cX7_highOf 77 = .ok (.aload_n 0, 1) := by decide +kernel
theorem dX7_highOf_78 : decode cX7_highOf 78 = .ok (.getfield 10, 3) := by decide +kernel
theorem dX7_highOf_81 : decode cX7_highOf 81 = .ok (.getfield 337, 3) := by decide +kernel
theorem dX7_highOf_84 : decode cX7_highOf 84 = .ok (.iload_n 1, 1) := by decide +kernel
theorem dX7_highOf_85 : decode cX7_highOf 85 = .ok (.iaload, 1) := by decide +kernel
theorem dX7_highOf_86 : decode cX7_highOf 86 = .ok (.istore 4, 2) := by decide +kernel
theorem dX7_highOf_88 : decode cX7_highOf 88 = .ok (.iload 4, 2) := by decide +kernel
theorem dX7_highOf_90 : decode cX7_highOf 90 = .ok (.iload_n 2, 1) := by decide +kernel
theorem dX7_highOf_91 : decode cX7_highOf 91 = .ok (.iadd, 1) := by decide +kernel
theorem dX7_highOf_92 : decode cX7_highOf 92 = .ok (.iload_n 3, 1) := by decide +kernel
theorem dX7_highOf_93 : decode cX7_highOf 93 = .ok (.sipush 1000, 3) := by decide +kernel
theorem dX7_highOf_96 : decode cX7_highOf 96 = .ok (.invokestatic 350, 3) := by decide +kernel
theorem dX7_highOf_99 : decode cX7_highOf 99 = .ok (.isub, 1) := by decide +kernel
theorem dX7_highOf_100 : decode cX7_highOf 100 = .ok (.aload_n 0, 1) := by decide +kernel
theorem dX7_highOf_101 : decode cX7_highOf 101 = .ok (.getfield 19, 3) := by decide +kernel
theorem dX7_highOf_104 : decode cX7_highOf 104 = .ok (.aload_n 0, 1) := by decide +kernel
theorem dX7_highOf_105 : decode cX7_highOf 105 = .ok (.getfield 10, 3) := by decide +kernel
theorem dX7_highOf_108 : decode cX7_highOf 108 = .ok (.getfield 144, 3) := by decide +kernel
theorem dX7_highOf_111 : decode cX7_highOf 111 = .ok (.iload_n 1, 1) := by decide +kernel
theorem dX7_highOf_112 : decode cX7_highOf 112 = .ok (.iaload, 1) := by decide +kernel
theorem dX7_highOf_113 : decode cX7_highOf 113 = .ok (.aload_n 0, 1) := by decide +kernel
theorem dX7_highOf_114 : decode cX7_highOf 114 = .ok (.getfield 54, 3) := by decide +kernel
theorem dX7_highOf_117 : decode cX7_highOf 117 = .ok (.invokevirtual 360, 3) := by decide +kernel
theorem dX7_highOf_120 : decode cX7_highOf 120 = .ok (.isub, 1) := by decide +kernel
theorem dX7_highOf_121 : decode cX7_highOf 121 = .ok (.ireturn, 1) := by decide +kernel
theorem dX7_load_0 : decode cX7_load 0 = .ok (.iload_n 1, 1) := by decide +kernel
theorem dX7_load_1 : decode cX7_load 1 = .ok (.iconst (-1), 1) := by decide +kernel
theorem dX7_load_2 : decode cX7_load 2 = .ok (.if_icmp .ne 13, 3) := by decide +kernel
theorem dX7_load_5 : decode cX7_load 5 = .ok (.aload_n 0, 1) := by decide +kernel
theorem dX7_load_6 : decode cX7_load 6 = .ok (.getfield 10, 3) := by decide +kernel
theorem dX7_load_9 : decode cX7_load 9 = .ok (.getfield 157, 3) := by decide +kernel
theorem dX7_load_12 : decode cX7_load 12 = .ok (.goto 4, 3) := by decide +kernel
theorem dX7_load_15 : decode cX7_load 15 = .ok (.iload_n 1, 1) := by decide +kernel
theorem dX7_load_16 : decode cX7_load 16 = .ok (.istore_n 2, 1) := by decide +kernel
theorem dX7_load_17 : decode cX7_load 17 = .ok (.aload_n 0, 1) := by decide +kernel
theorem dX7_load_18 : decode cX7_load 18 = .ok (.getfield 33, 3) := by decide +kernel
theorem dX7_load_21 : decode cX7_load 21 = .ok (.invokevirtual 363, 3) := by decide +kernel
theorem dX7_load_24 : decode cX7_load 24 = .ok (.iconst 0, 1) := by decide +kernel
theorem dX7_load_25 : decode cX7_load 25 = .ok (.istore_n 3, 1) := by decide +kernel
theorem dX7_load_26 : decode cX7_load 26 = .ok (.iload_n 3, 1) := by decide +kernel
theorem dX7_load_27 : decode cX7_load 27 = .ok (.iload_n 2, 1) := by decide +kernel
theorem dX7_load_28 : decode cX7_load 28 = .ok (.if_icmp .ge 120, 3) := by decide +kernel
theorem dX7_load_31 : decode cX7_load 31 = .ok (.aload_n 0, 1) := by decide +kernel
theorem dX7_load_32 : decode cX7_load 32 = .ok (.getfield 10, 3) := by decide +kernel
theorem dX7_load_35 : decode cX7_load 35 = .ok (.iload_n 3, 1) := by decide +kernel
theorem dX7_load_36 : decode cX7_load 36 = .ok (.invokevirtual 147, 3) := by decide +kernel
theorem dX7_load_39 : decode cX7_load 39 = .ok (.ifCond .eq 103, 3) := by decide +kernel
theorem dX7_load_42 : decode cX7_load 42 = .ok (.aload_n 0, 1) := by decide +kernel
theorem dX7_load_43 : decode cX7_load 43 = .ok (.getfield 10, 3) := by decide +kernel
theorem dX7_load_46 : decode cX7_load 46 = .ok (.getfield 135, 3) := by decide +kernel
theorem dX7_load_49 : decode cX7_load 49 = .ok (.iload_n 3, 1) := by decide +kernel
theorem dX7_load_50 : decode cX7_load 50 = .ok (.iaload, 1) := by decide +kernel
theorem dX7_load_51 : decode cX7_load 51 = .ok (.iconst 1, 1) := by decide +kernel
theorem dX7_load_52 : decode cX7_load 52 = .ok (.if_icmp .ne 8, 3) := by decide +kernel
theorem dX7_load_55 : decode cX7_load 55 = .ok (.bipush 16, 2) := by decide +kernel
theorem dX7_load_57 : decode cX7_load 57 = .ok (.goto 15, 3) := by decide +kernel
theorem dX7_load_60 : decode cX7_load 60 = .ok (.bipush 10, 2) := by decide +kernel
theorem dX7_load_62 : decode cX7_load 62 = .ok (.aload_n 0, 1) := by decide +kernel
theorem dX7_load_63 : decode cX7_load 63 = .ok (.getfield 10, 3) := by decide +kernel
theorem dX7_load_66 : decode cX7_load 66 = .ok (.getfield 141, 3) := by decide +kernel
theorem dX7_load_69 : decode cX7_load 69 = .ok (.iload_n 3, 1) := by decide +kernel
theorem dX7_load_70 : decode cX7_load 70 = .ok (.iaload, 1) := by decide +kernel
theorem dX7_load_71 : decode cX7_load 71 = .ok (.iadd, 1) := by decide +kernel
theorem dX7_load_72 : decode cX7_load 72 = .ok (.istore 4, 2) := by decide +kernel
theorem dX7_load_74 : decode cX7_load 74 = .ok (.aload_n 0, 1) := by decide +kernel
theorem dX7_load_75 : decode cX7_load 75 = .ok (.getfield 10, 3) := by decide +kernel
theorem dX7_load_78 : decode cX7_load 78 = .ok (.getfield 135, 3) := by decide +kernel
theorem dX7_load_81 : decode cX7_load 81 = .ok (.iload_n 3, 1) := by decide +kernel
theorem dX7_load_82 : decode cX7_load 82 = .ok (.iaload, 1) := by decide +kernel
theorem dX7_load_83 : decode cX7_load 83 = .ok (.iconst 2, 1) := by decide +kernel
theorem dX7_load_84 : decode cX7_load 84 = .ok (.if_icmp .ne 8, 3) := by decide +kernel
theorem dX7_load_87 : decode cX7_load 87 = .ok (.bipush 16, 2) := by decide +kernel
theorem dX7_load_89 : decode cX7_load 89 = .ok (.goto 12, 3) := by decide +kernel
theorem dX7_load_92 : decode cX7_load 92 = .ok (.aload_n 0, 1) := by decide +kernel
theorem dX7_load_93 : decode cX7_load 93 = .ok (.getfield 10, 3) := by decide +kernel
theorem dX7_load_96 : decode cX7_load 96 = .ok (.getfield 144, 3) := by decide +kernel
theorem dX7_load_99 : decode cX7_load 99 = .ok (.iload_n 3, 1) := by decide +kernel
theorem dX7_load_100 : decode cX7_load 100 = .ok (.iaload, 1) := by decide +kernel
theorem dX7_load_101 : decode cX7_load 101 = .ok (.istore 5, 2) := by decide +kernel
theorem dX7_load_103 : decode cX7_load 103 = .ok (.aload_n 0, 1) := by decide +kernel
theorem dX7_load_104 : decode cX7_load 104 = .ok (.getfield 33, 3) := by decide +kernel
theorem dX7_load_107 : decode cX7_load 107 = .ok (.iload_n 3, 1) := by decide +kernel
theorem dX7_load_108 : decode cX7_load 108 = .ok (.aload_n 0, 1) := by decide +kernel
theorem dX7_load_109 : decode cX7_load 109 = .ok (.getfield 10, 3) := by decide +kernel
theorem dX7_load_112 : decode cX7_load 112 = .ok (.getfield 138, 3) := by decide +kernel
theorem dX7_load_115 : decode cX7_load 115 = .ok (.iload_n 3, 1) := by decide +kernel
theorem dX7_load_116 : decode cX7_load 116 = .ok (.iaload, 1) := by decide +kernel
theorem dX7_load_117 : decode cX7_load 117 = .ok (.iload 4, 2) := by decide +kernel
theorem dX7_load_119 : decode cX7_load 119 = .ok (.iload 5, 2) := by decide +kernel
theorem dX7_load_121 : decode cX7_load 121 = .ok (.invokevirtual 366, 3) := by decide +kernel
theorem dX7_load_124 : decode cX7_load 124 = .ok (.aload_n 0, 1) := by decide +kernel
theorem dX7_load_125 : decode cX7_load 125 = .ok (.getfield 33, 3) := by decide +kernel
theorem dX7_load_128 : decode cX7_load 128 = .ok (.iload_n 3, 1) := by decide +kernel
theorem dX7_load_129 : decode cX7_load 129 = .ok (.aload_n 0, 1) := by decide +kernel
theorem dX7_load_130 : decode cX7_load 130 = .ok (.iload_n 3, 1) := by decide +kernel
theorem dX7_load_131 : decode cX7_load 131 = .ok (.invokevirtual 150, 3) := by decide +kernel
theorem dX7_load_134 : decode cX7_load 134 = .ok (.aload_n 0, 1) := by decide +kernel
theorem dX7_load_135 : decode cX7_load 135 = .ok (.iload_n 3, 1) := by decide +kernel
theorem dX7_load_136 : decode cX7_load 136 = .ok (.invokevirtual 154, 3) := by decide +kernel
theorem dX7_load_139 : decode cX7_load 139 = .ok (.invokevirtual 370, 3) := by decide +kernel
theorem dX7_load_142 : decode cX7_load 142 = .ok (.iinc 3 1, 3) := by decide +kernel
theorem dX7_load_145 : decode cX7_load 145 = .ok (.goto (-119), 3) := by decide +kernel
theorem dX7_load_148 : decode cX7_load 148 = .ok (.aload_n 0, 1) := by decide +kernel
theorem dX7_load_149 : decode cX7_load 149 = .ok (.getfield 33, 3) := by decide +kernel
theorem dX7_load_152 : decode cX7_load 152 = .ok (.iconst (-1), 1) := by decide +kernel
theorem dX7_load_153 : decode cX7_load 153 = .ok (.iconst (-1), 1) := by decide +kernel
theorem dX7_load_154 : decode cX7_load 154 = .ok (.iconst (-1), 1) := by decide +kernel
theorem dX7_load_155 : decode cX7_load 155 = .ok (.invokevirtual 270, 3) := by decide +kernel
theorem dX7_load_158 : decode cX7_load 158 = .ok (.return_, 1) := by decide +kernel
theorem dX7_quarrelsNow_0 : decode cX7_quarrelsNow 0 = .ok (.aload_n 0, 1) := by decide +kernel
theorem dX7_quarrelsNow_1 : decode cX7_quarrelsNow 1 = .ok (.iconst (-1), 1) := by decide +kernel
theorem dX7_quarrelsNow_2 : decode cX7_quarrelsNow 2 = .ok (.invokevirtual 216, 3) := by decide +kernel
theorem dX7_quarrelsNow_5 : decode cX7_quarrelsNow 5 = .ok (.aload_n 0, 1) := by decide +kernel
theorem dX7_quarrelsNow_6 : decode cX7_quarrelsNow 6 = .ok (.getfield 33, 3) := by decide +kernel
theorem dX7_quarrelsNow_9 : decode cX7_quarrelsNow 9 = .ok (.invokevirtual 219, 3) := by decide +kernel
theorem dX7_quarrelsNow_12 : decode cX7_quarrelsNow 12 = .ok (.ireturn, 1) := by decide +kernel
theorem dX7_howManyLoose_0 : decode cX7_howManyLoose 0 = .ok (.aload_n 0, 1) := by decide +kernel
theorem dX7_howManyLoose_1 : decode cX7_howManyLoose 1 = .ok (.invokevirtual 235, 3) := by decide +kernel
theorem dX7_howManyLoose_4 : decode cX7_howManyLoose 4 = .ok (.ifCond .eq 5, 3) := by decide +kernel
theorem dX7_howManyLoose_7 : decode cX7_howManyLoose 7 = .ok (.iconst (-1), 1) := by decide +kernel
theorem dX7_howManyLoose_8 : decode cX7_howManyLoose 8 = .ok (.ireturn, 1) := by decide +kernel
theorem dX7_howManyLoose_9 : decode cX7_howManyLoose 9 = .ok (.aload_n 0, 1) := by decide +kernel
theorem dX7_howManyLoose_10 : decode cX7_howManyLoose 10 = .ok (.getfield 33, 3) := by decide +kernel
theorem dX7_howManyLoose_13 : decode cX7_howManyLoose 13 = .ok (.bipush 16, 2) := by decide +kernel
theorem dX7_howManyLoose_15 : decode cX7_howManyLoose 15 = .ok (.iconst 1, 1) := by decide +kernel
theorem dX7_howManyLoose_16 : decode cX7_howManyLoose 16 = .ok (.invokevirtual 223, 3) := by decide +kernel
theorem dX7_howManyLoose_19 : decode cX7_howManyLoose 19 = .ok (.iconst 0, 1) := by decide +kernel
theorem dX7_howManyLoose_20 : decode cX7_howManyLoose 20 = .ok (.istore_n 1, 1) := by decide +kernel
theorem dX7_howManyLoose_21 : decode cX7_howManyLoose 21 = .ok (.iconst 0, 1) := by decide +kernel
theorem dX7_howManyLoose_22 : decode cX7_howManyLoose 22 = .ok (.istore_n 2, 1) := by decide +kernel
theorem dX7_howManyLoose_23 : decode cX7_howManyLoose 23 = .ok (.iload_n 2, 1) := by decide +kernel
theorem dX7_howManyLoose_24 : decode cX7_howManyLoose 24 = .ok (.bipush 10, 2) := by decide +kernel
theorem dX7_howManyLoose_26 : decode cX7_howManyLoose 26 = .ok (.if_icmp .ge 31, 3) := by decide +kernel
theorem dX7_howManyLoose_29 : decode cX7_howManyLoose 29 = .ok (.iload_n 1, 1) := by decide +kernel
theorem dX7_howManyLoose_30 : decode cX7_howManyLoose 30 = .ok (.aload_n 0, 1) := by decide +kernel
theorem dX7_howManyLoose_31 : decode cX7_howManyLoose 31 = .ok (.getfield 33, 3) := by decide +kernel
theorem dX7_howManyLoose_34 : decode cX7_howManyLoose 34 = .ok (.iload_n 2, 1) := by decide +kernel
theorem dX7_howManyLoose_35 : decode cX7_howManyLoose 35 = .ok (.invokevirtual 227, 3) := by decide +kernel
theorem dX7_howManyLoose_38 : decode cX7_howManyLoose 38 = .ok (.ifCond .ne 7, 3) := by decide +kernel
theorem dX7_howManyLoose_41 : decode cX7_howManyLoose 41 = .ok (.iconst 1, 1) := by decide +kernel
theorem dX7_howManyLoose_42 : decode cX7_howManyLoose 42 = .ok (.goto 4, 3) := by decide +kernel
theorem dX7_howManyLoose_45 : decode cX7_howManyLoose 45 = .ok (.iconst 0, 1) := by decide +kernel
theorem dX7_howManyLoose_46 : decode cX7_howManyLoose 46 = .ok (.invokestatic 123, 3) := by decide +kernel
theorem dX7_howManyLoose_49 : decode cX7_howManyLoose 49 = .ok (.iadd, 1) := by decide +kernel
theorem dX7_howManyLoose_50 : decode cX7_howManyLoose 50 = .ok (.istore_n 1, 1) := by decide +kernel
theorem dX7_howManyLoose_51 : decode cX7_howManyLoose 51 = .ok (.iinc 2 1, 3) := by decide +kernel
theorem dX7_howManyLoose_54 : decode cX7_howManyLoose 54 = .ok (.goto (-31), 3) := by decide +kernel
theorem dX7_howManyLoose_57 : decode cX7_howManyLoose 57 = .ok (.iload_n 1, 1) := by decide +kernel
theorem dX7_howManyLoose_58 : decode cX7_howManyLoose 58 = .ok (.ireturn, 1) := by decide +kernel
theorem dX7_leadOf_0 : decode cX7_leadOf 0 = .ok (.aload_n 0, 1) := by decide +kernel
theorem dX7_leadOf_1 : decode cX7_leadOf 1 = .ok (.getfield 33, 3) := by decide +kernel
theorem dX7_leadOf_4 : decode cX7_leadOf 4 = .ok (.iload_n 1, 1) := by decide +kernel
theorem dX7_leadOf_5 : decode cX7_leadOf 5 = .ok (.iload_n 2, 1) := by decide +kernel
theorem dX7_leadOf_6 : decode cX7_leadOf 6 = .ok (.invokevirtual 231, 3) := by decide +kernel
theorem dX7_leadOf_9 : decode cX7_leadOf 9 = .ok (.istore 4, 2) := by decide +kernel
theorem dX7_leadOf_11 : decode cX7_leadOf 11 = .ok (.aload_n 0, 1) := by decide +kernel
theorem dX7_leadOf_12 : decode cX7_leadOf 12 = .ok (.getfield 33, 3) := by decide +kernel
theorem dX7_leadOf_15 : decode cX7_leadOf 15 = .ok (.iload_n 1, 1) := by decide +kernel
theorem dX7_leadOf_16 : decode cX7_leadOf 16 = .ok (.invokevirtual 373, 3) := by decide +kernel
theorem dX7_leadOf_19 : decode cX7_leadOf 19 = .ok (.iconst 0, 1) := by decide +kernel
theorem dX7_leadOf_20 : decode cX7_leadOf 20 = .ok (.istore 5, 2) := by decide +kernel
theorem dX7_leadOf_22 : decode cX7_leadOf 22 = .ok (.iconst 0, 1) := by decide +kernel
theorem dX7_leadOf_23 : decode cX7_leadOf 23 = .ok (.istore 6, 2) := by decide +kernel
theorem dX7_leadOf_25 : decode cX7_leadOf 25 = .ok (.iload 6, 2) := by decide +kernel
theorem dX7_leadOf_27 : decode cX7_leadOf 27 = .ok (.aload_n 0, 1) := by decide +kernel
theorem dX7_leadOf_28 : decode cX7_leadOf 28 = .ok (.getfield 10, 3) := by decide +kernel
theorem dX7_leadOf_31 : decode cX7_leadOf 31 = .ok (.getfield 157, 3) := by decide +kernel
theorem dX7_leadOf_34 : decode cX7_leadOf 34 = .ok (.if_icmp .ge 80, 3) := by decide +kernel
theorem dX7_leadOf_37 : decode cX7_leadOf 37 = .ok (.aload_n 0, 1) := by decide +kernel
theorem dX7_leadOf_38 : decode cX7_leadOf 38 = .ok (.getfield 33, 3) := by decide +kernel
theorem dX7_leadOf_41 : decode cX7_leadOf 41 = .ok (.getfield 376, 3) := by decide +kernel
theorem dX7_leadOf_44 : decode cX7_leadOf 44 = .ok (.iload 6, 2) := by decide +kernel
theorem dX7_leadOf_46 : decode cX7_leadOf 46 = .ok (.baload, 1) := by decide +kernel
theorem dX7_leadOf_47 : decode cX7_leadOf 47 = .ok (.ifCond .eq 61, 3) := by decide +kernel
theorem dX7_leadOf_50 : decode cX7_leadOf 50 = .ok (.aload_n 0, 1) := by decide +kernel
theorem dX7_leadOf_51 : decode cX7_leadOf 51 = .ok (.getfield 33, 3) := by decide +kernel
theorem dX7_leadOf_54 : decode cX7_leadOf 54 = .ok (.iconst (-1), 1) := by decide +kernel
theorem dX7_leadOf_55 : decode cX7_leadOf 55 = .ok (.iload 6, 2) := by decide +kernel
theorem dX7_leadOf_57 : decode cX7_leadOf 57 = .ok (.iconst (-1), 1) := by decide +kernel
theorem dX7_leadOf_58 : decode cX7_leadOf 58 = .ok (.invokevirtual 270, 3) := by decide +kernel
theorem dX7_leadOf_61 : decode cX7_leadOf 61 = .ok (.aload_n 0, 1) := by decide +kernel
theorem dX7_leadOf_62 : decode cX7_leadOf 62 = .ok (.getfield 33, 3) := by decide +kernel
theorem dX7_leadOf_65 : decode cX7_leadOf 65 = .ok (.bipush 16, 2) := by decide +kernel
theorem dX7_leadOf_67 : decode cX7_leadOf 67 = .ok (.iload_n 2, 1) := by decide +kernel
theorem dX7_leadOf_68 : decode cX7_leadOf 68 = .ok (.invokevirtual 223, 3) := by decide +kernel
theorem dX7_leadOf_71 : decode cX7_leadOf 71 = .ok (.aload_n 0, 1) := by decide +kernel
theorem dX7_leadOf_72 : decode cX7_leadOf 72 = .ok (.getfield 33, 3) := by decide +kernel
theorem dX7_leadOf_75 : decode cX7_leadOf 75 = .ok (.iload_n 1, 1) := by decide +kernel
theorem dX7_leadOf_76 : decode cX7_leadOf 76 = .ok (.invokevirtual 227, 3) := by decide +kernel
theorem dX7_leadOf_79 : decode cX7_leadOf 79 = .ok (.ifCond .eq 17, 3) := by decide +kernel
theorem dX7_leadOf_82 : decode cX7_leadOf 82 = .ok (.aload_n 0, 1) := by decide +kernel
theorem dX7_leadOf_83 : decode cX7_leadOf 83 = .ok (.getfield 33, 3) := by decide +kernel
theorem dX7_leadOf_86 : decode cX7_leadOf 86 = .ok (.iload_n 1, 1) := by decide +kernel
theorem dX7_leadOf_87 : decode cX7_leadOf 87 = .ok (.iload_n 2, 1) := by decide +kernel
theorem dX7_leadOf_88 : decode cX7_leadOf 88 = .ok (.invokevirtual 231, 3) := by decide +kernel
theorem dX7_leadOf_91 : decode cX7_leadOf 91 = .ok (.iload 4, 2) := by decide +kernel
theorem dX7_leadOf_93 : decode cX7_leadOf 93 = .ok (.if_icmp .eq 15, 3) := by decide +kernel
theorem dX7_leadOf_96 : decode cX7_leadOf 96 = .ok (.iload 5, 2) := by decide +kernel
theorem dX7_leadOf_98 : decode cX7_leadOf 98 = .ok (.iload_n 3, 1) := by decide +kernel
theorem dX7_leadOf_99 : decode cX7_leadOf 99 = .ok (.if_icmp .ne 6, 3) := by decide +kernel
theorem dX7_leadOf_102 : decode cX7_leadOf 102 = .ok (.iload 6, 2) := by decide +kernel
theorem dX7_leadOf_104 : decode cX7_leadOf 104 = .ok (.ireturn, 1) := by decide +kernel
theorem dX7_leadOf_105 : decode cX7_leadOf 105 = .ok (.iinc 5 1, 3) := by decide +kernel
theorem dX7_leadOf_108 : decode cX7_leadOf 108 = .ok (.iinc 6 1, 3) := by decide +kernel
theorem dX7_leadOf_111 : decode cX7_leadOf 111 = .ok (.goto (-86), 3) := by decide +kernel
theorem dX7_leadOf_114 : decode cX7_leadOf 114 = .ok (.iload_n 3, 1) := by decide +kernel
theorem dX7_leadOf_115 : decode cX7_leadOf 115 = .ok (.iconst (-1), 1) := by decide +kernel
theorem dX7_leadOf_116 : decode cX7_leadOf 116 = .ok (.if_icmp .ne 8, 3) := by decide +kernel
theorem dX7_leadOf_119 : decode cX7_leadOf 119 = .ok (.iload 5, 2) := by decide +kernel
theorem dX7_leadOf_121 : decode cX7_leadOf 121 = .ok (.goto 4, 3) := by decide +kernel
theorem dX7_leadOf_124 : decode cX7_leadOf 124 = .ok (.iconst (-1), 1) := by decide +kernel
theorem dX7_leadOf_125 : decode cX7_leadOf 125 = .ok (.ireturn, 1) := by decide +kernel
theorem dX7_standOfClaim_0 : decode cX7_standOfClaim 0 = .ok (.aload_n 0, 1) := by decide +kernel
theorem dX7_standOfClaim_1 : decode cX7_standOfClaim 1 = .ok (.invokevirtual 235, 3) := by decide +kernel
theorem dX7_standOfClaim_4 : decode cX7_standOfClaim 4 = .ok (.ifCond .eq 6, 3) := by decide +kernel
theorem dX7_standOfClaim_7 : decode cX7_standOfClaim 7 = .ok (.ldc 222, 2) := by decide +kernel
theorem dX7_standOfClaim_9 : decode cX7_standOfClaim 9 = .ok (.ireturn, 1) := by decide +kernel
theorem dX7_standOfClaim_10 : decode cX7_standOfClaim 10 = .ok (.aload_n 0, 1) := by decide +kernel
theorem dX7_standOfClaim_11 : decode cX7_standOfClaim 11 = .ok (.getfield 33, 3) := by decide +kernel
theorem dX7_standOfClaim_14 : decode cX7_standOfClaim 14 = .ok (.invokevirtual 258, 3) := by decide +kernel
theorem dX7_standOfClaim_17 : decode cX7_standOfClaim 17 = .ok (.aload_n 0, 1) := by decide +kernel
theorem dX7_standOfClaim_18 : decode cX7_standOfClaim 18 = .ok (.getfield 54, 3) := by decide +kernel
theorem dX7_standOfClaim_21 : decode cX7_standOfClaim 21 = .ok (.getfield 326, 3) := by decide +kernel
theorem dX7_standOfClaim_24 : decode cX7_standOfClaim 24 = .ok (.iload_n 1, 1) := by decide +kernel
theorem dX7_standOfClaim_25 : decode cX7_standOfClaim 25 = .ok (.iaload, 1) := by decide +kernel
theorem dX7_standOfClaim_26 : decode cX7_standOfClaim 26 = .ok (.istore_n 2, 1) := by decide +kernel
theorem dX7_standOfClaim_27 : decode cX7_standOfClaim 27 = .ok (.aload_n 0, 1) := by decide +kernel
theorem dX7_standOfClaim_28 : decode cX7_standOfClaim 28 = .ok (.getfield 54, 3) := by decide +kernel
theorem dX7_standOfClaim_31 : decode cX7_standOfClaim 31 = .ok (.getfield 329, 3) := by decide +kernel
theorem dX7_standOfClaim_34 : decode cX7_standOfClaim 34 = .ok (.iload_n 1, 1) := by decide +kernel
theorem dX7_standOfClaim_35 : decode cX7_standOfClaim 35 = .ok (.iaload, 1) := by decide +kernel
theorem dX7_standOfClaim_36 : decode cX7_standOfClaim 36 = .ok (.istore_n 3, 1) := by decide +kernel
theorem dX7_standOfClaim_37 : decode cX7_standOfClaim 37 = .ok (.aload_n 0, 1) := by decide +kernel
theorem dX7_standOfClaim_38 : decode cX7_standOfClaim 38 = .ok (.getfield 33, 3) := by decide +kernel
theorem dX7_standOfClaim_41 : decode cX7_standOfClaim 41 = .ok (.getfield 261, 3) := by decide +kernel
theorem dX7_standOfClaim_44 : decode cX7_standOfClaim 44 = .ok (.iload_n 2, 1) := by decide +kernel
theorem dX7_standOfClaim_45 : decode cX7_standOfClaim 45 = .ok (.baload, 1) := by decide +kernel
theorem dX7_standOfClaim_46 : decode cX7_standOfClaim 46 = .ok (.ifCond .ne 5, 3) := by decide +kernel
theorem dX7_standOfClaim_49 : decode cX7_standOfClaim 49 = .ok (.iconst 0, 1) := by decide +kernel
theorem dX7_standOfClaim_50 : decode cX7_standOfClaim 50 = .ok (.ireturn, 1) := by decide +kernel
theorem dX7_standOfClaim_51 : decode cX7_standOfClaim 51 = .ok (.aload_n 0, 1) := by decide +kernel
theorem dX7_standOfClaim_52 : decode cX7_standOfClaim 52 = .ok (.getfield 33, 3) := by decide +kernel
theorem dX7_standOfClaim_55 : decode cX7_standOfClaim 55 = .ok (.getfield 267, 3) := by decide +kernel
theorem dX7_standOfClaim_58 : decode cX7_standOfClaim 58 = .ok (.iload_n 2, 1) := by decide +kernel
theorem dX7_standOfClaim_59 : decode cX7_standOfClaim 59 = .ok (.iaload, 1) := by decide +kernel
theorem dX7_standOfClaim_60 : decode cX7_standOfClaim 60 = .ok (.iload_n 3, 1) := by decide +kernel
theorem dX7_standOfClaim_61 : decode cX7_standOfClaim 61 = .ok (.if_icmp .le 7, 3) := by decide +kernel
theorem dX7_standOfClaim_64 : decode cX7_standOfClaim 64 = .ok (.iconst 1, 1) := by decide +kernel
theorem dX7_standOfClaim_65 : decode cX7_standOfClaim 65 = .ok (.goto 4, 3) := by decide +kernel
theorem dX7_standOfClaim_68 : decode cX7_standOfClaim 68 = .ok (.iconst 0, 1) := by decide +kernel
theorem dX7_standOfClaim_69 : decode cX7_standOfClaim 69 = .ok (.istore 4, 2) := by decide +kernel
theorem dX7_standOfClaim_71 : decode cX7_standOfClaim 71 = .ok (.aload_n 0, 1) := by decide +kernel
theorem dX7_standOfClaim_72 : decode cX7_standOfClaim 72 = .ok (.getfield 33, 3) := by decide +kernel
theorem dX7_standOfClaim_75 : decode cX7_standOfClaim 75 = .ok (.getfield 264, 3) := by decide +kernel
theorem dX7_standOfClaim_78 : decode cX7_standOfClaim 78 = .ok (.iload_n 2, 1) := by decide +kernel
theorem dX7_standOfClaim_79 : decode cX7_standOfClaim 79 = .ok (.iaload, 1) := by decide +kernel
theorem dX7_standOfClaim_80 : decode cX7_standOfClaim 80 = .ok (.iload_n 3, 1) := by decide +kernel
theorem dX7_standOfClaim_81 : decode cX7_standOfClaim 81 = .ok (.if_icmp .ge 7, 3) := by decide +kernel
theorem dX7_standOfClaim_84 : decode cX7_standOfClaim 84 = .ok (.iconst 1, 1) := by decide +kernel
theorem dX7_standOfClaim_85 : decode cX7_standOfClaim 85 = .ok (.goto 4, 3) := by decide +kernel
theorem dX7_standOfClaim_88 : decode cX7_standOfClaim 88 = .ok (.iconst 0, 1) := by decide +kernel
theorem dX7_standOfClaim_89 : decode cX7_standOfClaim 89 = .ok (.istore 5, 2) := by decide +kernel
theorem dX7_standOfClaim_91 : decode cX7_standOfClaim 91 = .ok (.aload_n 0, 1) := by decide +kernel
theorem dX7_standOfClaim_92 : decode cX7_standOfClaim 92 = .ok (.getfield 33, 3) := by decide +kernel
theorem dX7_standOfClaim_95 : decode cX7_standOfClaim 95 = .ok (.getfield 264, 3) := by decide +kernel
theorem dX7_standOfClaim_98 : decode cX7_standOfClaim 98 = .ok (.iload_n 2, 1) := by decide +kernel
theorem dX7_standOfClaim_99 : decode cX7_standOfClaim 99 = .ok (.iaload, 1) := by decide +kernel
theorem dX7_standOfClaim_100 : decode cX7_standOfClaim 100 = .ok (.iload_n 3, 1) := by decide +kernel
theorem dX7_standOfClaim_101 : decode cX7_standOfClaim 101 = .ok (.if_icmp .gt 7, 3) := by decide +kernel
theorem dX7_standOfClaim_104 : decode cX7_standOfClaim 104 = .ok (.iconst 1, 1) := by decide +kernel
theorem dX7_standOfClaim_105 : decode cX7_standOfClaim 105 = .ok (.goto 4, 3) := by decide +kernel
theorem dX7_standOfClaim_108 : decode cX7_standOfClaim 108 = .ok (.iconst 0, 1) := by decide +kernel
theorem dX7_standOfClaim_109 : decode cX7_standOfClaim 109 = .ok (.istore 6, 2) := by decide +kernel
theorem dX7_standOfClaim_111 : decode cX7_standOfClaim 111 = .ok (.aload_n 0, 1) := by decide +kernel
theorem dX7_standOfClaim_112 : decode cX7_standOfClaim 112 = .ok (.getfield 33, 3) := by decide +kernel
theorem dX7_standOfClaim_115 : decode cX7_standOfClaim 115 = .ok (.getfield 267, 3) := by decide +kernel
theorem dX7_standOfClaim_118 : decode cX7_standOfClaim 118 = .ok (.iload_n 2, 1) := by decide +kernel
theorem dX7_standOfClaim_119 : decode cX7_standOfClaim 119 = .ok (.iaload, 1) := by decide +kernel
theorem dX7_standOfClaim_120 : decode cX7_standOfClaim 120 = .ok (.iload_n 3, 1) := by decide +kernel
theorem dX7_standOfClaim_121 : decode cX7_standOfClaim 121 = .ok (.if_icmp .lt 7, 3) := by decide +kernel
theorem dX7_standOfClaim_124 : decode cX7_standOfClaim 124 = .ok (.iconst 1, 1) := by decide +kernel
theorem dX7_standOfClaim_125 : decode cX7_standOfClaim 125 = .ok (.goto 4, 3) := by decide +kernel
theorem dX7_standOfClaim_128 : decode cX7_standOfClaim 128 = .ok (.iconst 0, 1) := by decide +kernel
theorem dX7_standOfClaim_129 : decode cX7_standOfClaim 129 = .ok (.istore 7, 2) := by decide +kernel
theorem dX7_standOfClaim_131 : decode cX7_standOfClaim 131 = .ok (.aload_n 0, 1) := by decide +kernel
theorem dX7_standOfClaim_132 : decode cX7_standOfClaim 132 = .ok (.getfield 54, 3) := by decide +kernel
theorem dX7_standOfClaim_135 : decode cX7_standOfClaim 135 = .ok (.getfield 332, 3) := by decide +kernel
theorem dX7_standOfClaim_138 : decode cX7_standOfClaim 138 = .ok (.iload_n 1, 1) := by decide +kernel
theorem dX7_standOfClaim_139 : decode cX7_standOfClaim 139 = .ok (.baload, 1) := by decide +kernel
theorem dX7_standOfClaim_140 : decode cX7_standOfClaim 140 = .ok (.ifCond .eq 11, 3) := by decide +kernel
theorem dX7_standOfClaim_143 : decode cX7_standOfClaim 143 = .ok (.iload 4, 2) := by decide +kernel
theorem dX7_standOfClaim_145 : decode cX7_standOfClaim 145 = .ok (.ifCond .eq 13, 3) := by decide +kernel
theorem dX7_standOfClaim_148 : decode cX7_standOfClaim 148 = .ok (.goto 8, 3) := by decide +kernel
theorem dX7_standOfClaim_151 : decode cX7_standOfClaim 151 = .ok (.iload 5, 2) := by decide +kernel
theorem dX7_standOfClaim_153 : decode cX7_standOfClaim 153 = .ok (.ifCond .eq 5, 3) := by decide +kernel
theorem dX7_standOfClaim_156 : decode cX7_standOfClaim 156 = .ok (.iconst 1, 1) := by decide +kernel
theorem dX7_standOfClaim_157 : decode cX7_standOfClaim 157 = .ok (.ireturn, 1) := by decide +kernel
theorem dX7_standOfClaim_158 : decode cX7_standOfClaim 158 = .ok (.aload_n 0, 1) := by decide +kernel
theorem dX7_standOfClaim_159 : decode cX7_standOfClaim 159 = .ok (.getfield 54, 3) := by decide +kernel
theorem dX7_standOfClaim_162 : decode cX7_standOfClaim 162 = .ok (.getfield 332, 3) := by decide +kernel
theorem dX7_standOfClaim_165 : decode cX7_standOfClaim 165 = .ok (.iload_n 1, 1) := by decide +kernel
theorem dX7_standOfClaim_166 : decode cX7_standOfClaim 166 = .ok (.baload, 1) := by decide +kernel
theorem dX7_standOfClaim_167 : decode cX7_standOfClaim 167 = .ok (.ifCond .eq 11, 3) := by decide +kernel
theorem dX7_standOfClaim_170 : decode cX7_standOfClaim 170 = .ok (.iload 6, 2) := by decide +kernel
theorem dX7_standOfClaim_172 : decode cX7_standOfClaim 172 = .ok (.ifCond .eq 15, 3) := by decide +kernel
theorem dX7_standOfClaim_175 : decode cX7_standOfClaim 175 = .ok (.goto 8, 3) := by decide +kernel
theorem dX7_standOfClaim_178 : decode cX7_standOfClaim 178 = .ok (.iload 7, 2) := by decide +kernel
theorem dX7_standOfClaim_180 : decode cX7_standOfClaim 180 = .ok (.ifCond .eq 7, 3) := by decide +kernel
theorem dX7_standOfClaim_183 : decode cX7_standOfClaim 183 = .ok (.iconst 2, 1) := by decide +kernel
theorem dX7_standOfClaim_184 : decode cX7_standOfClaim 184 = .ok (.goto 4, 3) := by decide +kernel
theorem dX7_standOfClaim_187 : decode cX7_standOfClaim 187 = .ok (.iconst 0, 1) := by decide +kernel
theorem dX7_standOfClaim_188 : decode cX7_standOfClaim 188 = .ok (.ireturn, 1) := by decide +kernel

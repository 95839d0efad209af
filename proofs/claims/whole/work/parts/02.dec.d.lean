theorem dX8_layWays_51 : decode cX8_layWays 51 = .ok (.iload_n 2, 1) := by decide +kernel
theorem dX8_layWays_52 : decode cX8_layWays 52 = .ok (.aload_n 0, 1) := by decide +kernel
theorem dX8_layWays_53 : decode cX8_layWays 53 = .ok (.getfield 136, 3) := by decide +kernel
theorem dX8_layWays_56 : decode cX8_layWays 56 = .ok (.if_icmp .ge 99, 3) := by decide +kernel
theorem dX8_layWays_59 : decode cX8_layWays 59 = .ok (.aload_n 0, 1) := by decide +kernel
theorem dX8_layWays_60 : decode cX8_layWays 60 = .ok (.iload_n 2, 1) := by decide +kernel
theorem dX8_layWays_61 : decode cX8_layWays 61 = .ok (.iload_n 1, 1) := by decide +kernel
theorem dX8_layWays_62 : decode cX8_layWays 62 = .ok (.invokevirtual 309, 3) := by decide +kernel
theorem dX8_layWays_65 : decode cX8_layWays 65 = .ok (.ifCond .eq 84, 3) := by decide +kernel
theorem dX8_layWays_68 : decode cX8_layWays 68 = .ok (.aload_n 0, 1) := by decide +kernel
theorem dX8_layWays_69 : decode cX8_layWays 69 = .ok (.iload_n 2, 1) := by decide +kernel
theorem dX8_layWays_70 : decode cX8_layWays 70 = .ok (.invokevirtual 312, 3) := by decide +kernel
theorem dX8_layWays_73 : decode cX8_layWays 73 = .ok (.aload_n 0, 1) := by decide +kernel
theorem dX8_layWays_74 : decode cX8_layWays 74 = .ok (.iload_n 2, 1) := by decide +kernel
theorem dX8_layWays_75 : decode cX8_layWays 75 = .ok (.invokevirtual 316, 3) := by decide +kernel
theorem dX8_layWays_78 : decode cX8_layWays 78 = .ok (.invokestatic 305, 3) := by decide +kernel
theorem dX8_layWays_81 : decode cX8_layWays 81 = .ok (.istore_n 3, 1) := by decide +kernel
theorem dX8_layWays_82 : decode cX8_layWays 82 = .ok (.aload_n 0, 1) := by decide +kernel
theorem dX8_layWays_83 : decode cX8_layWays 83 = .ok (.iload_n 2, 1) := by decide +kernel
theorem dX8_layWays_84 : decode cX8_layWays 84 = .ok (.invokevirtual 316, 3) := by decide +kernel
theorem dX8_layWays_87 : decode cX8_layWays 87 = .ok (.aload_n 0, 1) := by decide +kernel
theorem dX8_layWays_88 : decode cX8_layWays 88 = .ok (.iload_n 2, 1) := by decide +kernel
theorem dX8_layWays_89 : decode cX8_layWays 89 = .ok (.invokevirtual 312, 3) := by decide +kernel
theorem dX8_layWays_92 : decode cX8_layWays 92 = .ok (.invokestatic 305, 3) := by decide +kernel
theorem dX8_layWays_95 : decode cX8_layWays 95 = .ok (.istore 4, 2) := by decide +kernel
theorem dX8_layWays_97 : decode cX8_layWays 97 = .ok (.aload_n 0, 1) := by decide +kernel
theorem dX8_layWays_98 : decode cX8_layWays 98 = .ok (.getfield 90, 3) := by decide +kernel
theorem dX8_layWays_101 : decode cX8_layWays 101 = .ok (.iload_n 3, 1) := by decide +kernel
theorem dX8_layWays_102 : decode cX8_layWays 102 = .ok (.aload_n 0, 1) := by decide +kernel
theorem dX8_layWays_103 : decode cX8_layWays 103 = .ok (.getfield 90, 3) := by decide +kernel
theorem dX8_layWays_106 : decode cX8_layWays 106 = .ok (.iload_n 3, 1) := by decide +kernel
theorem dX8_layWays_107 : decode cX8_layWays 107 = .ok (.laload, 1) := by decide +kernel
theorem dX8_layWays_108 : decode cX8_layWays 108 = .ok (.aload_n 0, 1) := by decide +kernel
theorem dX8_layWays_109 : decode cX8_layWays 109 = .ok (.iload_n 2, 1) := by decide +kernel
theorem dX8_layWays_110 : decode cX8_layWays 110 = .ok (.invokevirtual 319, 3) := by decide +kernel
theorem dX8_layWays_113 : decode cX8_layWays 113 = .ok (.aload_n 0, 1) := by decide +kernel
theorem dX8_layWays_114 : decode cX8_layWays 114 = .ok (.getfield 323, 3) := by decide +kernel
theorem dX8_layWays_117 : decode cX8_layWays 117 = .ok (.ladd, 1) := by decide +kernel
theorem dX8_layWays_118 : decode cX8_layWays 118 = .ok (.invokestatic 300, 3) := by decide +kernel
theorem dX8_layWays_121 : decode cX8_layWays 121 = .ok (.lastore, 1) := by decide +kernel
theorem dX8_layWays_122 : decode cX8_layWays 122 = .ok (.aload_n 0, 1) := by decide +kernel
theorem dX8_layWays_123 : decode cX8_layWays 123 = .ok (.getfield 90, 3) := by decide +kernel
theorem dX8_layWays_126 : decode cX8_layWays 126 = .ok (.iload 4, 2) := by decide +kernel
theorem dX8_layWays_128 : decode cX8_layWays 128 = .ok (.aload_n 0, 1) := by decide +kernel
theorem dX8_layWays_129 : decode cX8_layWays 129 = .ok (.getfield 90, 3) := by decide +kernel
theorem dX8_layWays_132 : decode cX8_layWays 132 = .ok (.iload 4, 2) := by decide +kernel
theorem dX8_layWays_134 : decode cX8_layWays 134 = .ok (.laload, 1) := by decide +kernel
theorem dX8_layWays_135 : decode cX8_layWays 135 = .ok (.aload_n 0, 1) := by decide +kernel
theorem dX8_layWays_136 : decode cX8_layWays 136 = .ok (.getfield 323, 3) := by decide +kernel
theorem dX8_layWays_139 : decode cX8_layWays 139 = .ok (.aload_n 0, 1) := by decide +kernel
theorem dX8_layWays_140 : decode cX8_layWays 140 = .ok (.iload_n 2, 1) := by decide +kernel
theorem dX8_layWays_141 : decode cX8_layWays 141 = .ok (.invokevirtual 327, 3) := by decide +kernel
theorem dX8_layWays_144 : decode cX8_layWays 144 = .ok (.lsub, 1) := by decide +kernel
theorem dX8_layWays_145 : decode cX8_layWays 145 = .ok (.invokestatic 300, 3) := by decide +kernel
theorem dX8_layWays_148 : decode cX8_layWays 148 = .ok (.lastore, 1) := by decide +kernel
theorem dX8_layWays_149 : decode cX8_layWays 149 = .ok (.iinc 2 1, 3) := by decide +kernel
theorem dX8_layWays_152 : decode cX8_layWays 152 = .ok (.goto (-101), 3) := by decide +kernel
theorem dX8_layWays_155 : decode cX8_layWays 155 = .ok (.return_, 1) := by decide +kernel
theorem dX8_sumWays_0 : decode cX8_sumWays 0 = .ok (.aload_n 0, 1) := by decide +kernel
theorem dX8_sumWays_1 : decode cX8_sumWays 1 = .ok (.iload_n 1, 1) := by decide +kernel
theorem dX8_sumWays_2 : decode cX8_sumWays 2 = .ok (.invokevirtual 330, 3) := by decide +kernel
theorem dX8_sumWays_5 : decode cX8_sumWays 5 = .ok (.iconst 0, 1) := by decide +kernel
theorem dX8_sumWays_6 : decode cX8_sumWays 6 = .ok (.istore_n 2, 1) := by decide +kernel
theorem dX8_sumWays_7 : decode cX8_sumWays 7 = .ok (.iload_n 2, 1) := by decide +kernel
theorem dX8_sumWays_8 : decode cX8_sumWays 8 = .ok (.bipush 17, 2) := by decide +kernel
theorem dX8_sumWays_10 : decode cX8_sumWays 10 = .ok (.if_icmp .ge 144, 3) := by decide +kernel
theorem dX8_sumWays_13 : decode cX8_sumWays 13 = .ok (.iconst 0, 1) := by decide +kernel
theorem dX8_sumWays_14 : decode cX8_sumWays 14 = .ok (.istore_n 3, 1) := by decide +kernel
theorem dX8_sumWays_15 : decode cX8_sumWays 15 = .ok (.iload_n 3, 1) := by decide +kernel
theorem dX8_sumWays_16 : decode cX8_sumWays 16 = .ok (.bipush 17, 2) := by decide +kernel
theorem dX8_sumWays_18 : decode cX8_sumWays 18 = .ok (.if_icmp .ge 130, 3) := by decide +kernel
theorem dX8_sumWays_21 : decode cX8_sumWays 21 = .ok (.iconst 0, 1) := by decide +kernel
theorem dX8_sumWays_22 : decode cX8_sumWays 22 = .ok (.istore 4, 2) := by decide +kernel
theorem dX8_sumWays_24 : decode cX8_sumWays 24 = .ok (.iload 4, 2) := by decide +kernel
theorem dX8_sumWays_26 : decode cX8_sumWays 26 = .ok (.bipush 17, 2) := by decide +kernel
theorem dX8_sumWays_28 : decode cX8_sumWays 28 = .ok (.if_icmp .ge 114, 3) := by decide +kernel
theorem dX8_sumWays_31 : decode cX8_sumWays 31 = .ok (.aload_n 0, 1) := by decide +kernel
theorem dX8_sumWays_32 : decode cX8_sumWays 32 = .ok (.getfield 90, 3) := by decide +kernel
theorem dX8_sumWays_35 : decode cX8_sumWays 35 = .ok (.iload_n 3, 1) := by decide +kernel
theorem dX8_sumWays_36 : decode cX8_sumWays 36 = .ok (.iload_n 2, 1) := by decide +kernel
theorem dX8_sumWays_37 : decode cX8_sumWays 37 = .ok (.invokestatic 305, 3) := by decide +kernel
theorem dX8_sumWays_40 : decode cX8_sumWays 40 = .ok (.laload, 1) := by decide +kernel
theorem dX8_sumWays_41 : decode cX8_sumWays 41 = .ok (.ldc2_w 303, 3) := by decide +kernel
theorem dX8_sumWays_44 : decode cX8_sumWays 44 = .ok (.lcmp, 1) := by decide +kernel
theorem dX8_sumWays_45 : decode cX8_sumWays 45 = .ok (.ifCond .ge 91, 3) := by decide +kernel
theorem dX8_sumWays_48 : decode cX8_sumWays 48 = .ok (.aload_n 0, 1) := by decide +kernel
theorem dX8_sumWays_49 : decode cX8_sumWays 49 = .ok (.getfield 90, 3) := by decide +kernel
theorem dX8_sumWays_52 : decode cX8_sumWays 52 = .ok (.iload_n 2, 1) := by decide +kernel
theorem dX8_sumWays_53 : decode cX8_sumWays 53 = .ok (.iload 4, 2) := by decide +kernel
theorem dX8_sumWays_55 : decode cX8_sumWays 55 = .ok (.invokestatic 305, 3) := by decide +kernel
theorem dX8_sumWays_58 : decode cX8_sumWays 58 = .ok (.laload, 1) := by decide +kernel
theorem dX8_sumWays_59 : decode cX8_sumWays 59 = .ok (.ldc2_w 303, 3) := by decide +kernel
theorem dX8_sumWays_62 : decode cX8_sumWays 62 = .ok (.lcmp, 1) := by decide +kernel
theorem dX8_sumWays_63 : decode cX8_sumWays 63 = .ok (.ifCond .ge 73, 3) := by decide +kernel
theorem dX8_sumWays_66 : decode cX8_sumWays 66 = .ok (.aload_n 0, 1) := by decide +kernel
theorem dX8_sumWays_67 : decode cX8_sumWays 67 = .ok (.getfield 90, 3) := by decide +kernel
theorem dX8_sumWays_70 : decode cX8_sumWays 70 = .ok (.iload_n 3, 1) := by decide +kernel
theorem dX8_sumWays_71 : decode cX8_sumWays 71 = .ok (.iload_n 2, 1) := by decide +kernel
theorem dX8_sumWays_72 : decode cX8_sumWays 72 = .ok (.invokestatic 305, 3) := by decide +kernel
theorem dX8_sumWays_75 : decode cX8_sumWays 75 = .ok (.laload, 1) := by decide +kernel
theorem dX8_sumWays_76 : decode cX8_sumWays 76 = .ok (.aload_n 0, 1) := by decide +kernel
theorem dX8_sumWays_77 : decode cX8_sumWays 77 = .ok (.getfield 90, 3) := by decide +kernel
theorem dX8_sumWays_80 : decode cX8_sumWays 80 = .ok (.iload_n 2, 1) := by decide +kernel
theorem dX8_sumWays_81 : decode cX8_sumWays 81 = .ok (.iload 4, 2) := by decide +kernel
theorem dX8_sumWays_83 : decode cX8_sumWays 83 = .ok (.invokestatic 305, 3) := by decide +kernel
theorem dX8_sumWays_86 : decode cX8_sumWays 86 = .ok (.laload, 1) := by decide +kernel
theorem dX8_sumWays_87 : decode cX8_sumWays 87 = .ok (.ladd, 1) := by decide +kernel
theorem dX8_sumWays_88 : decode cX8_sumWays 88 = .ok (.lstore 5, 2) := by decide +kernel
theorem dX8_sumWays_90 : decode cX8_sumWays 90 = .ok (.lload 5, 2) := by decide +kernel
theorem dX8_sumWays_92 : decode cX8_sumWays 92 = .ok (.ldc2_w 333, 3) := by decide +kernel
theorem dX8_sumWays_95 : decode cX8_sumWays 95 = .ok (.lcmp, 1) := by decide +kernel
theorem dX8_sumWays_96 : decode cX8_sumWays 96 = .ok (.ifCond .ge 9, 3) := by decide +kernel
theorem dX8_sumWays_99 : decode cX8_sumWays 99 = .ok (.ldc2_w 333, 3) := by decide +kernel
theorem dX8_sumWays_102 : decode cX8_sumWays 102 = .ok (.goto 5, 3) := by decide +kernel
theorem dX8_sumWays_105 : decode cX8_sumWays 105 = .ok (.lload 5, 2) := by decide +kernel
theorem dX8_sumWays_107 : decode cX8_sumWays 107 = .ok (.lstore 5, 2) := by decide +kernel
theorem dX8_sumWays_109 : decode cX8_sumWays 109 = .ok (.aload_n 0, 1) := by decide +kernel
theorem dX8_sumWays_110 : decode cX8_sumWays 110 = .ok (.getfield 90, 3) := by decide +kernel
theorem dX8_sumWays_113 : decode cX8_sumWays 113 = .ok (.iload_n 3, 1) := by decide +kernel
theorem dX8_sumWays_114 : decode cX8_sumWays 114 = .ok (.iload 4, 2) := by decide +kernel
theorem dX8_sumWays_116 : decode cX8_sumWays 116 = .ok (.invokestatic 305, 3) := by decide +kernel
theorem dX8_sumWays_119 : decode cX8_sumWays 119 = .ok (.aload_n 0, 1) := by decide +kernel
theorem dX8_sumWays_120 : decode cX8_sumWays 120 = .ok (.getfield 90, 3) := by decide +kernel
theorem dX8_sumWays_123 : decode cX8_sumWays 123 = .ok (.iload_n 3, 1) := by decide +kernel
theorem dX8_sumWays_124 : decode cX8_sumWays 124 = .ok (.iload 4, 2) := by decide +kernel
theorem dX8_sumWays_126 : decode cX8_sumWays 126 = .ok (.invokestatic 305, 3) := by decide +kernel
theorem dX8_sumWays_129 : decode cX8_sumWays 129 = .ok (.laload, 1) := by decide +kernel
theorem dX8_sumWays_130 : decode cX8_sumWays 130 = .ok (.lload 5, 2) := by decide +kernel
theorem dX8_sumWays_132 : decode cX8_sumWays 132 = .ok (.invokestatic 300, 3) := by decide +kernel
theorem dX8_sumWays_135 : decode cX8_sumWays 135 = .ok (.lastore, 1) := by decide +kernel
theorem dX8_sumWays_136 : decode cX8_sumWays 136 = .ok (.iinc 4 1, 3) := by decide +kernel
theorem dX8_sumWays_139 : decode cX8_sumWays 139 = .ok (.goto (-115), 3) := by decide +kernel
theorem dX8_sumWays_142 : decode cX8_sumWays 142 = .ok (.iinc 3 1, 3) := by decide +kernel
theorem dX8_sumWays_145 : decode cX8_sumWays 145 = .ok (.goto (-130), 3) := by decide +kernel
theorem dX8_sumWays_148 : decode cX8_sumWays 148 = .ok (.iinc 2 1, 3) := by decide +kernel
theorem dX8_sumWays_151 : decode cX8_sumWays 151 = .ok (.goto (-144), 3) := by decide +kernel
theorem dX8_sumWays_154 : decode cX8_sumWays 154 = .ok (.iconst 1, 1) := by decide +kernel
theorem dX8_sumWays_155 : decode cX8_sumWays 155 = .ok (.istore_n 2, 1) := by decide +kernel
theorem dX8_sumWays_156 : decode cX8_sumWays 156 = .ok (.iconst 0, 1) := by decide +kernel
theorem dX8_sumWays_157 : decode cX8_sumWays 157 = .ok (.istore_n 3, 1) := by decide +kernel
theorem dX8_sumWays_158 : decode cX8_sumWays 158 = .ok (.iload_n 3, 1) := by decide +kernel
theorem dX8_sumWays_159 : decode cX8_sumWays 159 = .ok (.bipush 17, 2) := by decide +kernel
theorem dX8_sumWays_161 : decode cX8_sumWays 161 = .ok (.if_icmp .ge 34, 3) := by decide +kernel
theorem dX8_sumWays_164 : decode cX8_sumWays 164 = .ok (.iload_n 2, 1) := by decide +kernel
theorem dX8_sumWays_165 : decode cX8_sumWays 165 = .ok (.ifCond .eq 22, 3) := by decide +kernel
theorem dX8_sumWays_168 : decode cX8_sumWays 168 = .ok (.aload_n 0, 1) := by decide +kernel
theorem dX8_sumWays_169 : decode cX8_sumWays 169 = .ok (.getfield 90, 3) := by decide +kernel
theorem dX8_sumWays_172 : decode cX8_sumWays 172 = .ok (.iload_n 3, 1) := by decide +kernel
theorem dX8_sumWays_173 : decode cX8_sumWays 173 = .ok (.iload_n 3, 1) := by decide +kernel
theorem dX8_sumWays_174 : decode cX8_sumWays 174 = .ok (.invokestatic 305, 3) := by decide +kernel
theorem dX8_sumWays_177 : decode cX8_sumWays 177 = .ok (.laload, 1) := by decide +kernel
theorem dX8_sumWays_178 : decode cX8_sumWays 178 = .ok (.lconst 0, 1) := by decide +kernel
theorem dX8_sumWays_179 : decode cX8_sumWays 179 = .ok (.lcmp, 1) := by decide +kernel
theorem dX8_sumWays_180 : decode cX8_sumWays 180 = .ok (.ifCond .lt 7, 3) := by decide +kernel
theorem dX8_sumWays_183 : decode cX8_sumWays 183 = .ok (.iconst 1, 1) := by decide +kernel
theorem dX8_sumWays_184 : decode cX8_sumWays 184 = .ok (.goto 4, 3) := by decide +kernel
theorem dX8_sumWays_187 : decode cX8_sumWays 187 = .ok (.iconst 0, 1) := by decide +kernel
theorem dX8_sumWays_188 : decode cX8_sumWays 188 = .ok (.istore_n 2, 1) := by decide +kernel
theorem dX8_sumWays_189 : decode cX8_sumWays 189 = .ok (.iinc 3 1, 3) := by decide +kernel
theorem dX8_sumWays_192 : decode cX8_sumWays 192 = .ok (.goto (-34), 3) := by decide +kernel
theorem dX8_sumWays_195 : decode cX8_sumWays 195 = .ok (.iload_n 2, 1) := by decide +kernel
theorem dX8_sumWays_196 : decode cX8_sumWays 196 = .ok (.ireturn, 1) := by decide +kernel
theorem dX8_isLoose_0 : decode cX8_isLoose 0 = .ok (.aload_n 0, 1) := by decide +kernel
theorem dX8_isLoose_1 : decode cX8_isLoose 1 = .ok (.getfield 90, 3) := by decide +kernel
theorem dX8_isLoose_4 : decode cX8_isLoose 4 = .ok (.iconst 0, 1) := by decide +kernel
theorem dX8_isLoose_5 : decode cX8_isLoose 5 = .ok (.iconst 1, 1) := by decide +kernel
theorem dX8_isLoose_6 : decode cX8_isLoose 6 = .ok (.iload_n 1, 1) := by decide +kernel
theorem dX8_isLoose_7 : decode cX8_isLoose 7 = .ok (.iadd, 1) := by decide +kernel
theorem dX8_isLoose_8 : decode cX8_isLoose 8 = .ok (.invokestatic 305, 3) := by decide +kernel
theorem dX8_isLoose_11 : decode cX8_isLoose 11 = .ok (.laload, 1) := by decide +kernel
theorem dX8_isLoose_12 : decode cX8_isLoose 12 = .ok (.ldc2_w 303, 3) := by decide +kernel
theorem dX8_isLoose_15 : decode cX8_isLoose 15 = .ok (.lcmp, 1) := by decide +kernel
theorem dX8_isLoose_16 : decode cX8_isLoose 16 = .ok (.ifCond .lt 7, 3) := by decide +kernel
theorem dX8_isLoose_19 : decode cX8_isLoose 19 = .ok (.iconst 1, 1) := by decide +kernel
theorem dX8_isLoose_20 : decode cX8_isLoose 20 = .ok (.goto 4, 3) := by decide +kernel
theorem dX8_isLoose_23 : decode cX8_isLoose 23 = .ok (.iconst 0, 1) := by decide +kernel
theorem dX8_isLoose_24 : decode cX8_isLoose 24 = .ok (.ireturn, 1) := by decide +kernel
theorem dX8_lowEnd_0 : decode cX8_lowEnd 0 = .ok (.lconst 0, 1) := by decide +kernel
theorem dX8_lowEnd_1 : decode cX8_lowEnd 1 = .ok (.aload_n 0, 1) := by decide +kernel
theorem dX8_lowEnd_2 : decode cX8_lowEnd 2 = .ok (.getfield 90, 3) := by decide +kernel
theorem dX8_lowEnd_5 : decode cX8_lowEnd 5 = .ok (.iconst 1, 1) := by decide +kernel
theorem dX8_lowEnd_6 : decode cX8_lowEnd 6 = .ok (.iload_n 1, 1) := by decide +kernel
theorem dX8_lowEnd_7 : decode cX8_lowEnd 7 = .ok (.iadd, 1) := by decide +kernel
theorem dX8_lowEnd_8 : decode cX8_lowEnd 8 = .ok (.iconst 0, 1) := by decide +kernel
theorem dX8_lowEnd_9 : decode cX8_lowEnd 9 = .ok (.invokestatic 305, 3) := by decide +kernel
theorem dX8_lowEnd_12 : decode cX8_lowEnd 12 = .ok (.laload, 1) := by decide +kernel
theorem dX8_lowEnd_13 : decode cX8_lowEnd 13 = .ok (.lsub, 1) := by decide +kernel
theorem dX8_lowEnd_14 : decode cX8_lowEnd 14 = .ok (.l2i, 1) := by decide +kernel
theorem dX8_lowEnd_15 : decode cX8_lowEnd 15 = .ok (.ireturn, 1) := by decide +kernel
theorem dX8_highEnd_0 : decode cX8_highEnd 0 = .ok (.aload_n 0, 1) := by decide +kernel
theorem dX8_highEnd_1 : decode cX8_highEnd 1 = .ok (.getfield 90, 3) := by decide +kernel
theorem dX8_highEnd_4 : decode cX8_highEnd 4 = .ok (.iconst 0, 1) := by decide +kernel
theorem dX8_highEnd_5 : decode cX8_highEnd 5 = .ok (.iconst 1, 1) := by decide +kernel
theorem dX8_highEnd_6 : decode cX8_highEnd 6 = .ok (.iload_n 1, 1) := by decide +kernel
theorem dX8_highEnd_7 : decode cX8_highEnd 7 = .ok (.iadd, 1) := by decide +kernel
theorem dX8_highEnd_8 : decode cX8_highEnd 8 = .ok (.invokestatic 305, 3) := by decide +kernel
theorem dX8_highEnd_11 : decode cX8_highEnd 11 = .ok (.laload, 1) := by decide +kernel
theorem dX8_highEnd_12 : decode cX8_highEnd 12 = .ok (.l2i, 1) := by decide +kernel
theorem dX8_highEnd_13 : decode cX8_highEnd 13 = .ok (.ireturn, 1) := by decide +kernel
theorem dX8_forget_0 : decode cX8_forget 0 = .ok (.aload_n 0, 1) := by decide +kernel
theorem dX8_forget_1 : decode cX8_forget 1 = .ok (.iconst (-1), 1) := by decide +kernel
theorem dX8_forget_2 : decode cX8_forget 2 = .ok (.putfield 94, 3) := by decide +kernel
theorem dX8_forget_5 : decode cX8_forget 5 = .ok (.aload_n 0, 1) := by decide +kernel
theorem dX8_forget_6 : decode cX8_forget 6 = .ok (.iconst (-1), 1) := by decide +kernel
theorem dX8_forget_7 : decode cX8_forget 7 = .ok (.putfield 97, 3) := by decide +kernel
theorem dX8_forget_10 : decode cX8_forget 10 = .ok (.aload_n 0, 1) := by decide +kernel
theorem dX8_forget_11 : decode cX8_forget 11 = .ok (.iconst (-1), 1) := by decide +kernel
theorem dX8_forget_12 : decode cX8_forget 12 = .ok (.putfield 100, 3) := by decide +kernel
theorem dX8_forget_15 : decode cX8_forget 15 = .ok (.aload_n 0, 1) := by decide +kernel
theorem dX8_forget_16 : decode cX8_forget 16 = .ok (.lconst 0, 1) := by decide +kernel
theorem dX8_forget_17 : decode cX8_forget 17 = .ok (.putfield 323, 3) := by decide +kernel
theorem dX8_forget_20 : decode cX8_forget 20 = .ok (.return_, 1) := by decide +kernel
theorem dX8_known_0 : decode cX8_known 0 = .ok (.iload_n 1, 1) := by decide +kernel
theorem dX8_known_1 : decode cX8_known 1 = .ok (.ifCond .ge 10, 3) := by decide +kernel
theorem dX8_known_4 : decode cX8_known 4 = .ok (.aload_n 0, 1) := by decide +kernel
theorem dX8_known_5 : decode cX8_known 5 = .ok (.getfield 136, 3) := by decide +kernel
theorem dX8_known_8 : decode cX8_known 8 = .ok (.goto 4, 3) := by decide +kernel
theorem dX8_known_11 : decode cX8_known 11 = .ok (.iload_n 1, 1) := by decide +kernel
theorem dX8_known_12 : decode cX8_known 12 = .ok (.ireturn, 1) := by decide +kernel
theorem dX8_isKnown_0 : decode cX8_isKnown 0 = .ok (.iload_n 1, 1) := by decide +kernel
theorem dX8_isKnown_1 : decode cX8_isKnown 1 = .ok (.i2l, 1) := by decide +kernel
theorem dX8_isKnown_2 : decode cX8_isKnown 2 = .ok (.ldc2_w 177, 3) := by decide +kernel
theorem dX8_isKnown_5 : decode cX8_isKnown 5 = .ok (.aload_n 0, 1) := by decide +kernel
theorem dX8_isKnown_6 : decode cX8_isKnown 6 = .ok (.getfield 136, 3) := by decide +kernel
theorem dX8_isKnown_9 : decode cX8_isKnown 9 = .ok (.i2l, 1) := by decide +kernel
theorem dX8_isKnown_10 : decode cX8_isKnown 10 = .ok (.invokestatic 130, 3) := by decide +kernel
theorem dX8_isKnown_13 : decode cX8_isKnown 13 = .ok (.ireturn, 1) := by decide +kernel
theorem dX8_told_0 : decode cX8_told 0 = .ok (.aload_n 0, 1) := by decide +kernel
theorem dX8_told_1 : decode cX8_told 1 = .ok (.iload_n 1, 1) := by decide +kernel
theorem dX8_told_2 : decode cX8_told 2 = .ok (.invokevirtual 181, 3) := by decide +kernel
theorem dX8_told_5 : decode cX8_told 5 = .ok (.ifCond .eq 6, 3) := by decide +kernel
theorem dX8_told_8 : decode cX8_told 8 = .ok (.ldc 153, 2) := by decide +kernel
theorem dX8_told_10 : decode cX8_told 10 = .ok (.ireturn, 1) := by decide +kernel
theorem dX8_told_11 : decode cX8_told 11 = .ok (.iload_n 2, 1) := by decide +kernel
theorem dX8_told_12 : decode cX8_told 12 = .ok (.tableswitch 99 0 6 #[44, 51, 58, 65, 72, 85, 92], 44) := by decide +kernel
theorem dX8_told_56 : decode cX8_told 56 = .ok (.aload_n 0, 1) := by decide +kernel
theorem dX8_told_57 : decode cX8_told 57 = .ok (.getfield 7, 3) := by decide +kernel
theorem dX8_told_60 : decode cX8_told 60 = .ok (.iload_n 1, 1) := by decide +kernel
theorem dX8_told_61 : decode cX8_told 61 = .ok (.iaload, 1) := by decide +kernel
theorem dX8_told_62 : decode cX8_told 62 = .ok (.ireturn, 1) := by decide +kernel
theorem dX8_told_63 : decode cX8_told 63 = .ok (.aload_n 0, 1) := by decide +kernel
theorem dX8_told_64 : decode cX8_told 64 = .ok (.getfield 13, 3) := by decide +kernel
theorem dX8_told_67 : decode cX8_told 67 = .ok (.iload_n 1, 1) := by decide +kernel
theorem dX8_told_68 : decode cX8_told 68 = .ok (.iaload, 1) := by decide +kernel
theorem dX8_told_69 : decode cX8_told 69 = .ok (.ireturn, 1) := by decide +kernel
theorem dX8_told_70 : decode cX8_told 70 = .ok (.aload_n 0, 1) := by decide +kernel
theorem dX8_told_71 : decode cX8_told 71 = .ok (.getfield 16, 3) := by decide +kernel
theorem dX8_told_74 : decode cX8_told 74 = .ok (.iload_n 1, 1) := by decide +kernel
theorem dX8_told_75 : decode cX8_told 75 = .ok (.iaload, 1) := by decide +kernel
theorem dX8_told_76 : decode cX8_told 76 = .ok (.ireturn, 1) := by decide +kernel
theorem dX8_told_77 : decode cX8_told 77 = .ok (.aload_n 0, 1) := by decide +kernel
theorem dX8_told_78 : decode cX8_told 78 = .ok (.getfield 19, 3) := by decide +kernel
theorem dX8_told_81 : decode cX8_told 81 = .ok (.iload_n 1, 1) := by decide +kernel
theorem dX8_told_82 : decode cX8_told 82 = .ok (.iaload, 1) := by decide +kernel
theorem dX8_told_83 : decode cX8_told 83 = .ok (.ireturn, 1) := by decide +kernel
theorem dX8_told_84 : decode cX8_told 84 = .ok (.aload_n 0, 1) := by decide +kernel
theorem dX8_told_85 : decode cX8_told 85 = .ok (.iload_n 1, 1) := by decide +kernel
theorem dX8_told_86 : decode cX8_told 86 = .ok (.aload_n 0, 1) := by decide +kernel
theorem dX8_told_87 : decode cX8_told 87 = .ok (.getfield 136, 3) := by decide +kernel
theorem dX8_told_90 : decode cX8_told 90 = .ok (.invokevirtual 309, 3) := by decide +kernel
theorem dX8_told_93 : decode cX8_told 93 = .ok (.invokestatic 184, 3) := by decide +kernel
theorem dX8_told_96 : decode cX8_told 96 = .ok (.ireturn, 1) := by decide +kernel
theorem dX8_told_97 : decode cX8_told 97 = .ok (.aload_n 0, 1) := by decide +kernel
theorem dX8_told_98 : decode cX8_told 98 = .ok (.iload_n 1, 1) := by decide +kernel
theorem dX8_told_99 : decode cX8_told 99 = .ok (.invokevirtual 327, 3) := by decide +kernel
theorem dX8_told_102 : decode cX8_told 102 = .ok (.l2i, 1) := by decide +kernel
theorem dX8_told_103 : decode cX8_told 103 = .ok (.ireturn, 1) := by decide +kernel
theorem dX8_told_104 : decode cX8_told 104 = .ok (.aload_n 0, 1) := by decide +kernel
theorem dX8_told_105 : decode cX8_told 105 = .ok (.iload_n 1, 1) := by decide +kernel
theorem dX8_told_106 : decode cX8_told 106 = .ok (.invokevirtual 319, 3) := by decide +kernel
theorem dX8_told_109 : decode cX8_told 109 = .ok (.l2i, 1) := by decide +kernel
theorem dX8_told_110 : decode cX8_told 110 = .ok (.ireturn, 1) := by decide +kernel
theorem dX8_told_111 : decode cX8_told 111 = .ok (.ldc 164, 2) := by decide +kernel
theorem dX8_told_113 : decode cX8_told 113 = .ok (.ireturn, 1) := by decide +kernel
theorem dX8_looseOnes_0 : decode cX8_looseOnes 0 = .ok (.aload_n 0, 1) := by decide +kernel
theorem dX8_looseOnes_1 : decode cX8_looseOnes 1 = .ok (.aload_n 0, 1) := by decide +kernel
theorem dX8_looseOnes_2 : decode cX8_looseOnes 2 = .ok (.getfield 136, 3) := by decide +kernel
theorem dX8_looseOnes_5 : decode cX8_looseOnes 5 = .ok (.invokevirtual 335, 3) := by decide +kernel
theorem dX8_looseOnes_8 : decode cX8_looseOnes 8 = .ok (.ifCond .ne 5, 3) := by decide +kernel
theorem dX8_looseOnes_11 : decode cX8_looseOnes 11 = .ok (.iconst (-1), 1) := by decide +kernel
theorem dX8_looseOnes_12 : decode cX8_looseOnes 12 = .ok (.ireturn, 1) := by decide +kernel
theorem dX8_looseOnes_13 : decode cX8_looseOnes 13 = .ok (.iconst 0, 1) := by decide +kernel
theorem dX8_looseOnes_14 : decode cX8_looseOnes 14 = .ok (.istore_n 1, 1) := by decide +kernel
theorem dX8_looseOnes_15 : decode cX8_looseOnes 15 = .ok (.iconst 0, 1) := by decide +kernel
theorem dX8_looseOnes_16 : decode cX8_looseOnes 16 = .ok (.istore_n 2, 1) := by decide +kernel
theorem dX8_looseOnes_17 : decode cX8_looseOnes 17 = .ok (.iload_n 2, 1) := by decide +kernel
theorem dX8_looseOnes_18 : decode cX8_looseOnes 18 = .ok (.bipush 10, 2) := by decide +kernel
theorem dX8_looseOnes_20 : decode cX8_looseOnes 20 = .ok (.if_icmp .ge 20, 3) := by decide +kernel
theorem dX8_looseOnes_23 : decode cX8_looseOnes 23 = .ok (.iload_n 1, 1) := by decide +kernel
theorem dX8_looseOnes_24 : decode cX8_looseOnes 24 = .ok (.aload_n 0, 1) := by decide +kernel
theorem dX8_looseOnes_25 : decode cX8_looseOnes 25 = .ok (.iload_n 2, 1) := by decide +kernel
theorem dX8_looseOnes_26 : decode cX8_looseOnes 26 = .ok (.invokevirtual 338, 3) := by decide +kernel
theorem dX8_looseOnes_29 : decode cX8_looseOnes 29 = .ok (.invokestatic 184, 3) := by decide +kernel
theorem dX8_looseOnes_32 : decode cX8_looseOnes 32 = .ok (.iadd, 1) := by decide +kernel
theorem dX8_looseOnes_33 : decode cX8_looseOnes 33 = .ok (.istore_n 1, 1) := by decide +kernel
theorem dX8_looseOnes_34 : decode cX8_looseOnes 34 = .ok (.iinc 2 1, 3) := by decide +kernel
theorem dX8_looseOnes_37 : decode cX8_looseOnes 37 = .ok (.goto (-20), 3) := by decide +kernel
theorem dX8_looseOnes_40 : decode cX8_looseOnes 40 = .ok (.iload_n 1, 1) := by decide +kernel
theorem dX8_looseOnes_41 : decode cX8_looseOnes 41 = .ok (.ireturn, 1) := by decide +kernel
theorem dX8_count_0 : decode cX8_count 0 = .ok (.iconst 0, 1) := by decide +kernel
theorem dX8_count_1 : decode cX8_count 1 = .ok (.istore_n 2, 1) := by decide +kernel
theorem dX8_count_2 : decode cX8_count 2 = .ok (.iconst 0, 1) := by decide +kernel
theorem dX8_count_3 : decode cX8_count 3 = .ok (.istore_n 3, 1) := by decide +kernel
theorem dX8_count_4 : decode cX8_count 4 = .ok (.iconst 0, 1) := by decide +kernel
theorem dX8_count_5 : decode cX8_count 5 = .ok (.istore 4, 2) := by decide +kernel
theorem dX8_count_7 : decode cX8_count 7 = .ok (.iconst 0, 1) := by decide +kernel
theorem dX8_count_8 : decode cX8_count 8 = .ok (.istore 5, 2) := by decide +kernel
theorem dX8_count_10 : decode cX8_count 10 = .ok (.iconst 0, 1) := by decide +kernel
theorem dX8_count_11 : decode cX8_count 11 = .ok (.istore 6, 2) := by decide +kernel
theorem dX8_count_13 : decode cX8_count 13 = .ok (.iload 6, 2) := by decide +kernel
theorem dX8_count_15 : decode cX8_count 15 = .ok (.aload_n 0, 1) := by decide +kernel
theorem dX8_count_16 : decode cX8_count 16 = .ok (.getfield 136, 3) := by decide +kernel
theorem dX8_count_19 : decode cX8_count 19 = .ok (.if_icmp .ge 76, 3) := by decide +kernel
theorem dX8_count_22 : decode cX8_count 22 = .ok (.iload_n 2, 1) := by decide +kernel
theorem dX8_count_23 : decode cX8_count 23 = .ok (.aload_n 0, 1) := by decide +kernel
theorem dX8_count_24 : decode cX8_count 24 = .ok (.iload 6, 2) := by decide +kernel
theorem dX8_count_26 : decode cX8_count 26 = .ok (.aload_n 0, 1) := by decide +kernel
theorem dX8_count_27 : decode cX8_count 27 = .ok (.getfield 136, 3) := by decide +kernel
theorem dX8_count_30 : decode cX8_count 30 = .ok (.invokevirtual 309, 3) := by decide +kernel
theorem dX8_count_33 : decode cX8_count 33 = .ok (.invokestatic 184, 3) := by decide +kernel
theorem dX8_count_36 : decode cX8_count 36 = .ok (.iadd, 1) := by decide +kernel
theorem dX8_count_37 : decode cX8_count 37 = .ok (.istore_n 2, 1) := by decide +kernel
theorem dX8_count_38 : decode cX8_count 38 = .ok (.iload_n 3, 1) := by decide +kernel
theorem dX8_count_39 : decode cX8_count 39 = .ok (.aload_n 0, 1) := by decide +kernel
theorem dX8_count_40 : decode cX8_count 40 = .ok (.getfield 34, 3) := by decide +kernel
theorem dX8_count_43 : decode cX8_count 43 = .ok (.iload 6, 2) := by decide +kernel
theorem dX8_count_45 : decode cX8_count 45 = .ok (.baload, 1) := by decide +kernel
theorem dX8_count_46 : decode cX8_count 46 = .ok (.invokestatic 184, 3) := by decide +kernel
theorem dX8_count_49 : decode cX8_count 49 = .ok (.iadd, 1) := by decide +kernel
theorem dX8_count_50 : decode cX8_count 50 = .ok (.istore_n 3, 1) := by decide +kernel
theorem dX8_count_51 : decode cX8_count 51 = .ok (.iload 4, 2) := by decide +kernel
theorem dX8_count_53 : decode cX8_count 53 = .ok (.aload_n 0, 1) := by decide +kernel
theorem dX8_count_54 : decode cX8_count 54 = .ok (.getfield 38, 3) := by decide +kernel
theorem dX8_count_57 : decode cX8_count 57 = .ok (.iload 6, 2) := by decide +kernel
theorem dX8_count_59 : decode cX8_count 59 = .ok (.baload, 1) := by decide +kernel
theorem dX8_count_60 : decode cX8_count 60 = .ok (.invokestatic 184, 3) := by decide +kernel
theorem dX8_count_63 : decode cX8_count 63 = .ok (.iadd, 1) := by decide +kernel
theorem dX8_count_64 : decode cX8_count 64 = .ok (.istore 4, 2) := by decide +kernel
theorem dX8_count_66 : decode cX8_count 66 = .ok (.iload 5, 2) := by decide +kernel
theorem dX8_count_68 : decode cX8_count 68 = .ok (.aload_n 0, 1) := by decide +kernel
theorem dX8_count_69 : decode cX8_count 69 = .ok (.getfield 7, 3) := by decide +kernel
theorem dX8_count_72 : decode cX8_count 72 = .ok (.iload 6, 2) := by decide +kernel
theorem dX8_count_74 : decode cX8_count 74 = .ok (.iaload, 1) := by decide +kernel
theorem dX8_count_75 : decode cX8_count 75 = .ok (.ifCond .ne 7, 3) := by decide +kernel
theorem dX8_count_78 : decode cX8_count 78 = .ok (.iconst 1, 1) := by decide +kernel
theorem dX8_count_79 : decode cX8_count 79 = .ok (.goto 4, 3) := by decide +kernel
theorem dX8_count_82 : decode cX8_count 82 = .ok (.iconst 0, 1) := by decide +kernel
theorem dX8_count_83 : decode cX8_count 83 = .ok (.invokestatic 184, 3) := by decide +kernel
theorem dX8_count_86 : decode cX8_count 86 = .ok (.iadd, 1) := by decide +kernel
theorem dX8_count_87 : decode cX8_count 87 = .ok (.istore 5, 2) := by decide +kernel
theorem dX8_count_89 : decode cX8_count 89 = .ok (.iinc 6 1, 3) := by decide +kernel
theorem dX8_count_92 : decode cX8_count 92 = .ok (.goto (-79), 3) := by decide +kernel
theorem dX8_count_95 : decode cX8_count 95 = .ok (.iload_n 1, 1) := by decide +kernel
theorem dX8_count_96 : decode cX8_count 96 = .ok (.tableswitch 105 0 8 #[52, 57, 59, 61, 64, 69, 74, 79, 102], 52) := by decide +kernel
theorem dX8_count_148 : decode cX8_count 148 = .ok (.aload_n 0, 1) := by decide +kernel
theorem dX8_count_149 : decode cX8_count 149 = .ok (.getfield 136, 3) := by decide +kernel
theorem dX8_count_152 : decode cX8_count 152 = .ok (.ireturn, 1) := by decide +kernel
theorem dX8_count_153 : decode cX8_count 153 = .ok (.iload_n 2, 1) := by decide +kernel
theorem dX8_count_154 : decode cX8_count 154 = .ok (.ireturn, 1) := by decide +kernel
theorem dX8_count_155 : decode cX8_count 155 = .ok (.iload_n 3, 1) := by decide +kernel
theorem dX8_count_156 : decode cX8_count 156 = .ok (.ireturn, 1) := by decide +kernel
theorem dX8_count_157 : decode cX8_count 157 = .ok (.iload 4, 2) := by decide +kernel
theorem dX8_count_159 : decode cX8_count 159 = .ok (.ireturn, 1) := by decide +kernel
theorem dX8_count_160 : decode cX8_count 160 = .ok (.aload_n 0, 1) := by decide +kernel
theorem dX8_count_161 : decode cX8_count 161 = .ok (.invokevirtual 341, 3) := by decide +kernel
theorem dX8_count_164 : decode cX8_count 164 = .ok (.ireturn, 1) := by decide +kernel
theorem dX8_count_165 : decode cX8_count 165 = .ok (.aload_n 0, 1) := by decide +kernel
theorem dX8_count_166 : decode cX8_count 166 = .ok (.getfield 276, 3) := by decide +kernel
theorem dX8_count_169 : decode cX8_count 169 = .ok (.ireturn, 1) := by decide +kernel
theorem dX8_count_170 : decode cX8_count 170 = .ok (.aload_n 0, 1) := by decide +kernel
theorem dX8_count_171 : decode cX8_count 171 = .ok (.getfield 197, 3) := by decide +kernel
theorem dX8_count_174 : decode cX8_count 174 = .ok (.ireturn, 1) := by decide +kernel
theorem dX8_count_175 : decode cX8_count 175 = .ok (.aload_n 0, 1) := by decide +kernel
theorem dX8_count_176 : decode cX8_count 176 = .ok (.getfield 344, 3) := by decide +kernel
theorem dX8_count_179 : decode cX8_count 179 = .ok (.ifCond .eq 14, 3) := by decide +kernel
theorem dX8_count_182 : decode cX8_count 182 = .ok (.aload_n 0, 1) := by decide +kernel
theorem dX8_count_183 : decode cX8_count 183 = .ok (.getfield 348, 3) := by decide +kernel
theorem dX8_count_186 : decode cX8_count 186 = .ok (.ifCond .ne 7, 3) := by decide +kernel
theorem dX8_count_189 : decode cX8_count 189 = .ok (.iconst 1, 1) := by decide +kernel
theorem dX8_count_190 : decode cX8_count 190 = .ok (.goto 4, 3) := by decide +kernel
theorem dX8_count_193 : decode cX8_count 193 = .ok (.iconst 0, 1) := by decide +kernel
theorem dX8_count_194 : decode cX8_count 194 = .ok (.invokestatic 184, 3) := by decide +kernel
theorem dX8_count_197 : decode cX8_count 197 = .ok (.ireturn, 1) := by decide +kernel
theorem dX8_count_198 : decode cX8_count 198 = .ok (.iload 5, 2) := by decide +kernel
theorem dX8_count_200 : decode cX8_count 200 = .ok (.ireturn, 1) := by decide +kernel
theorem dX8_count_201 : decode cX8_count 201 = .ok (.ldc 164, 2) := by decide +kernel
theorem dX8_count_203 : decode cX8_count 203 = .ok (.ireturn, 1) := by decide +kernel
theorem dX8_ends_0 : decode cX8_ends 0 = .ok (.iload_n 1, 1) := by decide +kernel
theorem dX8_ends_1 : decode cX8_ends 1 = .ok (.invokestatic 150, 3) := by decide +kernel
theorem dX8_ends_4 : decode cX8_ends 4 = .ok (.ifCond .ne 6, 3) := by decide +kernel
theorem dX8_ends_7 : decode cX8_ends 7 = .ok (.ldc 153, 2) := by decide +kernel
theorem dX8_ends_9 : decode cX8_ends 9 = .ok (.ireturn, 1) := by decide +kernel
theorem dX8_ends_10 : decode cX8_ends 10 = .ok (.aload_n 0, 1) := by decide +kernel
theorem dX8_ends_11 : decode cX8_ends 11 = .ok (.iload_n 2, 1) := by decide +kernel
theorem dX8_ends_12 : decode cX8_ends 12 = .ok (.invokevirtual 351, 3) := by decide +kernel
theorem dX8_ends_15 : decode cX8_ends 15 = .ok (.ifCond .eq 13, 3) := by decide +kernel
theorem dX8_ends_18 : decode cX8_ends 18 = .ok (.iload_n 3, 1) := by decide +kernel
theorem dX8_ends_19 : decode cX8_ends 19 = .ok (.i2l, 1) := by decide +kernel
theorem dX8_ends_20 : decode cX8_ends 20 = .ok (.lconst 0, 1) := by decide +kernel
theorem dX8_ends_21 : decode cX8_ends 21 = .ok (.lconst 1, 1) := by decide +kernel
theorem dX8_ends_22 : decode cX8_ends 22 = .ok (.invokestatic 130, 3) := by decide +kernel
theorem dX8_ends_25 : decode cX8_ends 25 = .ok (.ifCond .ne 6, 3) := by decide +kernel
theorem dX8_ends_28 : decode cX8_ends 28 = .ok (.ldc 164, 2) := by decide +kernel
theorem dX8_ends_30 : decode cX8_ends 30 = .ok (.ireturn, 1) := by decide +kernel
theorem dX8_ends_31 : decode cX8_ends 31 = .ok (.aload_n 0, 1) := by decide +kernel
theorem dX8_ends_32 : decode cX8_ends 32 = .ok (.aload_n 0, 1) := by decide +kernel
theorem dX8_ends_33 : decode cX8_ends 33 = .ok (.iload_n 2, 1) := by decide +kernel
theorem dX8_ends_34 : decode cX8_ends 34 = .ok (.invokevirtual 354, 3) := by decide +kernel
theorem dX8_ends_37 : decode cX8_ends 37 = .ok (.invokevirtual 335, 3) := by decide +kernel
theorem dX8_ends_40 : decode cX8_ends 40 = .ok (.ifCond .ne 7, 3) := by decide +kernel
theorem dX8_ends_43 : decode cX8_ends 43 = .ok (.ldc_w 357, 3) := by decide +kernel
theorem dX8_ends_46 : decode cX8_ends 46 = .ok (.ireturn, 1) := by decide +kernel
theorem dX8_ends_47 : decode cX8_ends 47 = .ok (.aload_n 0, 1) := by decide +kernel
theorem dX8_ends_48 : decode cX8_ends 48 = .ok (.getfield 344, 3) := by decide +kernel
theorem dX8_ends_51 : decode cX8_ends 51 = .ok (.ifCond .eq 17, 3) := by decide +kernel
theorem dX8_ends_54 : decode cX8_ends 54 = .ok (.aload_n 0, 1) := by decide +kernel
theorem dX8_ends_55 : decode cX8_ends 55 = .ok (.getfield 348, 3) := by decide +kernel
theorem dX8_ends_58 : decode cX8_ends 58 = .ok (.ifCond .ne 10, 3) := by decide +kernel
theorem dX8_ends_61 : decode cX8_ends 61 = .ok (.aload_n 0, 1) := by decide +kernel
theorem dX8_ends_62 : decode cX8_ends 62 = .ok (.getfield 358, 3) := by decide +kernel
theorem dX8_ends_65 : decode cX8_ends 65 = .ok (.goto 4, 3) := by decide +kernel
theorem dX8_ends_68 : decode cX8_ends 68 = .ok (.iconst 0, 1) := by decide +kernel
theorem dX8_ends_69 : decode cX8_ends 69 = .ok (.istore 4, 2) := by decide +kernel
theorem dX8_ends_71 : decode cX8_ends 71 = .ok (.aload_n 0, 1) := by decide +kernel
theorem dX8_ends_72 : decode cX8_ends 72 = .ok (.iload_n 1, 1) := by decide +kernel
theorem dX8_ends_73 : decode cX8_ends 73 = .ok (.invokevirtual 338, 3) := by decide +kernel
theorem dX8_ends_76 : decode cX8_ends 76 = .ok (.ifCond .eq 9, 3) := by decide +kernel
theorem dX8_ends_79 : decode cX8_ends 79 = .ok (.ldc_w 361, 3) := by decide +kernel
theorem dX8_ends_82 : decode cX8_ends 82 = .ok (.goto 23, 3) := by decide +kernel
theorem dX8_ends_85 : decode cX8_ends 85 = .ok (.iload 4, 2) := by decide +kernel
theorem dX8_ends_87 : decode cX8_ends 87 = .ok (.iload_n 3, 1) := by decide +kernel
theorem dX8_ends_88 : decode cX8_ends 88 = .ok (.ifCond .ne 11, 3) := by decide +kernel
theorem dX8_ends_91 : decode cX8_ends 91 = .ok (.aload_n 0, 1) := by decide +kernel
theorem dX8_ends_92 : decode cX8_ends 92 = .ok (.iload_n 1, 1) := by decide +kernel
theorem dX8_ends_93 : decode cX8_ends 93 = .ok (.invokevirtual 362, 3) := by decide +kernel
theorem dX8_ends_96 : decode cX8_ends 96 = .ok (.goto 8, 3) := by decide +kernel
theorem dX8_ends_99 : decode cX8_ends 99 = .ok (.aload_n 0, 1) := by decide +kernel
theorem dX8_ends_100 : decode cX8_ends 100 = .ok (.iload_n 1, 1) := by decide +kernel
theorem dX8_ends_101 : decode cX8_ends 101 = .ok (.invokevirtual 365, 3) := by decide +kernel
theorem dX8_ends_104 : decode cX8_ends 104 = .ok (.iadd, 1) := by decide +kernel
theorem dX8_ends_105 : decode cX8_ends 105 = .ok (.ireturn, 1) := by decide +kernel
theorem dX8_between_0 : decode cX8_between 0 = .ok (.iload_n 1, 1) := by decide +kernel
theorem dX8_between_1 : decode cX8_between 1 = .ok (.invokestatic 150, 3) := by decide +kernel
theorem dX8_between_4 : decode cX8_between 4 = .ok (.ifCond .eq 10, 3) := by decide +kernel
theorem dX8_between_7 : decode cX8_between 7 = .ok (.iload_n 2, 1) := by decide +kernel
theorem dX8_between_8 : decode cX8_between 8 = .ok (.invokestatic 150, 3) := by decide +kernel
theorem dX8_between_11 : decode cX8_between 11 = .ok (.ifCond .ne 6, 3) := by decide +kernel
theorem dX8_between_14 : decode cX8_between 14 = .ok (.ldc 153, 2) := by decide +kernel
theorem dX8_between_16 : decode cX8_between 16 = .ok (.ireturn, 1) := by decide +kernel
theorem dX8_between_17 : decode cX8_between 17 = .ok (.iload_n 3, 1) := by decide +kernel
theorem dX8_between_18 : decode cX8_between 18 = .ok (.i2l, 1) := by decide +kernel
theorem dX8_between_19 : decode cX8_between 19 = .ok (.lconst 0, 1) := by decide +kernel
theorem dX8_between_20 : decode cX8_between 20 = .ok (.lconst 1, 1) := by decide +kernel
theorem dX8_between_21 : decode cX8_between 21 = .ok (.invokestatic 130, 3) := by decide +kernel
theorem dX8_between_24 : decode cX8_between 24 = .ok (.ifCond .ne 6, 3) := by decide +kernel
theorem dX8_between_27 : decode cX8_between 27 = .ok (.ldc 164, 2) := by decide +kernel
theorem dX8_between_29 : decode cX8_between 29 = .ok (.ireturn, 1) := by decide +kernel
theorem dX8_between_30 : decode cX8_between 30 = .ok (.aload_n 0, 1) := by decide +kernel
theorem dX8_between_31 : decode cX8_between 31 = .ok (.aload_n 0, 1) := by decide +kernel
theorem dX8_between_32 : decode cX8_between 32 = .ok (.getfield 136, 3) := by decide +kernel
theorem dX8_between_35 : decode cX8_between 35 = .ok (.invokevirtual 335, 3) := by decide +kernel
theorem dX8_between_38 : decode cX8_between 38 = .ok (.ifCond .ne 7, 3) := by decide +kernel
theorem dX8_between_41 : decode cX8_between 41 = .ok (.ldc_w 357, 3) := by decide +kernel
theorem dX8_between_44 : decode cX8_between 44 = .ok (.ireturn, 1) := by decide +kernel
theorem dX8_between_45 : decode cX8_between 45 = .ok (.aload_n 0, 1) := by decide +kernel
theorem dX8_between_46 : decode cX8_between 46 = .ok (.getfield 90, 3) := by decide +kernel
theorem dX8_between_49 : decode cX8_between 49 = .ok (.iconst 1, 1) := by decide +kernel
theorem dX8_between_50 : decode cX8_between 50 = .ok (.iload_n 1, 1) := by decide +kernel
theorem dX8_between_51 : decode cX8_between 51 = .ok (.iadd, 1) := by decide +kernel
theorem dX8_between_52 : decode cX8_between 52 = .ok (.iconst 1, 1) := by decide +kernel
theorem dX8_between_53 : decode cX8_between 53 = .ok (.iload_n 2, 1) := by decide +kernel
theorem dX8_between_54 : decode cX8_between 54 = .ok (.iadd, 1) := by decide +kernel
theorem dX8_between_55 : decode cX8_between 55 = .ok (.invokestatic 305, 3) := by decide +kernel
theorem dX8_between_58 : decode cX8_between 58 = .ok (.laload, 1) := by decide +kernel
theorem dX8_between_59 : decode cX8_between 59 = .ok (.lstore 4, 2) := by decide +kernel
theorem dX8_between_61 : decode cX8_between 61 = .ok (.aload_n 0, 1) := by decide +kernel
theorem dX8_between_62 : decode cX8_between 62 = .ok (.getfield 90, 3) := by decide +kernel
theorem dX8_between_65 : decode cX8_between 65 = .ok (.iconst 1, 1) := by decide +kernel
theorem dX8_between_66 : decode cX8_between 66 = .ok (.iload_n 2, 1) := by decide +kernel
theorem dX8_between_67 : decode cX8_between 67 = .ok (.iadd, 1) := by decide +kernel
theorem dX8_between_68 : decode cX8_between 68 = .ok (.iconst 1, 1) := by decide +kernel
theorem dX8_between_69 : decode cX8_between 69 = .ok (.iload_n 1, 1) := by decide +kernel
theorem dX8_between_70 : decode cX8_between 70 = .ok (.iadd, 1) := by decide +kernel
theorem dX8_between_71 : decode cX8_between 71 = .ok (.invokestatic 305, 3) := by decide +kernel
theorem dX8_between_74 : decode cX8_between 74 = .ok (.laload, 1) := by decide +kernel
theorem dX8_between_75 : decode cX8_between 75 = .ok (.lstore 6, 2) := by decide +kernel
theorem dX8_between_77 : decode cX8_between 77 = .ok (.lload 4, 2) := by decide +kernel
theorem dX8_between_79 : decode cX8_between 79 = .ok (.ldc2_w 303, 3) := by decide +kernel
theorem dX8_between_82 : decode cX8_between 82 = .ok (.lcmp, 1) := by decide +kernel
theorem dX8_between_83 : decode cX8_between 83 = .ok (.ifCond .lt 9, 3) := by decide +kernel
theorem dX8_between_86 : decode cX8_between 86 = .ok (.ldc_w 361, 3) := by decide +kernel
theorem dX8_between_89 : decode cX8_between 89 = .ok (.goto 17, 3) := by decide +kernel
theorem dX8_between_92 : decode cX8_between 92 = .ok (.iload_n 3, 1) := by decide +kernel
theorem dX8_between_93 : decode cX8_between 93 = .ok (.ifCond .ne 10, 3) := by decide +kernel
theorem dX8_between_96 : decode cX8_between 96 = .ok (.lconst 0, 1) := by decide +kernel
theorem dX8_between_97 : decode cX8_between 97 = .ok (.lload 6, 2) := by decide +kernel
theorem dX8_between_99 : decode cX8_between 99 = .ok (.lsub, 1) := by decide +kernel
theorem dX8_between_100 : decode cX8_between 100 = .ok (.goto 5, 3) := by decide +kernel
theorem dX8_between_103 : decode cX8_between 103 = .ok (.lload 4, 2) := by decide +kernel
theorem dX8_between_105 : decode cX8_between 105 = .ok (.l2i, 1) := by decide +kernel
theorem dX8_between_106 : decode cX8_between 106 = .ok (.ireturn, 1) := by decide +kernel
theorem dX8_widening_0 : decode cX8_widening 0 = .ok (.aload_n 0, 1) := by decide +kernel
theorem dX8_widening_1 : decode cX8_widening 1 = .ok (.iload_n 1, 1) := by decide +kernel
theorem dX8_widening_2 : decode cX8_widening 2 = .ok (.invokevirtual 351, 3) := by decide +kernel
theorem dX8_widening_5 : decode cX8_widening 5 = .ok (.ifCond .ne 6, 3) := by decide +kernel
theorem dX8_widening_8 : decode cX8_widening 8 = .ok (.ldc 164, 2) := by decide +kernel
theorem dX8_widening_10 : decode cX8_widening 10 = .ok (.ireturn, 1) := by decide +kernel
theorem dX8_widening_11 : decode cX8_widening 11 = .ok (.ldc2_w 177, 3) := by decide +kernel
theorem dX8_widening_14 : decode cX8_widening 14 = .ok (.lstore_n 2, 1) := by decide +kernel
theorem dX8_widening_15 : decode cX8_widening 15 = .ok (.ldc2_w 368, 3) := by decide +kernel
theorem dX8_widening_18 : decode cX8_widening 18 = .ok (.lstore 4, 2) := by decide +kernel
theorem dX8_widening_20 : decode cX8_widening 20 = .ok (.lload 4, 2) := by decide +kernel
theorem dX8_widening_22 : decode cX8_widening 22 = .ok (.lload_n 2, 1) := by decide +kernel
theorem dX8_widening_23 : decode cX8_widening 23 = .ok (.lsub, 1) := by decide +kernel
theorem dX8_widening_24 : decode cX8_widening 24 = .ok (.lconst 1, 1) := by decide +kernel
theorem dX8_widening_25 : decode cX8_widening 25 = .ok (.lcmp, 1) := by decide +kernel
theorem dX8_widening_26 : decode cX8_widening 26 = .ok (.ifCond .le 44, 3) := by decide +kernel
theorem dX8_widening_29 : decode cX8_widening 29 = .ok (.aload_n 0, 1) := by decide +kernel
theorem dX8_widening_30 : decode cX8_widening 30 = .ok (.lload_n 2, 1) := by decide +kernel
theorem dX8_widening_31 : decode cX8_widening 31 = .ok (.lload 4, 2) := by decide +kernel
theorem dX8_widening_33 : decode cX8_widening 33 = .ok (.ladd, 1) := by decide +kernel
theorem dX8_widening_34 : decode cX8_widening 34 = .ok (.ldc2_w 370, 3) := by decide +kernel
theorem dX8_widening_37 : decode cX8_widening 37 = .ok (.ldiv, 1) := by decide +kernel
theorem dX8_widening_38 : decode cX8_widening 38 = .ok (.putfield 323, 3) := by decide +kernel
theorem dX8_widening_41 : decode cX8_widening 41 = .ok (.aload_n 0, 1) := by decide +kernel
theorem dX8_widening_42 : decode cX8_widening 42 = .ok (.aload_n 0, 1) := by decide +kernel
theorem dX8_widening_43 : decode cX8_widening 43 = .ok (.iload_n 1, 1) := by decide +kernel
theorem dX8_widening_44 : decode cX8_widening 44 = .ok (.invokevirtual 354, 3) := by decide +kernel
theorem dX8_widening_47 : decode cX8_widening 47 = .ok (.invokevirtual 335, 3) := by decide +kernel
theorem dX8_widening_50 : decode cX8_widening 50 = .ok (.ifCond .eq 12, 3) := by decide +kernel
theorem dX8_widening_53 : decode cX8_widening 53 = .ok (.aload_n 0, 1) := by decide +kernel
theorem dX8_widening_54 : decode cX8_widening 54 = .ok (.getfield 323, 3) := by decide +kernel
theorem dX8_widening_57 : decode cX8_widening 57 = .ok (.lstore 4, 2) := by decide +kernel
theorem dX8_widening_59 : decode cX8_widening 59 = .ok (.goto (-39), 3) := by decide +kernel
theorem dX8_widening_62 : decode cX8_widening 62 = .ok (.aload_n 0, 1) := by decide +kernel
theorem dX8_widening_63 : decode cX8_widening 63 = .ok (.getfield 323, 3) := by decide +kernel
theorem dX8_widening_66 : decode cX8_widening 66 = .ok (.lstore_n 2, 1) := by decide +kernel
theorem dX8_widening_67 : decode cX8_widening 67 = .ok (.goto (-47), 3) := by decide +kernel
theorem dX8_widening_70 : decode cX8_widening 70 = .ok (.aload_n 0, 1) := by decide +kernel
theorem dX8_widening_71 : decode cX8_widening 71 = .ok (.invokevirtual 372, 3) := by decide +kernel
theorem dX8_widening_74 : decode cX8_widening 74 = .ok (.lload 4, 2) := by decide +kernel
theorem dX8_widening_76 : decode cX8_widening 76 = .ok (.l2i, 1) := by decide +kernel
theorem dX8_widening_77 : decode cX8_widening 77 = .ok (.ireturn, 1) := by decide +kernel
theorem dX8_blame_0 : decode cX8_blame 0 = .ok (.aload_n 0, 1) := by decide +kernel
theorem dX8_blame_1 : decode cX8_blame 1 = .ok (.aload_n 0, 1) := by decide +kernel
theorem dX8_blame_2 : decode cX8_blame 2 = .ok (.getfield 136, 3) := by decide +kernel
theorem dX8_blame_5 : decode cX8_blame 5 = .ok (.invokevirtual 335, 3) := by decide +kernel
theorem dX8_blame_8 : decode cX8_blame 8 = .ok (.ifCond .eq 6, 3) := by decide +kernel
theorem dX8_blame_11 : decode cX8_blame 11 = .ok (.ldc 188, 2) := by decide +kernel
theorem dX8_blame_13 : decode cX8_blame 13 = .ok (.ireturn, 1) := by decide +kernel
theorem dX8_blame_14 : decode cX8_blame 14 = .ok (.iconst 0, 1) := by decide +kernel
theorem dX8_blame_15 : decode cX8_blame 15 = .ok (.istore_n 1, 1) := by decide +kernel
theorem dX8_blame_16 : decode cX8_blame 16 = .ok (.iconst 0, 1) := by decide +kernel
theorem dX8_blame_17 : decode cX8_blame 17 = .ok (.istore_n 2, 1) := by decide +kernel
theorem dX8_blame_18 : decode cX8_blame 18 = .ok (.iload_n 2, 1) := by decide +kernel
theorem dX8_blame_19 : decode cX8_blame 19 = .ok (.bipush 6, 2) := by decide +kernel
theorem dX8_blame_21 : decode cX8_blame 21 = .ok (.if_icmp .ge 30, 3) := by decide +kernel
theorem dX8_blame_24 : decode cX8_blame 24 = .ok (.aload_n 0, 1) := by decide +kernel
theorem dX8_blame_25 : decode cX8_blame 25 = .ok (.iload_n 2, 1) := by decide +kernel
theorem dX8_blame_26 : decode cX8_blame 26 = .ok (.putfield 100, 3) := by decide +kernel
theorem dX8_blame_29 : decode cX8_blame 29 = .ok (.iload_n 1, 1) := by decide +kernel
theorem dX8_blame_30 : decode cX8_blame 30 = .ok (.aload_n 0, 1) := by decide +kernel
theorem dX8_blame_31 : decode cX8_blame 31 = .ok (.aload_n 0, 1) := by decide +kernel
theorem dX8_blame_32 : decode cX8_blame 32 = .ok (.getfield 136, 3) := by decide +kernel
theorem dX8_blame_35 : decode cX8_blame 35 = .ok (.invokevirtual 335, 3) := by decide +kernel
theorem dX8_blame_38 : decode cX8_blame 38 = .ok (.invokestatic 184, 3) := by decide +kernel
theorem dX8_blame_41 : decode cX8_blame 41 = .ok (.iload_n 2, 1) := by decide +kernel
theorem dX8_blame_42 : decode cX8_blame 42 = .ok (.ishl, 1) := by decide +kernel
theorem dX8_blame_43 : decode cX8_blame 43 = .ok (.ior, 1) := by decide +kernel
theorem dX8_blame_44 : decode cX8_blame 44 = .ok (.istore_n 1, 1) := by decide +kernel
theorem dX8_blame_45 : decode cX8_blame 45 = .ok (.iinc 2 1, 3) := by decide +kernel
theorem dX8_blame_48 : decode cX8_blame 48 = .ok (.goto (-30), 3) := by decide +kernel
theorem dX8_blame_51 : decode cX8_blame 51 = .ok (.aload_n 0, 1) := by decide +kernel
theorem dX8_blame_52 : decode cX8_blame 52 = .ok (.invokevirtual 372, 3) := by decide +kernel
theorem dX8_blame_55 : decode cX8_blame 55 = .ok (.iload_n 1, 1) := by decide +kernel
theorem dX8_blame_56 : decode cX8_blame 56 = .ok (.ireturn, 1) := by decide +kernel
theorem dX8_raise_0 : decode cX8_raise 0 = .ok (.aload_n 0, 1) := by decide +kernel
theorem dX8_raise_1 : decode cX8_raise 1 = .ok (.getfield 103, 3) := by decide +kernel
theorem dX8_raise_4 : decode cX8_raise 4 = .ok (.iload_n 2, 1) := by decide +kernel
theorem dX8_raise_5 : decode cX8_raise 5 = .ok (.laload, 1) := by decide +kernel
theorem dX8_raise_6 : decode cX8_raise 6 = .ok (.lload 4, 2) := by decide +kernel
theorem dX8_raise_8 : decode cX8_raise 8 = .ok (.ladd, 1) := by decide +kernel
theorem dX8_raise_9 : decode cX8_raise 9 = .ok (.aload_n 0, 1) := by decide +kernel
theorem dX8_raise_10 : decode cX8_raise 10 = .ok (.getfield 103, 3) := by decide +kernel
theorem dX8_raise_13 : decode cX8_raise 13 = .ok (.iload_n 3, 1) := by decide +kernel
theorem dX8_raise_14 : decode cX8_raise 14 = .ok (.laload, 1) := by decide +kernel
theorem dX8_raise_15 : decode cX8_raise 15 = .ok (.lcmp, 1) := by decide +kernel
theorem dX8_raise_16 : decode cX8_raise 16 = .ok (.ifCond .ge 34, 3) := by decide +kernel
theorem dX8_raise_19 : decode cX8_raise 19 = .ok (.aload_n 0, 1) := by decide +kernel
theorem dX8_raise_20 : decode cX8_raise 20 = .ok (.getfield 103, 3) := by decide +kernel
theorem dX8_raise_23 : decode cX8_raise 23 = .ok (.iload_n 3, 1) := by decide +kernel
theorem dX8_raise_24 : decode cX8_raise 24 = .ok (.aload_n 0, 1) := by decide +kernel
theorem dX8_raise_25 : decode cX8_raise 25 = .ok (.getfield 103, 3) := by decide +kernel
theorem dX8_raise_28 : decode cX8_raise 28 = .ok (.iload_n 2, 1) := by decide +kernel
theorem dX8_raise_29 : decode cX8_raise 29 = .ok (.laload, 1) := by decide +kernel
theorem dX8_raise_30 : decode cX8_raise 30 = .ok (.lload 4, 2) := by decide +kernel
theorem dX8_raise_32 : decode cX8_raise 32 = .ok (.ladd, 1) := by decide +kernel
theorem dX8_raise_33 : decode cX8_raise 33 = .ok (.lastore, 1) := by decide +kernel
theorem dX8_raise_34 : decode cX8_raise 34 = .ok (.aload_n 0, 1) := by decide +kernel
theorem dX8_raise_35 : decode cX8_raise 35 = .ok (.getfield 106, 3) := by decide +kernel
theorem dX8_raise_38 : decode cX8_raise 38 = .ok (.iload_n 3, 1) := by decide +kernel
theorem dX8_raise_39 : decode cX8_raise 39 = .ok (.iload_n 1, 1) := by decide +kernel
theorem dX8_raise_40 : decode cX8_raise 40 = .ok (.iastore, 1) := by decide +kernel
theorem dX8_raise_41 : decode cX8_raise 41 = .ok (.aload_n 0, 1) := by decide +kernel
theorem dX8_raise_42 : decode cX8_raise 42 = .ok (.getfield 109, 3) := by decide +kernel
theorem dX8_raise_45 : decode cX8_raise 45 = .ok (.iload_n 3, 1) := by decide +kernel
theorem dX8_raise_46 : decode cX8_raise 46 = .ok (.iload_n 2, 1) := by decide +kernel
theorem dX8_raise_47 : decode cX8_raise 47 = .ok (.iastore, 1) := by decide +kernel
theorem dX8_raise_48 : decode cX8_raise 48 = .ok (.iconst 1, 1) := by decide +kernel
theorem dX8_raise_49 : decode cX8_raise 49 = .ok (.ireturn, 1) := by decide +kernel
theorem dX8_raise_50 : decode cX8_raise 50 = .ok (.iconst 0, 1) := by decide +kernel
theorem dX8_raise_51 : decode cX8_raise 51 = .ok (.ireturn, 1) := by decide +kernel
theorem dX8_findRound_0 : decode cX8_findRound 0 = .ok (.iconst 0, 1) := by decide +kernel
theorem dX8_findRound_1 : decode cX8_findRound 1 = .ok (.istore_n 2, 1) := by decide +kernel
theorem dX8_findRound_2 : decode cX8_findRound 2 = .ok (.iload_n 2, 1) := by decide +kernel
theorem dX8_findRound_3 : decode cX8_findRound 3 = .ok (.bipush 17, 2) := by decide +kernel
theorem dX8_findRound_5 : decode cX8_findRound 5 = .ok (.if_icmp .ge 30, 3) := by decide +kernel
theorem dX8_findRound_8 : decode cX8_findRound 8 = .ok (.aload_n 0, 1) := by decide +kernel
theorem dX8_findRound_9 : decode cX8_findRound 9 = .ok (.getfield 103, 3) := by decide +kernel
theorem dX8_findRound_12 : decode cX8_findRound 12 = .ok (.iload_n 2, 1) := by decide +kernel
theorem dX8_findRound_13 : decode cX8_findRound 13 = .ok (.lconst 0, 1) := by decide +kernel
theorem dX8_findRound_14 : decode cX8_findRound 14 = .ok (.lastore, 1) := by decide +kernel
theorem dX8_findRound_15 : decode cX8_findRound 15 = .ok (.aload_n 0, 1) := by decide +kernel
theorem dX8_findRound_16 : decode cX8_findRound 16 = .ok (.getfield 106, 3) := by decide +kernel
theorem dX8_findRound_19 : decode cX8_findRound 19 = .ok (.iload_n 2, 1) := by decide +kernel
theorem dX8_findRound_20 : decode cX8_findRound 20 = .ok (.iconst (-1), 1) := by decide +kernel
theorem dX8_findRound_21 : decode cX8_findRound 21 = .ok (.iastore, 1) := by decide +kernel
theorem dX8_findRound_22 : decode cX8_findRound 22 = .ok (.aload_n 0, 1) := by decide +kernel
theorem dX8_findRound_23 : decode cX8_findRound 23 = .ok (.getfield 109, 3) := by decide +kernel
theorem dX8_findRound_26 : decode cX8_findRound 26 = .ok (.iload_n 2, 1) := by decide +kernel
theorem dX8_findRound_27 : decode cX8_findRound 27 = .ok (.iconst (-1), 1) := by decide +kernel
theorem dX8_findRound_28 : decode cX8_findRound 28 = .ok (.iastore, 1) := by decide +kernel
theorem dX8_findRound_29 : decode cX8_findRound 29 = .ok (.iinc 2 1, 3) := by decide +kernel
theorem dX8_findRound_32 : decode cX8_findRound 32 = .ok (.goto (-30), 3) := by decide +kernel
theorem dX8_findRound_35 : decode cX8_findRound 35 = .ok (.iconst (-1), 1) := by decide +kernel
theorem dX8_findRound_36 : decode cX8_findRound 36 = .ok (.istore_n 2, 1) := by decide +kernel
theorem dX8_findRound_37 : decode cX8_findRound 37 = .ok (.iconst 0, 1) := by decide +kernel
theorem dX8_findRound_38 : decode cX8_findRound 38 = .ok (.istore_n 3, 1) := by decide +kernel
theorem dX8_findRound_39 : decode cX8_findRound 39 = .ok (.iload_n 3, 1) := by decide +kernel
theorem dX8_findRound_40 : decode cX8_findRound 40 = .ok (.bipush 17, 2) := by decide +kernel
theorem dX8_findRound_42 : decode cX8_findRound 42 = .ok (.if_icmp .gt 120, 3) := by decide +kernel
theorem dX8_findRound_45 : decode cX8_findRound 45 = .ok (.iconst (-1), 1) := by decide +kernel
theorem dX8_findRound_46 : decode cX8_findRound 46 = .ok (.istore_n 2, 1) := by decide +kernel
theorem dX8_findRound_47 : decode cX8_findRound 47 = .ok (.iconst 0, 1) := by decide +kernel
theorem dX8_findRound_48 : decode cX8_findRound 48 = .ok (.istore 4, 2) := by decide +kernel
theorem dX8_findRound_50 : decode cX8_findRound 50 = .ok (.iload 4, 2) := by decide +kernel
theorem dX8_findRound_52 : decode cX8_findRound 52 = .ok (.aload_n 0, 1) := by decide +kernel
theorem dX8_findRound_53 : decode cX8_findRound 53 = .ok (.getfield 136, 3) := by decide +kernel
theorem dX8_findRound_56 : decode cX8_findRound 56 = .ok (.if_icmp .ge 100, 3) := by decide +kernel
theorem dX8_findRound_59 : decode cX8_findRound 59 = .ok (.aload_n 0, 1) := by decide +kernel
theorem dX8_findRound_60 : decode cX8_findRound 60 = .ok (.iload 4, 2) := by decide +kernel
theorem dX8_findRound_62 : decode cX8_findRound 62 = .ok (.aload_n 0, 1) := by decide +kernel
theorem dX8_findRound_63 : decode cX8_findRound 63 = .ok (.getfield 136, 3) := by decide +kernel
theorem dX8_findRound_66 : decode cX8_findRound 66 = .ok (.invokevirtual 309, 3) := by decide +kernel
theorem dX8_findRound_69 : decode cX8_findRound 69 = .ok (.ifCond .eq 81, 3) := by decide +kernel
theorem dX8_findRound_72 : decode cX8_findRound 72 = .ok (.aload_n 0, 1) := by decide +kernel
theorem dX8_findRound_73 : decode cX8_findRound 73 = .ok (.iload 4, 2) := by decide +kernel
theorem dX8_findRound_75 : decode cX8_findRound 75 = .ok (.aload_n 0, 1) := by decide +kernel
theorem dX8_findRound_76 : decode cX8_findRound 76 = .ok (.iload 4, 2) := by decide +kernel
theorem dX8_findRound_78 : decode cX8_findRound 78 = .ok (.invokevirtual 312, 3) := by decide +kernel
theorem dX8_findRound_81 : decode cX8_findRound 81 = .ok (.aload_n 0, 1) := by decide +kernel
theorem dX8_findRound_82 : decode cX8_findRound 82 = .ok (.iload 4, 2) := by decide +kernel
theorem dX8_findRound_84 : decode cX8_findRound 84 = .ok (.invokevirtual 316, 3) := by decide +kernel
theorem dX8_findRound_87 : decode cX8_findRound 87 = .ok (.aload_n 0, 1) := by decide +kernel
theorem dX8_findRound_88 : decode cX8_findRound 88 = .ok (.iload 4, 2) := by decide +kernel
theorem dX8_findRound_90 : decode cX8_findRound 90 = .ok (.invokevirtual 319, 3) := by decide +kernel
theorem dX8_findRound_93 : decode cX8_findRound 93 = .ok (.invokevirtual 375, 3) := by decide +kernel
theorem dX8_findRound_96 : decode cX8_findRound 96 = .ok (.ifCond .eq 12, 3) := by decide +kernel
theorem dX8_findRound_99 : decode cX8_findRound 99 = .ok (.aload_n 0, 1) := by decide +kernel
theorem dX8_findRound_100 : decode cX8_findRound 100 = .ok (.iload 4, 2) := by decide +kernel
theorem dX8_findRound_102 : decode cX8_findRound 102 = .ok (.invokevirtual 316, 3) := by decide +kernel
theorem dX8_findRound_105 : decode cX8_findRound 105 = .ok (.goto 4, 3) := by decide +kernel
theorem dX8_findRound_108 : decode cX8_findRound 108 = .ok (.iload_n 2, 1) := by decide +kernel
theorem dX8_findRound_109 : decode cX8_findRound 109 = .ok (.istore_n 2, 1) := by decide +kernel
theorem dX8_findRound_110 : decode cX8_findRound 110 = .ok (.aload_n 0, 1) := by decide +kernel
theorem dX8_findRound_111 : decode cX8_findRound 111 = .ok (.iload 4, 2) := by decide +kernel
theorem dX8_findRound_113 : decode cX8_findRound 113 = .ok (.aload_n 0, 1) := by decide +kernel
theorem dX8_findRound_114 : decode cX8_findRound 114 = .ok (.iload 4, 2) := by decide +kernel
theorem dX8_findRound_116 : decode cX8_findRound 116 = .ok (.invokevirtual 316, 3) := by decide +kernel
theorem dX8_findRound_119 : decode cX8_findRound 119 = .ok (.aload_n 0, 1) := by decide +kernel
theorem dX8_findRound_120 : decode cX8_findRound 120 = .ok (.iload 4, 2) := by decide +kernel
theorem dX8_findRound_122 : decode cX8_findRound 122 = .ok (.invokevirtual 312, 3) := by decide +kernel
theorem dX8_findRound_125 : decode cX8_findRound 125 = .ok (.lconst 0, 1) := by decide +kernel
theorem dX8_findRound_126 : decode cX8_findRound 126 = .ok (.aload_n 0, 1) := by decide +kernel
theorem dX8_findRound_127 : decode cX8_findRound 127 = .ok (.iload 4, 2) := by decide +kernel
theorem dX8_findRound_129 : decode cX8_findRound 129 = .ok (.invokevirtual 327, 3) := by decide +kernel
theorem dX8_findRound_132 : decode cX8_findRound 132 = .ok (.lsub, 1) := by decide +kernel
theorem dX8_findRound_133 : decode cX8_findRound 133 = .ok (.invokevirtual 375, 3) := by decide +kernel
theorem dX8_findRound_136 : decode cX8_findRound 136 = .ok (.ifCond .eq 12, 3) := by decide +kernel
theorem dX8_findRound_139 : decode cX8_findRound 139 = .ok (.aload_n 0, 1) := by decide +kernel
theorem dX8_findRound_140 : decode cX8_findRound 140 = .ok (.iload 4, 2) := by decide +kernel
theorem dX8_findRound_142 : decode cX8_findRound 142 = .ok (.invokevirtual 312, 3) := by decide +kernel
theorem dX8_findRound_145 : decode cX8_findRound 145 = .ok (.goto 4, 3) := by decide +kernel
theorem dX8_findRound_148 : decode cX8_findRound 148 = .ok (.iload_n 2, 1) := by decide +kernel
theorem dX8_findRound_149 : decode cX8_findRound 149 = .ok (.istore_n 2, 1) := by decide +kernel
theorem dX8_findRound_150 : decode cX8_findRound 150 = .ok (.iinc 4 1, 3) := by decide +kernel
theorem dX8_findRound_153 : decode cX8_findRound 153 = .ok (.goto (-103), 3) := by decide +kernel
theorem dX8_findRound_156 : decode cX8_findRound 156 = .ok (.iinc 3 1, 3) := by decide +kernel
theorem dX8_findRound_159 : decode cX8_findRound 159 = .ok (.goto (-120), 3) := by decide +kernel
theorem dX8_findRound_162 : decode cX8_findRound 162 = .ok (.aload_n 0, 1) := by decide +kernel
theorem dX8_findRound_163 : decode cX8_findRound 163 = .ok (.getfield 115, 3) := by decide +kernel
theorem dX8_findRound_166 : decode cX8_findRound 166 = .ok (.iload_n 1, 1) := by decide +kernel
theorem dX8_findRound_167 : decode cX8_findRound 167 = .ok (.iconst 0, 1) := by decide +kernel
theorem dX8_findRound_168 : decode cX8_findRound 168 = .ok (.iastore, 1) := by decide +kernel
theorem dX8_findRound_169 : decode cX8_findRound 169 = .ok (.iload_n 2, 1) := by decide +kernel
theorem dX8_findRound_170 : decode cX8_findRound 170 = .ok (.ifCond .ge 5, 3) := by decide +kernel
theorem dX8_findRound_173 : decode cX8_findRound 173 = .ok (.iconst 0, 1) := by decide +kernel
theorem dX8_findRound_174 : decode cX8_findRound 174 = .ok (.ireturn, 1) := by decide +kernel
theorem dX8_findRound_175 : decode cX8_findRound 175 = .ok (.iload_n 2, 1) := by decide +kernel
theorem dX8_findRound_176 : decode cX8_findRound 176 = .ok (.istore_n 3, 1) := by decide +kernel
theorem dX8_findRound_177 : decode cX8_findRound 177 = .ok (.iconst 0, 1) := by decide +kernel
theorem dX8_findRound_178 : decode cX8_findRound 178 = .ok (.istore 4, 2) := by decide +kernel
theorem dX8_findRound_180 : decode cX8_findRound 180 = .ok (.iload 4, 2) := by decide +kernel
theorem dX8_findRound_182 : decode cX8_findRound 182 = .ok (.bipush 17, 2) := by decide +kernel
theorem dX8_findRound_184 : decode cX8_findRound 184 = .ok (.if_icmp .ge 16, 3) := by decide +kernel
theorem dX8_findRound_187 : decode cX8_findRound 187 = .ok (.aload_n 0, 1) := by decide +kernel
theorem dX8_findRound_188 : decode cX8_findRound 188 = .ok (.getfield 109, 3) := by decide +kernel
theorem dX8_findRound_191 : decode cX8_findRound 191 = .ok (.iload_n 3, 1) := by decide +kernel
theorem dX8_findRound_192 : decode cX8_findRound 192 = .ok (.iaload, 1) := by decide +kernel
theorem dX8_findRound_193 : decode cX8_findRound 193 = .ok (.istore_n 3, 1) := by decide +kernel
theorem dX8_findRound_194 : decode cX8_findRound 194 = .ok (.iinc 4 1, 3) := by decide +kernel
theorem dX8_findRound_197 : decode cX8_findRound 197 = .ok (.goto (-17), 3) := by decide +kernel
theorem dX8_findRound_200 : decode cX8_findRound 200 = .ok (.iload_n 3, 1) := by decide +kernel
theorem dX8_findRound_201 : decode cX8_findRound 201 = .ok (.istore 4, 2) := by decide +kernel
theorem dX8_findRound_203 : decode cX8_findRound 203 = .ok (.iconst 1, 1) := by decide +kernel
theorem dX8_findRound_204 : decode cX8_findRound 204 = .ok (.istore 5, 2) := by decide +kernel
theorem dX8_findRound_206 : decode cX8_findRound 206 = .ok (.iload 5, 2) := by decide +kernel
theorem dX8_findRound_208 : decode cX8_findRound 208 = .ok (.ifCond .eq 58, 3) := by decide +kernel
theorem dX8_findRound_211 : decode cX8_findRound 211 = .ok (.aload_n 0, 1) := by decide +kernel
theorem dX8_findRound_212 : decode cX8_findRound 212 = .ok (.getfield 112, 3) := by decide +kernel
theorem dX8_findRound_215 : decode cX8_findRound 215 = .ok (.bipush 17, 2) := by decide +kernel
theorem dX8_findRound_217 : decode cX8_findRound 217 = .ok (.iload_n 1, 1) := by decide +kernel
theorem dX8_findRound_218 : decode cX8_findRound 218 = .ok (.imul, 1) := by decide +kernel
theorem dX8_findRound_219 : decode cX8_findRound 219 = .ok (.aload_n 0, 1) := by decide +kernel
theorem dX8_findRound_220 : decode cX8_findRound 220 = .ok (.getfield 115, 3) := by decide +kernel
theorem dX8_findRound_223 : decode cX8_findRound 223 = .ok (.iload_n 1, 1) := by decide +kernel
theorem dX8_findRound_224 : decode cX8_findRound 224 = .ok (.iaload, 1) := by decide +kernel
theorem dX8_findRound_225 : decode cX8_findRound 225 = .ok (.iadd, 1) := by decide +kernel
theorem dX8_findRound_226 : decode cX8_findRound 226 = .ok (.aload_n 0, 1) := by decide +kernel
theorem dX8_findRound_227 : decode cX8_findRound 227 = .ok (.getfield 106, 3) := by decide +kernel
theorem dX8_findRound_230 : decode cX8_findRound 230 = .ok (.iload_n 3, 1) := by decide +kernel
theorem dX8_findRound_231 : decode cX8_findRound 231 = .ok (.iaload, 1) := by decide +kernel
theorem dX8_findRound_232 : decode cX8_findRound 232 = .ok (.iastore, 1) := by decide +kernel
theorem dX8_findRound_233 : decode cX8_findRound 233 = .ok (.aload_n 0, 1) := by decide +kernel
theorem dX8_findRound_234 : decode cX8_findRound 234 = .ok (.getfield 115, 3) := by decide +kernel
theorem dX8_findRound_237 : decode cX8_findRound 237 = .ok (.iload_n 1, 1) := by decide +kernel
theorem dX8_findRound_238 : decode cX8_findRound 238 = .ok (.dup2, 1) := by decide +kernel
theorem dX8_findRound_239 : decode cX8_findRound 239 = .ok (.iaload, 1) := by decide +kernel
theorem dX8_findRound_240 : decode cX8_findRound 240 = .ok (.iconst 1, 1) := by decide +kernel
theorem dX8_findRound_241 : decode cX8_findRound 241 = .ok (.iadd, 1) := by decide +kernel
theorem dX8_findRound_242 : decode cX8_findRound 242 = .ok (.iastore, 1) := by decide +kernel
theorem dX8_findRound_243 : decode cX8_findRound 243 = .ok (.aload_n 0, 1) := by decide +kernel
theorem dX8_findRound_244 : decode cX8_findRound 244 = .ok (.getfield 109, 3) := by decide +kernel
theorem dX8_findRound_247 : decode cX8_findRound 247 = .ok (.iload_n 3, 1) := by decide +kernel
theorem dX8_findRound_248 : decode cX8_findRound 248 = .ok (.iaload, 1) := by decide +kernel
theorem dX8_findRound_249 : decode cX8_findRound 249 = .ok (.istore_n 3, 1) := by decide +kernel
theorem dX8_findRound_250 : decode cX8_findRound 250 = .ok (.iload_n 3, 1) := by decide +kernel
theorem dX8_findRound_251 : decode cX8_findRound 251 = .ok (.iload 4, 2) := by decide +kernel
theorem dX8_findRound_253 : decode cX8_findRound 253 = .ok (.if_icmp .eq 7, 3) := by decide +kernel
theorem dX8_findRound_256 : decode cX8_findRound 256 = .ok (.iconst 1, 1) := by decide +kernel
theorem dX8_findRound_257 : decode cX8_findRound 257 = .ok (.goto 4, 3) := by decide +kernel
theorem dX8_findRound_260 : decode cX8_findRound 260 = .ok (.iconst 0, 1) := by decide +kernel
theorem dX8_findRound_261 : decode cX8_findRound 261 = .ok (.istore 5, 2) := by decide +kernel
theorem dX8_findRound_263 : decode cX8_findRound 263 = .ok (.goto (-57), 3) := by decide +kernel
theorem dX8_findRound_266 : decode cX8_findRound 266 = .ok (.iconst 1, 1) := by decide +kernel
theorem dX8_findRound_267 : decode cX8_findRound 267 = .ok (.ireturn, 1) := by decide +kernel
theorem dX8_note_0 : decode cX8_note 0 = .ok (.iload_n 1, 1) := by decide +kernel
theorem dX8_note_1 : decode cX8_note 1 = .ok (.iconst 1, 1) := by decide +kernel
theorem dX8_note_2 : decode cX8_note 2 = .ok (.if_icmp .ne 7, 3) := by decide +kernel
theorem dX8_note_5 : decode cX8_note 5 = .ok (.iload_n 2, 1) := by decide +kernel
theorem dX8_note_6 : decode cX8_note 6 = .ok (.goto 23, 3) := by decide +kernel
theorem dX8_note_9 : decode cX8_note 9 = .ok (.iload_n 2, 1) := by decide +kernel
theorem dX8_note_10 : decode cX8_note 10 = .ok (.iload_n 3, 1) := by decide +kernel
theorem dX8_note_11 : decode cX8_note 11 = .ok (.if_icmp .ge 12, 3) := by decide +kernel
theorem dX8_note_14 : decode cX8_note 14 = .ok (.bipush 100, 2) := by decide +kernel
theorem dX8_note_16 : decode cX8_note 16 = .ok (.iload_n 2, 1) := by decide +kernel
theorem dX8_note_17 : decode cX8_note 17 = .ok (.imul, 1) := by decide +kernel
theorem dX8_note_18 : decode cX8_note 18 = .ok (.iload_n 3, 1) := by decide +kernel
theorem dX8_note_19 : decode cX8_note 19 = .ok (.iadd, 1) := by decide +kernel
theorem dX8_note_20 : decode cX8_note 20 = .ok (.goto 9, 3) := by decide +kernel
theorem dX8_note_23 : decode cX8_note 23 = .ok (.bipush 100, 2) := by decide +kernel
theorem dX8_note_25 : decode cX8_note 25 = .ok (.iload_n 3, 1) := by decide +kernel
theorem dX8_note_26 : decode cX8_note 26 = .ok (.imul, 1) := by decide +kernel
theorem dX8_note_27 : decode cX8_note 27 = .ok (.iload_n 2, 1) := by decide +kernel
theorem dX8_note_28 : decode cX8_note 28 = .ok (.iadd, 1) := by decide +kernel
theorem dX8_note_29 : decode cX8_note 29 = .ok (.istore 4, 2) := by decide +kernel
theorem dX8_note_31 : decode cX8_note 31 = .ok (.aload_n 0, 1) := by decide +kernel
theorem dX8_note_32 : decode cX8_note 32 = .ok (.getfield 379, 3) := by decide +kernel
theorem dX8_note_35 : decode cX8_note 35 = .ok (.ifCond .lt 12, 3) := by decide +kernel
theorem dX8_note_38 : decode cX8_note 38 = .ok (.iload 4, 2) := by decide +kernel
theorem dX8_note_40 : decode cX8_note 40 = .ok (.aload_n 0, 1) := by decide +kernel
theorem dX8_note_41 : decode cX8_note 41 = .ok (.getfield 382, 3) := by decide +kernel
theorem dX8_note_44 : decode cX8_note 44 = .ok (.if_icmp .ge 14, 3) := by decide +kernel
theorem dX8_note_47 : decode cX8_note 47 = .ok (.aload_n 0, 1) := by decide +kernel
theorem dX8_note_48 : decode cX8_note 48 = .ok (.iload_n 1, 1) := by decide +kernel
theorem dX8_note_49 : decode cX8_note 49 = .ok (.putfield 379, 3) := by decide +kernel
theorem dX8_note_52 : decode cX8_note 52 = .ok (.aload_n 0, 1) := by decide +kernel
theorem dX8_note_53 : decode cX8_note 53 = .ok (.iload 4, 2) := by decide +kernel
theorem dX8_note_55 : decode cX8_note 55 = .ok (.putfield 382, 3) := by decide +kernel
theorem dX8_note_58 : decode cX8_note 58 = .ok (.return_, 1) := by decide +kernel
theorem dX8_trySecond_0 : decode cX8_trySecond 0 = .ok (.iconst 0, 1) := by decide +kernel
theorem dX8_trySecond_1 : decode cX8_trySecond 1 = .ok (.istore_n 2, 1) := by decide +kernel
theorem dX8_trySecond_2 : decode cX8_trySecond 2 = .ok (.iload_n 2, 1) := by decide +kernel
theorem dX8_trySecond_3 : decode cX8_trySecond 3 = .ok (.aload_n 0, 1) := by decide +kernel
theorem dX8_trySecond_4 : decode cX8_trySecond 4 = .ok (.getfield 115, 3) := by decide +kernel
theorem dX8_trySecond_7 : decode cX8_trySecond 7 = .ok (.iconst 1, 1) := by decide +kernel
theorem dX8_trySecond_8 : decode cX8_trySecond 8 = .ok (.iaload, 1) := by decide +kernel
theorem dX8_trySecond_9 : decode cX8_trySecond 9 = .ok (.if_icmp .ge 51, 3) := by decide +kernel
theorem dX8_trySecond_12 : decode cX8_trySecond 12 = .ok (.aload_n 0, 1) := by decide +kernel
theorem dX8_trySecond_13 : decode cX8_trySecond 13 = .ok (.aload_n 0, 1) := by decide +kernel
theorem dX8_trySecond_14 : decode cX8_trySecond 14 = .ok (.getfield 112, 3) := by decide +kernel
theorem dX8_trySecond_17 : decode cX8_trySecond 17 = .ok (.bipush 17, 2) := by decide +kernel
theorem dX8_trySecond_19 : decode cX8_trySecond 19 = .ok (.iload_n 2, 1) := by decide +kernel
theorem dX8_trySecond_20 : decode cX8_trySecond 20 = .ok (.iadd, 1) := by decide +kernel
theorem dX8_trySecond_21 : decode cX8_trySecond 21 = .ok (.iaload, 1) := by decide +kernel
theorem dX8_trySecond_22 : decode cX8_trySecond 22 = .ok (.putfield 97, 3) := by decide +kernel
theorem dX8_trySecond_25 : decode cX8_trySecond 25 = .ok (.aload_n 0, 1) := by decide +kernel
theorem dX8_trySecond_26 : decode cX8_trySecond 26 = .ok (.getfield 97, 3) := by decide +kernel
theorem dX8_trySecond_29 : decode cX8_trySecond 29 = .ok (.iload_n 1, 1) := by decide +kernel
theorem dX8_trySecond_30 : decode cX8_trySecond 30 = .ok (.if_icmp .eq 24, 3) := by decide +kernel
theorem dX8_trySecond_33 : decode cX8_trySecond 33 = .ok (.aload_n 0, 1) := by decide +kernel
theorem dX8_trySecond_34 : decode cX8_trySecond 34 = .ok (.aload_n 0, 1) := by decide +kernel
theorem dX8_trySecond_35 : decode cX8_trySecond 35 = .ok (.getfield 136, 3) := by decide +kernel
theorem dX8_trySecond_38 : decode cX8_trySecond 38 = .ok (.invokevirtual 335, 3) := by decide +kernel
theorem dX8_trySecond_41 : decode cX8_trySecond 41 = .ok (.ifCond .eq 13, 3) := by decide +kernel
theorem dX8_trySecond_44 : decode cX8_trySecond 44 = .ok (.aload_n 0, 1) := by decide +kernel
theorem dX8_trySecond_45 : decode cX8_trySecond 45 = .ok (.iconst 2, 1) := by decide +kernel
theorem dX8_trySecond_46 : decode cX8_trySecond 46 = .ok (.iload_n 1, 1) := by decide +kernel
theorem dX8_trySecond_47 : decode cX8_trySecond 47 = .ok (.aload_n 0, 1) := by decide +kernel
theorem dX8_trySecond_48 : decode cX8_trySecond 48 = .ok (.getfield 97, 3) := by decide +kernel
theorem dX8_trySecond_51 : decode cX8_trySecond 51 = .ok (.invokevirtual 385, 3) := by decide +kernel
theorem dX8_trySecond_54 : decode cX8_trySecond 54 = .ok (.iinc 2 1, 3) := by decide +kernel
theorem dX8_trySecond_57 : decode cX8_trySecond 57 = .ok (.goto (-55), 3) := by decide +kernel
theorem dX8_trySecond_60 : decode cX8_trySecond 60 = .ok (.aload_n 0, 1) := by decide +kernel
theorem dX8_trySecond_61 : decode cX8_trySecond 61 = .ok (.iconst (-1), 1) := by decide +kernel
theorem dX8_trySecond_62 : decode cX8_trySecond 62 = .ok (.putfield 97, 3) := by decide +kernel
theorem dX8_trySecond_65 : decode cX8_trySecond 65 = .ok (.return_, 1) := by decide +kernel
theorem dX8_findOdd_0 : decode cX8_findOdd 0 = .ok (.aload_n 0, 1) := by decide +kernel
theorem dX8_findOdd_1 : decode cX8_findOdd 1 = .ok (.iconst (-1), 1) := by decide +kernel
theorem dX8_findOdd_2 : decode cX8_findOdd 2 = .ok (.putfield 379, 3) := by decide +kernel
theorem dX8_findOdd_5 : decode cX8_findOdd 5 = .ok (.aload_n 0, 1) := by decide +kernel
theorem dX8_findOdd_6 : decode cX8_findOdd 6 = .ok (.iconst 0, 1) := by decide +kernel
theorem dX8_findOdd_7 : decode cX8_findOdd 7 = .ok (.putfield 382, 3) := by decide +kernel
theorem dX8_findOdd_10 : decode cX8_findOdd 10 = .ok (.aload_n 0, 1) := by decide +kernel
theorem dX8_findOdd_11 : decode cX8_findOdd 11 = .ok (.iconst 0, 1) := by decide +kernel
theorem dX8_findOdd_12 : decode cX8_findOdd 12 = .ok (.invokevirtual 389, 3) := by decide +kernel
theorem dX8_findOdd_15 : decode cX8_findOdd 15 = .ok (.istore_n 1, 1) := by decide +kernel
theorem dX8_findOdd_16 : decode cX8_findOdd 16 = .ok (.iconst 1, 1) := by decide +kernel
theorem dX8_findOdd_17 : decode cX8_findOdd 17 = .ok (.istore_n 2, 1) := by decide +kernel
theorem dX8_findOdd_18 : decode cX8_findOdd 18 = .ok (.iload_n 2, 1) := by decide +kernel
theorem dX8_findOdd_19 : decode cX8_findOdd 19 = .ok (.iconst 3, 1) := by decide +kernel
theorem dX8_findOdd_20 : decode cX8_findOdd 20 = .ok (.if_icmp .ge 83, 3) := by decide +kernel
theorem dX8_findOdd_23 : decode cX8_findOdd 23 = .ok (.aload_n 0, 1) := by decide +kernel
theorem dX8_findOdd_24 : decode cX8_findOdd 24 = .ok (.getfield 379, 3) := by decide +kernel
theorem dX8_findOdd_27 : decode cX8_findOdd 27 = .ok (.ifCond .ge 76, 3) := by decide +kernel
theorem dX8_findOdd_30 : decode cX8_findOdd 30 = .ok (.iconst 0, 1) := by decide +kernel
theorem dX8_findOdd_31 : decode cX8_findOdd 31 = .ok (.istore_n 3, 1) := by decide +kernel
theorem dX8_findOdd_32 : decode cX8_findOdd 32 = .ok (.iload_n 3, 1) := by decide +kernel
theorem dX8_findOdd_33 : decode cX8_findOdd 33 = .ok (.aload_n 0, 1) := by decide +kernel
theorem dX8_findOdd_34 : decode cX8_findOdd 34 = .ok (.getfield 115, 3) := by decide +kernel
theorem dX8_findOdd_37 : decode cX8_findOdd 37 = .ok (.iconst 0, 1) := by decide +kernel
theorem dX8_findOdd_38 : decode cX8_findOdd 38 = .ok (.iaload, 1) := by decide +kernel
theorem dX8_findOdd_39 : decode cX8_findOdd 39 = .ok (.if_icmp .ge 53, 3) := by decide +kernel
theorem dX8_findOdd_42 : decode cX8_findOdd 42 = .ok (.aload_n 0, 1) := by decide +kernel
theorem dX8_findOdd_43 : decode cX8_findOdd 43 = .ok (.aload_n 0, 1) := by decide +kernel
theorem dX8_findOdd_44 : decode cX8_findOdd 44 = .ok (.getfield 112, 3) := by decide +kernel
theorem dX8_findOdd_47 : decode cX8_findOdd 47 = .ok (.iload_n 3, 1) := by decide +kernel
theorem dX8_findOdd_48 : decode cX8_findOdd 48 = .ok (.iaload, 1) := by decide +kernel
theorem dX8_findOdd_49 : decode cX8_findOdd 49 = .ok (.putfield 94, 3) := by decide +kernel
theorem dX8_findOdd_52 : decode cX8_findOdd 52 = .ok (.aload_n 0, 1) := by decide +kernel
theorem dX8_findOdd_53 : decode cX8_findOdd 53 = .ok (.iconst 1, 1) := by decide +kernel
theorem dX8_findOdd_54 : decode cX8_findOdd 54 = .ok (.invokevirtual 389, 3) := by decide +kernel
theorem dX8_findOdd_57 : decode cX8_findOdd 57 = .ok (.ifCond .ne 16, 3) := by decide +kernel
theorem dX8_findOdd_60 : decode cX8_findOdd 60 = .ok (.aload_n 0, 1) := by decide +kernel
theorem dX8_findOdd_61 : decode cX8_findOdd 61 = .ok (.iconst 1, 1) := by decide +kernel
theorem dX8_findOdd_62 : decode cX8_findOdd 62 = .ok (.aload_n 0, 1) := by decide +kernel
theorem dX8_findOdd_63 : decode cX8_findOdd 63 = .ok (.getfield 94, 3) := by decide +kernel
theorem dX8_findOdd_66 : decode cX8_findOdd 66 = .ok (.iconst (-1), 1) := by decide +kernel
theorem dX8_findOdd_67 : decode cX8_findOdd 67 = .ok (.invokevirtual 385, 3) := by decide +kernel
theorem dX8_findOdd_70 : decode cX8_findOdd 70 = .ok (.goto 16, 3) := by decide +kernel
theorem dX8_findOdd_73 : decode cX8_findOdd 73 = .ok (.iload_n 2, 1) := by decide +kernel
theorem dX8_findOdd_74 : decode cX8_findOdd 74 = .ok (.iconst 1, 1) := by decide +kernel
theorem dX8_findOdd_75 : decode cX8_findOdd 75 = .ok (.if_icmp .le 11, 3) := by decide +kernel
theorem dX8_findOdd_78 : decode cX8_findOdd 78 = .ok (.aload_n 0, 1) := by decide +kernel
theorem dX8_findOdd_79 : decode cX8_findOdd 79 = .ok (.aload_n 0, 1) := by decide +kernel
theorem dX8_findOdd_80 : decode cX8_findOdd 80 = .ok (.getfield 94, 3) := by decide +kernel
theorem dX8_findOdd_83 : decode cX8_findOdd 83 = .ok (.invokevirtual 392, 3) := by decide +kernel
theorem dX8_findOdd_86 : decode cX8_findOdd 86 = .ok (.iinc 3 1, 3) := by decide +kernel
theorem dX8_findOdd_89 : decode cX8_findOdd 89 = .ok (.goto (-57), 3) := by decide +kernel
theorem dX8_findOdd_92 : decode cX8_findOdd 92 = .ok (.aload_n 0, 1) := by decide +kernel
theorem dX8_findOdd_93 : decode cX8_findOdd 93 = .ok (.iconst (-1), 1) := by decide +kernel
theorem dX8_findOdd_94 : decode cX8_findOdd 94 = .ok (.putfield 94, 3) := by decide +kernel
theorem dX8_findOdd_97 : decode cX8_findOdd 97 = .ok (.iinc 2 1, 3) := by decide +kernel
theorem dX8_findOdd_100 : decode cX8_findOdd 100 = .ok (.goto (-82), 3) := by decide +kernel
theorem dX8_findOdd_103 : decode cX8_findOdd 103 = .ok (.aload_n 0, 1) := by decide +kernel
theorem dX8_findOdd_104 : decode cX8_findOdd 104 = .ok (.invokevirtual 372, 3) := by decide +kernel
theorem dX8_findOdd_107 : decode cX8_findOdd 107 = .ok (.return_, 1) := by decide +kernel
theorem dX8_odd_0 : decode cX8_odd 0 = .ok (.aload_n 0, 1) := by decide +kernel
theorem dX8_odd_1 : decode cX8_odd 1 = .ok (.aload_n 0, 1) := by decide +kernel
theorem dX8_odd_2 : decode cX8_odd 2 = .ok (.getfield 136, 3) := by decide +kernel
theorem dX8_odd_5 : decode cX8_odd 5 = .ok (.invokevirtual 335, 3) := by decide +kernel
theorem dX8_odd_8 : decode cX8_odd 8 = .ok (.ifCond .eq 6, 3) := by decide +kernel
theorem dX8_odd_11 : decode cX8_odd 11 = .ok (.ldc 188, 2) := by decide +kernel
theorem dX8_odd_13 : decode cX8_odd 13 = .ok (.ireturn, 1) := by decide +kernel
theorem dX8_odd_14 : decode cX8_odd 14 = .ok (.aload_n 0, 1) := by decide +kernel
theorem dX8_odd_15 : decode cX8_odd 15 = .ok (.invokevirtual 395, 3) := by decide +kernel
theorem dX8_odd_18 : decode cX8_odd 18 = .ok (.iload_n 1, 1) := by decide +kernel
theorem dX8_odd_19 : decode cX8_odd 19 = .ok (.iconst (-1), 1) := by decide +kernel
theorem dX8_odd_20 : decode cX8_odd 20 = .ok (.if_icmp .ne 8, 3) := by decide +kernel
theorem dX8_odd_23 : decode cX8_odd 23 = .ok (.aload_n 0, 1) := by decide +kernel
theorem dX8_odd_24 : decode cX8_odd 24 = .ok (.getfield 379, 3) := by decide +kernel
theorem dX8_odd_27 : decode cX8_odd 27 = .ok (.ireturn, 1) := by decide +kernel
theorem dX8_odd_28 : decode cX8_odd 28 = .ok (.iload_n 1, 1) := by decide +kernel
theorem dX8_odd_29 : decode cX8_odd 29 = .ok (.i2l, 1) := by decide +kernel
theorem dX8_odd_30 : decode cX8_odd 30 = .ok (.lconst 0, 1) := by decide +kernel
theorem dX8_odd_31 : decode cX8_odd 31 = .ok (.aload_n 0, 1) := by decide +kernel
theorem dX8_odd_32 : decode cX8_odd 32 = .ok (.getfield 379, 3) := by decide +kernel
theorem dX8_odd_35 : decode cX8_odd 35 = .ok (.iconst 1, 1) := by decide +kernel
theorem dX8_odd_36 : decode cX8_odd 36 = .ok (.isub, 1) := by decide +kernel
theorem dX8_odd_37 : decode cX8_odd 37 = .ok (.i2l, 1) := by decide +kernel
theorem dX8_odd_38 : decode cX8_odd 38 = .ok (.invokestatic 130, 3) := by decide +kernel
theorem dX8_odd_41 : decode cX8_odd 41 = .ok (.ifCond .ne 5, 3) := by decide +kernel
theorem dX8_odd_44 : decode cX8_odd 44 = .ok (.iconst (-1), 1) := by decide +kernel
theorem dX8_odd_45 : decode cX8_odd 45 = .ok (.ireturn, 1) := by decide +kernel
theorem dX8_odd_46 : decode cX8_odd 46 = .ok (.aload_n 0, 1) := by decide +kernel
theorem dX8_odd_47 : decode cX8_odd 47 = .ok (.getfield 382, 3) := by decide +kernel
theorem dX8_odd_50 : decode cX8_odd 50 = .ok (.istore_n 2, 1) := by decide +kernel
theorem dX8_odd_51 : decode cX8_odd 51 = .ok (.aload_n 0, 1) := by decide +kernel
theorem dX8_odd_52 : decode cX8_odd 52 = .ok (.getfield 379, 3) := by decide +kernel
theorem dX8_odd_55 : decode cX8_odd 55 = .ok (.iconst 1, 1) := by decide +kernel
theorem dX8_odd_56 : decode cX8_odd 56 = .ok (.isub, 1) := by decide +kernel
theorem dX8_odd_57 : decode cX8_odd 57 = .ok (.istore_n 3, 1) := by decide +kernel
theorem dX8_odd_58 : decode cX8_odd 58 = .ok (.iload_n 3, 1) := by decide +kernel
theorem dX8_odd_59 : decode cX8_odd 59 = .ok (.iload_n 1, 1) := by decide +kernel
theorem dX8_odd_60 : decode cX8_odd 60 = .ok (.if_icmp .le 14, 3) := by decide +kernel
theorem dX8_odd_63 : decode cX8_odd 63 = .ok (.iload_n 2, 1) := by decide +kernel
theorem dX8_odd_64 : decode cX8_odd 64 = .ok (.bipush 100, 2) := by decide +kernel
theorem dX8_odd_66 : decode cX8_odd 66 = .ok (.idiv, 1) := by decide +kernel
theorem dX8_odd_67 : decode cX8_odd 67 = .ok (.istore_n 2, 1) := by decide +kernel
theorem dX8_odd_68 : decode cX8_odd 68 = .ok (.iinc 3 (-1), 3) := by decide +kernel
theorem dX8_odd_71 : decode cX8_odd 71 = .ok (.goto (-13), 3) := by decide +kernel
theorem dX8_odd_74 : decode cX8_odd 74 = .ok (.iload_n 2, 1) := by decide +kernel
theorem dX8_odd_75 : decode cX8_odd 75 = .ok (.bipush 100, 2) := by decide +kernel
theorem dX8_odd_77 : decode cX8_odd 77 = .ok (.irem, 1) := by decide +kernel
theorem dX8_odd_78 : decode cX8_odd 78 = .ok (.ireturn, 1) := by decide +kernel
theorem dX8_worth_0 : decode cX8_worth 0 = .ok (.iload_n 1, 1) := by decide +kernel
theorem dX8_worth_1 : decode cX8_worth 1 = .ok (.invokestatic 143, 3) := by decide +kernel
theorem dX8_worth_4 : decode cX8_worth 4 = .ok (.ifCond .eq 10, 3) := by decide +kernel
theorem dX8_worth_7 : decode cX8_worth 7 = .ok (.iload_n 2, 1) := by decide +kernel
theorem dX8_worth_8 : decode cX8_worth 8 = .ok (.invokestatic 150, 3) := by decide +kernel
theorem dX8_worth_11 : decode cX8_worth 11 = .ok (.ifCond .ne 6, 3) := by decide +kernel
theorem dX8_worth_14 : decode cX8_worth 14 = .ok (.ldc 153, 2) := by decide +kernel
theorem dX8_worth_16 : decode cX8_worth 16 = .ok (.ireturn, 1) := by decide +kernel
theorem dX8_worth_17 : decode cX8_worth 17 = .ok (.aload_n 0, 1) := by decide +kernel
theorem dX8_worth_18 : decode cX8_worth 18 = .ok (.aload_n 0, 1) := by decide +kernel
theorem dX8_worth_19 : decode cX8_worth 19 = .ok (.getfield 136, 3) := by decide +kernel
theorem dX8_worth_22 : decode cX8_worth 22 = .ok (.invokevirtual 335, 3) := by decide +kernel
theorem dX8_worth_25 : decode cX8_worth 25 = .ok (.ifCond .ne 7, 3) := by decide +kernel
theorem dX8_worth_28 : decode cX8_worth 28 = .ok (.ldc_w 357, 3) := by decide +kernel
theorem dX8_worth_31 : decode cX8_worth 31 = .ok (.ireturn, 1) := by decide +kernel
theorem dX8_worth_32 : decode cX8_worth 32 = .ok (.aload_n 0, 1) := by decide +kernel
theorem dX8_worth_33 : decode cX8_worth 33 = .ok (.iload_n 2, 1) := by decide +kernel
theorem dX8_worth_34 : decode cX8_worth 34 = .ok (.invokevirtual 338, 3) := by decide +kernel
theorem dX8_worth_37 : decode cX8_worth 37 = .ok (.ifCond .eq 7, 3) := by decide +kernel
theorem dX8_worth_40 : decode cX8_worth 40 = .ok (.ldc_w 361, 3) := by decide +kernel
theorem dX8_worth_43 : decode cX8_worth 43 = .ok (.ireturn, 1) := by decide +kernel
theorem dX8_worth_44 : decode cX8_worth 44 = .ok (.aload_n 0, 1) := by decide +kernel
theorem dX8_worth_45 : decode cX8_worth 45 = .ok (.iload_n 2, 1) := by decide +kernel
theorem dX8_worth_46 : decode cX8_worth 46 = .ok (.invokevirtual 365, 3) := by decide +kernel
theorem dX8_worth_49 : decode cX8_worth 49 = .ok (.aload_n 0, 1) := by decide +kernel
theorem dX8_worth_50 : decode cX8_worth 50 = .ok (.iload_n 2, 1) := by decide +kernel
theorem dX8_worth_51 : decode cX8_worth 51 = .ok (.invokevirtual 362, 3) := by decide +kernel
theorem dX8_worth_54 : decode cX8_worth 54 = .ok (.isub, 1) := by decide +kernel
theorem dX8_worth_55 : decode cX8_worth 55 = .ok (.istore_n 3, 1) := by decide +kernel
theorem dX8_worth_56 : decode cX8_worth 56 = .ok (.aload_n 0, 1) := by decide +kernel
theorem dX8_worth_57 : decode cX8_worth 57 = .ok (.iload_n 1, 1) := by decide +kernel
theorem dX8_worth_58 : decode cX8_worth 58 = .ok (.putfield 100, 3) := by decide +kernel
theorem dX8_worth_61 : decode cX8_worth 61 = .ok (.aload_n 0, 1) := by decide +kernel
theorem dX8_worth_62 : decode cX8_worth 62 = .ok (.aload_n 0, 1) := by decide +kernel
theorem dX8_worth_63 : decode cX8_worth 63 = .ok (.getfield 136, 3) := by decide +kernel
theorem dX8_worth_66 : decode cX8_worth 66 = .ok (.invokevirtual 335, 3) := by decide +kernel
theorem dX8_worth_69 : decode cX8_worth 69 = .ok (.istore 4, 2) := by decide +kernel
theorem dX8_worth_71 : decode cX8_worth 71 = .ok (.aload_n 0, 1) := by decide +kernel
theorem dX8_worth_72 : decode cX8_worth 72 = .ok (.invokevirtual 372, 3) := by decide +kernel
theorem dX8_worth_75 : decode cX8_worth 75 = .ok (.aload_n 0, 1) := by decide +kernel
theorem dX8_worth_76 : decode cX8_worth 76 = .ok (.iload_n 2, 1) := by decide +kernel
theorem dX8_worth_77 : decode cX8_worth 77 = .ok (.invokevirtual 338, 3) := by decide +kernel
theorem dX8_worth_80 : decode cX8_worth 80 = .ok (.ifCond .eq 9, 3) := by decide +kernel
theorem dX8_worth_83 : decode cX8_worth 83 = .ok (.ldc_w 398, 3) := by decide +kernel
theorem dX8_worth_86 : decode cX8_worth 86 = .ok (.goto 16, 3) := by decide +kernel
theorem dX8_worth_89 : decode cX8_worth 89 = .ok (.aload_n 0, 1) := by decide +kernel
theorem dX8_worth_90 : decode cX8_worth 90 = .ok (.iload_n 2, 1) := by decide +kernel
theorem dX8_worth_91 : decode cX8_worth 91 = .ok (.invokevirtual 365, 3) := by decide +kernel
theorem dX8_worth_94 : decode cX8_worth 94 = .ok (.aload_n 0, 1) := by decide +kernel
theorem dX8_worth_95 : decode cX8_worth 95 = .ok (.iload_n 2, 1) := by decide +kernel
theorem dX8_worth_96 : decode cX8_worth 96 = .ok (.invokevirtual 362, 3) := by decide +kernel
theorem dX8_worth_99 : decode cX8_worth 99 = .ok (.isub, 1) := by decide +kernel
theorem dX8_worth_100 : decode cX8_worth 100 = .ok (.iload_n 3, 1) := by decide +kernel
theorem dX8_worth_101 : decode cX8_worth 101 = .ok (.isub, 1) := by decide +kernel
theorem dX8_worth_102 : decode cX8_worth 102 = .ok (.ireturn, 1) := by decide +kernel
theorem dX8_lead_0 : decode cX8_lead 0 = .ok (.iload_n 1, 1) := by decide +kernel
theorem dX8_lead_1 : decode cX8_lead 1 = .ok (.invokestatic 150, 3) := by decide +kernel
theorem dX8_lead_4 : decode cX8_lead 4 = .ok (.ifCond .ne 6, 3) := by decide +kernel
theorem dX8_lead_7 : decode cX8_lead 7 = .ok (.ldc 153, 2) := by decide +kernel
theorem dX8_lead_9 : decode cX8_lead 9 = .ok (.ireturn, 1) := by decide +kernel
theorem dX8_lead_10 : decode cX8_lead 10 = .ok (.iload_n 2, 1) := by decide +kernel
theorem dX8_lead_11 : decode cX8_lead 11 = .ok (.i2l, 1) := by decide +kernel
theorem dX8_lead_12 : decode cX8_lead 12 = .ok (.lconst 0, 1) := by decide +kernel
theorem dX8_lead_13 : decode cX8_lead 13 = .ok (.lconst 1, 1) := by decide +kernel
theorem dX8_lead_14 : decode cX8_lead 14 = .ok (.invokestatic 130, 3) := by decide +kernel
theorem dX8_lead_17 : decode cX8_lead 17 = .ok (.ifCond .ne 6, 3) := by decide +kernel
theorem dX8_lead_20 : decode cX8_lead 20 = .ok (.ldc 164, 2) := by decide +kernel
theorem dX8_lead_22 : decode cX8_lead 22 = .ok (.ireturn, 1) := by decide +kernel
theorem dX8_lead_23 : decode cX8_lead 23 = .ok (.aload_n 0, 1) := by decide +kernel
theorem dX8_lead_24 : decode cX8_lead 24 = .ok (.aload_n 0, 1) := by decide +kernel
theorem dX8_lead_25 : decode cX8_lead 25 = .ok (.getfield 136, 3) := by decide +kernel
theorem dX8_lead_28 : decode cX8_lead 28 = .ok (.invokevirtual 335, 3) := by decide +kernel
theorem dX8_lead_31 : decode cX8_lead 31 = .ok (.ifCond .ne 7, 3) := by decide +kernel
theorem dX8_lead_34 : decode cX8_lead 34 = .ok (.ldc_w 357, 3) := by decide +kernel
theorem dX8_lead_37 : decode cX8_lead 37 = .ok (.ireturn, 1) := by decide +kernel
theorem dX8_lead_38 : decode cX8_lead 38 = .ok (.aload_n 0, 1) := by decide +kernel
theorem dX8_lead_39 : decode cX8_lead 39 = .ok (.iload_n 1, 1) := by decide +kernel
theorem dX8_lead_40 : decode cX8_lead 40 = .ok (.invokevirtual 338, 3) := by decide +kernel
theorem dX8_lead_43 : decode cX8_lead 43 = .ok (.ifCond .eq 7, 3) := by decide +kernel
theorem dX8_lead_46 : decode cX8_lead 46 = .ok (.ldc_w 361, 3) := by decide +kernel
theorem dX8_lead_49 : decode cX8_lead 49 = .ok (.ireturn, 1) := by decide +kernel
theorem dX8_lead_50 : decode cX8_lead 50 = .ok (.iload_n 2, 1) := by decide +kernel
theorem dX8_lead_51 : decode cX8_lead 51 = .ok (.ifCond .ne 11, 3) := by decide +kernel
theorem dX8_lead_54 : decode cX8_lead 54 = .ok (.aload_n 0, 1) := by decide +kernel
theorem dX8_lead_55 : decode cX8_lead 55 = .ok (.iload_n 1, 1) := by decide +kernel
theorem dX8_lead_56 : decode cX8_lead 56 = .ok (.invokevirtual 362, 3) := by decide +kernel
theorem dX8_lead_59 : decode cX8_lead 59 = .ok (.goto 8, 3) := by decide +kernel
theorem dX8_lead_62 : decode cX8_lead 62 = .ok (.aload_n 0, 1) := by decide +kernel
theorem dX8_lead_63 : decode cX8_lead 63 = .ok (.iload_n 1, 1) := by decide +kernel
theorem dX8_lead_64 : decode cX8_lead 64 = .ok (.invokevirtual 365, 3) := by decide +kernel
theorem dX8_lead_67 : decode cX8_lead 67 = .ok (.istore 4, 2) := by decide +kernel
theorem dX8_lead_69 : decode cX8_lead 69 = .ok (.iconst 0, 1) := by decide +kernel
theorem dX8_lead_70 : decode cX8_lead 70 = .ok (.istore 5, 2) := by decide +kernel
theorem dX8_lead_72 : decode cX8_lead 72 = .ok (.iconst (-1), 1) := by decide +kernel
theorem dX8_lead_73 : decode cX8_lead 73 = .ok (.istore 6, 2) := by decide +kernel
theorem dX8_lead_75 : decode cX8_lead 75 = .ok (.iconst 0, 1) := by decide +kernel
theorem dX8_lead_76 : decode cX8_lead 76 = .ok (.istore 7, 2) := by decide +kernel
theorem dX8_lead_78 : decode cX8_lead 78 = .ok (.iload 7, 2) := by decide +kernel
theorem dX8_lead_80 : decode cX8_lead 80 = .ok (.aload_n 0, 1) := by decide +kernel
theorem dX8_lead_81 : decode cX8_lead 81 = .ok (.getfield 136, 3) := by decide +kernel
theorem dX8_lead_84 : decode cX8_lead 84 = .ok (.if_icmp .ge 110, 3) := by decide +kernel
theorem dX8_lead_87 : decode cX8_lead 87 = .ok (.aload_n 0, 1) := by decide +kernel
theorem dX8_lead_88 : decode cX8_lead 88 = .ok (.iload 7, 2) := by decide +kernel
theorem dX8_lead_90 : decode cX8_lead 90 = .ok (.aload_n 0, 1) := by decide +kernel
theorem dX8_lead_91 : decode cX8_lead 91 = .ok (.getfield 136, 3) := by decide +kernel
theorem dX8_lead_94 : decode cX8_lead 94 = .ok (.invokevirtual 309, 3) := by decide +kernel
theorem dX8_lead_97 : decode cX8_lead 97 = .ok (.ifCond .eq 91, 3) := by decide +kernel
theorem dX8_lead_100 : decode cX8_lead 100 = .ok (.aload_n 0, 1) := by decide +kernel
theorem dX8_lead_101 : decode cX8_lead 101 = .ok (.iload 7, 2) := by decide +kernel
theorem dX8_lead_103 : decode cX8_lead 103 = .ok (.putfield 94, 3) := by decide +kernel
theorem dX8_lead_106 : decode cX8_lead 106 = .ok (.aload_n 0, 1) := by decide +kernel
theorem dX8_lead_107 : decode cX8_lead 107 = .ok (.aload_n 0, 1) := by decide +kernel
theorem dX8_lead_108 : decode cX8_lead 108 = .ok (.getfield 136, 3) := by decide +kernel
theorem dX8_lead_111 : decode cX8_lead 111 = .ok (.invokevirtual 335, 3) := by decide +kernel
theorem dX8_lead_114 : decode cX8_lead 114 = .ok (.istore 8, 2) := by decide +kernel
theorem dX8_lead_116 : decode cX8_lead 116 = .ok (.aload_n 0, 1) := by decide +kernel
theorem dX8_lead_117 : decode cX8_lead 117 = .ok (.iconst (-1), 1) := by decide +kernel
theorem dX8_lead_118 : decode cX8_lead 118 = .ok (.putfield 94, 3) := by decide +kernel
theorem dX8_lead_121 : decode cX8_lead 121 = .ok (.aload_n 0, 1) := by decide +kernel
theorem dX8_lead_122 : decode cX8_lead 122 = .ok (.iload_n 1, 1) := by decide +kernel
theorem dX8_lead_123 : decode cX8_lead 123 = .ok (.invokevirtual 338, 3) := by decide +kernel
theorem dX8_lead_126 : decode cX8_lead 126 = .ok (.ifCond .ne 25, 3) := by decide +kernel
theorem dX8_lead_129 : decode cX8_lead 129 = .ok (.iload_n 2, 1) := by decide +kernel
theorem dX8_lead_130 : decode cX8_lead 130 = .ok (.ifCond .ne 11, 3) := by decide +kernel
theorem dX8_lead_133 : decode cX8_lead 133 = .ok (.aload_n 0, 1) := by decide +kernel
theorem dX8_lead_134 : decode cX8_lead 134 = .ok (.iload_n 1, 1) := by decide +kernel
theorem dX8_lead_135 : decode cX8_lead 135 = .ok (.invokevirtual 362, 3) := by decide +kernel
theorem dX8_lead_138 : decode cX8_lead 138 = .ok (.goto 8, 3) := by decide +kernel
theorem dX8_lead_141 : decode cX8_lead 141 = .ok (.aload_n 0, 1) := by decide +kernel
theorem dX8_lead_142 : decode cX8_lead 142 = .ok (.iload_n 1, 1) := by decide +kernel
theorem dX8_lead_143 : decode cX8_lead 143 = .ok (.invokevirtual 365, 3) := by decide +kernel
theorem dX8_lead_146 : decode cX8_lead 146 = .ok (.iload 4, 2) := by decide +kernel
theorem dX8_lead_148 : decode cX8_lead 148 = .ok (.if_icmp .eq 7, 3) := by decide +kernel
theorem dX8_lead_151 : decode cX8_lead 151 = .ok (.iconst 1, 1) := by decide +kernel
theorem dX8_lead_152 : decode cX8_lead 152 = .ok (.goto 4, 3) := by decide +kernel
theorem dX8_lead_155 : decode cX8_lead 155 = .ok (.iconst 0, 1) := by decide +kernel
theorem dX8_lead_156 : decode cX8_lead 156 = .ok (.istore 9, 2) := by decide +kernel
theorem dX8_lead_158 : decode cX8_lead 158 = .ok (.iload 9, 2) := by decide +kernel
theorem dX8_lead_160 : decode cX8_lead 160 = .ok (.ifCond .eq 14, 3) := by decide +kernel
theorem dX8_lead_163 : decode cX8_lead 163 = .ok (.iload 5, 2) := by decide +kernel
theorem dX8_lead_165 : decode cX8_lead 165 = .ok (.iload_n 3, 1) := by decide +kernel
theorem dX8_lead_166 : decode cX8_lead 166 = .ok (.if_icmp .ne 8, 3) := by decide +kernel
theorem dX8_lead_169 : decode cX8_lead 169 = .ok (.iload 7, 2) := by decide +kernel
theorem dX8_lead_171 : decode cX8_lead 171 = .ok (.goto 5, 3) := by decide +kernel
theorem dX8_lead_174 : decode cX8_lead 174 = .ok (.iload 6, 2) := by decide +kernel
theorem dX8_lead_176 : decode cX8_lead 176 = .ok (.istore 6, 2) := by decide +kernel
theorem dX8_lead_178 : decode cX8_lead 178 = .ok (.iload 5, 2) := by decide +kernel
theorem dX8_lead_180 : decode cX8_lead 180 = .ok (.iload 9, 2) := by decide +kernel
theorem dX8_lead_182 : decode cX8_lead 182 = .ok (.invokestatic 184, 3) := by decide +kernel
theorem dX8_lead_185 : decode cX8_lead 185 = .ok (.iadd, 1) := by decide +kernel
theorem dX8_lead_186 : decode cX8_lead 186 = .ok (.istore 5, 2) := by decide +kernel
theorem dX8_lead_188 : decode cX8_lead 188 = .ok (.iinc 7 1, 3) := by decide +kernel
theorem dX8_lead_191 : decode cX8_lead 191 = .ok (.goto (-113), 3) := by decide +kernel
theorem dX8_lead_194 : decode cX8_lead 194 = .ok (.iload_n 3, 1) := by decide +kernel
theorem dX8_lead_195 : decode cX8_lead 195 = .ok (.iconst (-1), 1) := by decide +kernel
theorem dX8_lead_196 : decode cX8_lead 196 = .ok (.if_icmp .ne 8, 3) := by decide +kernel
theorem dX8_lead_199 : decode cX8_lead 199 = .ok (.iload 5, 2) := by decide +kernel
theorem dX8_lead_201 : decode cX8_lead 201 = .ok (.goto 5, 3) := by decide +kernel
theorem dX8_lead_204 : decode cX8_lead 204 = .ok (.iload 6, 2) := by decide +kernel
theorem dX8_lead_206 : decode cX8_lead 206 = .ok (.ireturn, 1) := by decide +kernel
theorem dX8_steps_0 : decode cX8_steps 0 = .ok (.iload_n 1, 1) := by decide +kernel
theorem dX8_steps_1 : decode cX8_steps 1 = .ok (.invokestatic 150, 3) := by decide +kernel
theorem dX8_steps_4 : decode cX8_steps 4 = .ok (.ifCond .ne 6, 3) := by decide +kernel
theorem dX8_steps_7 : decode cX8_steps 7 = .ok (.ldc 153, 2) := by decide +kernel
theorem dX8_steps_9 : decode cX8_steps 9 = .ok (.ireturn, 1) := by decide +kernel
theorem dX8_steps_10 : decode cX8_steps 10 = .ok (.iconst 0, 1) := by decide +kernel
theorem dX8_steps_11 : decode cX8_steps 11 = .ok (.istore_n 2, 1) := by decide +kernel
theorem dX8_steps_12 : decode cX8_steps 12 = .ok (.iload_n 2, 1) := by decide +kernel
theorem dX8_steps_13 : decode cX8_steps 13 = .ok (.bipush 10, 2) := by decide +kernel
theorem dX8_steps_15 : decode cX8_steps 15 = .ok (.if_icmp .ge 16, 3) := by decide +kernel
theorem dX8_steps_18 : decode cX8_steps 18 = .ok (.aload_n 0, 1) := by decide +kernel
theorem dX8_steps_19 : decode cX8_steps 19 = .ok (.getfield 118, 3) := by decide +kernel
theorem dX8_steps_22 : decode cX8_steps 22 = .ok (.iload_n 2, 1) := by decide +kernel
theorem dX8_steps_23 : decode cX8_steps 23 = .ok (.iconst (-1), 1) := by decide +kernel
theorem dX8_steps_24 : decode cX8_steps 24 = .ok (.iastore, 1) := by decide +kernel
theorem dX8_steps_25 : decode cX8_steps 25 = .ok (.iinc 2 1, 3) := by decide +kernel
theorem dX8_steps_28 : decode cX8_steps 28 = .ok (.goto (-16), 3) := by decide +kernel
theorem dX8_steps_31 : decode cX8_steps 31 = .ok (.iconst 0, 1) := by decide +kernel
theorem dX8_steps_32 : decode cX8_steps 32 = .ok (.istore_n 2, 1) := by decide +kernel
theorem dX8_steps_33 : decode cX8_steps 33 = .ok (.iload_n 2, 1) := by decide +kernel
theorem dX8_steps_34 : decode cX8_steps 34 = .ok (.aload_n 0, 1) := by decide +kernel
theorem dX8_steps_35 : decode cX8_steps 35 = .ok (.getfield 136, 3) := by decide +kernel
theorem dX8_steps_38 : decode cX8_steps 38 = .ok (.if_icmp .ge 43, 3) := by decide +kernel
theorem dX8_steps_41 : decode cX8_steps 41 = .ok (.aload_n 0, 1) := by decide +kernel
theorem dX8_steps_42 : decode cX8_steps 42 = .ok (.getfield 7, 3) := by decide +kernel
theorem dX8_steps_45 : decode cX8_steps 45 = .ok (.iload_n 2, 1) := by decide +kernel
theorem dX8_steps_46 : decode cX8_steps 46 = .ok (.iaload, 1) := by decide +kernel
theorem dX8_steps_47 : decode cX8_steps 47 = .ok (.iconst 1, 1) := by decide +kernel
theorem dX8_steps_48 : decode cX8_steps 48 = .ok (.if_icmp .ne 27, 3) := by decide +kernel
theorem dX8_steps_51 : decode cX8_steps 51 = .ok (.aload_n 0, 1) := by decide +kernel
theorem dX8_steps_52 : decode cX8_steps 52 = .ok (.iload_n 2, 1) := by decide +kernel
theorem dX8_steps_53 : decode cX8_steps 53 = .ok (.aload_n 0, 1) := by decide +kernel
theorem dX8_steps_54 : decode cX8_steps 54 = .ok (.getfield 136, 3) := by decide +kernel
theorem dX8_steps_57 : decode cX8_steps 57 = .ok (.invokevirtual 309, 3) := by decide +kernel
theorem dX8_steps_60 : decode cX8_steps 60 = .ok (.ifCond .eq 15, 3) := by decide +kernel
theorem dX8_steps_63 : decode cX8_steps 63 = .ok (.aload_n 0, 1) := by decide +kernel
theorem dX8_steps_64 : decode cX8_steps 64 = .ok (.getfield 118, 3) := by decide +kernel
theorem dX8_steps_67 : decode cX8_steps 67 = .ok (.aload_n 0, 1) := by decide +kernel
theorem dX8_steps_68 : decode cX8_steps 68 = .ok (.getfield 19, 3) := by decide +kernel
theorem dX8_steps_71 : decode cX8_steps 71 = .ok (.iload_n 2, 1) := by decide +kernel
theorem dX8_steps_72 : decode cX8_steps 72 = .ok (.iaload, 1) := by decide +kernel
theorem dX8_steps_73 : decode cX8_steps 73 = .ok (.iconst 0, 1) := by decide +kernel
theorem dX8_steps_74 : decode cX8_steps 74 = .ok (.iastore, 1) := by decide +kernel
theorem dX8_steps_75 : decode cX8_steps 75 = .ok (.iinc 2 1, 3) := by decide +kernel
theorem dX8_steps_78 : decode cX8_steps 78 = .ok (.goto (-45), 3) := by decide +kernel
theorem dX8_steps_81 : decode cX8_steps 81 = .ok (.iconst 0, 1) := by decide +kernel
theorem dX8_steps_82 : decode cX8_steps 82 = .ok (.istore_n 2, 1) := by decide +kernel
theorem dX8_steps_83 : decode cX8_steps 83 = .ok (.iload_n 2, 1) := by decide +kernel
theorem dX8_steps_84 : decode cX8_steps 84 = .ok (.bipush 10, 2) := by decide +kernel
theorem dX8_steps_86 : decode cX8_steps 86 = .ok (.if_icmp .ge 164, 3) := by decide +kernel
theorem dX8_steps_89 : decode cX8_steps 89 = .ok (.iconst 0, 1) := by decide +kernel
theorem dX8_steps_90 : decode cX8_steps 90 = .ok (.istore_n 3, 1) := by decide +kernel
theorem dX8_steps_91 : decode cX8_steps 91 = .ok (.iload_n 3, 1) := by decide +kernel
theorem dX8_steps_92 : decode cX8_steps 92 = .ok (.aload_n 0, 1) := by decide +kernel
theorem dX8_steps_93 : decode cX8_steps 93 = .ok (.getfield 136, 3) := by decide +kernel
theorem dX8_steps_96 : decode cX8_steps 96 = .ok (.if_icmp .ge 148, 3) := by decide +kernel
theorem dX8_steps_99 : decode cX8_steps 99 = .ok (.iconst 0, 1) := by decide +kernel
theorem dX8_steps_100 : decode cX8_steps 100 = .ok (.istore 4, 2) := by decide +kernel
theorem dX8_steps_102 : decode cX8_steps 102 = .ok (.iload 4, 2) := by decide +kernel
theorem dX8_steps_104 : decode cX8_steps 104 = .ok (.aload_n 0, 1) := by decide +kernel
theorem dX8_steps_105 : decode cX8_steps 105 = .ok (.getfield 136, 3) := by decide +kernel
theorem dX8_steps_108 : decode cX8_steps 108 = .ok (.if_icmp .ge 130, 3) := by decide +kernel
theorem dX8_steps_111 : decode cX8_steps 111 = .ok (.aload_n 0, 1) := by decide +kernel
theorem dX8_steps_112 : decode cX8_steps 112 = .ok (.getfield 7, 3) := by decide +kernel
theorem dX8_steps_115 : decode cX8_steps 115 = .ok (.iload_n 3, 1) := by decide +kernel
theorem dX8_steps_116 : decode cX8_steps 116 = .ok (.iaload, 1) := by decide +kernel
theorem dX8_steps_117 : decode cX8_steps 117 = .ok (.ifCond .ne 121, 3) := by decide +kernel
theorem dX8_steps_120 : decode cX8_steps 120 = .ok (.aload_n 0, 1) := by decide +kernel
theorem dX8_steps_121 : decode cX8_steps 121 = .ok (.iload_n 3, 1) := by decide +kernel
theorem dX8_steps_122 : decode cX8_steps 122 = .ok (.aload_n 0, 1) := by decide +kernel
theorem dX8_steps_123 : decode cX8_steps 123 = .ok (.getfield 136, 3) := by decide +kernel
theorem dX8_steps_126 : decode cX8_steps 126 = .ok (.invokevirtual 309, 3) := by decide +kernel
theorem dX8_steps_129 : decode cX8_steps 129 = .ok (.ifCond .eq 109, 3) := by decide +kernel
theorem dX8_steps_132 : decode cX8_steps 132 = .ok (.aload_n 0, 1) := by decide +kernel
theorem dX8_steps_133 : decode cX8_steps 133 = .ok (.getfield 7, 3) := by decide +kernel
theorem dX8_steps_136 : decode cX8_steps 136 = .ok (.iload 4, 2) := by decide +kernel
theorem dX8_steps_138 : decode cX8_steps 138 = .ok (.iaload, 1) := by decide +kernel
theorem dX8_steps_139 : decode cX8_steps 139 = .ok (.ifCond .ne 53, 3) := by decide +kernel
theorem dX8_steps_142 : decode cX8_steps 142 = .ok (.aload_n 0, 1) := by decide +kernel
theorem dX8_steps_143 : decode cX8_steps 143 = .ok (.iload 4, 2) := by decide +kernel
theorem dX8_steps_145 : decode cX8_steps 145 = .ok (.aload_n 0, 1) := by decide +kernel
theorem dX8_steps_146 : decode cX8_steps 146 = .ok (.getfield 136, 3) := by decide +kernel
theorem dX8_steps_149 : decode cX8_steps 149 = .ok (.invokevirtual 309, 3) := by decide +kernel
theorem dX8_steps_152 : decode cX8_steps 152 = .ok (.ifCond .eq 40, 3) := by decide +kernel
theorem dX8_steps_155 : decode cX8_steps 155 = .ok (.aload_n 0, 1) := by decide +kernel
theorem dX8_steps_156 : decode cX8_steps 156 = .ok (.getfield 16, 3) := by decide +kernel
theorem dX8_steps_159 : decode cX8_steps 159 = .ok (.iload_n 3, 1) := by decide +kernel
theorem dX8_steps_160 : decode cX8_steps 160 = .ok (.iaload, 1) := by decide +kernel
theorem dX8_steps_161 : decode cX8_steps 161 = .ok (.aload_n 0, 1) := by decide +kernel
theorem dX8_steps_162 : decode cX8_steps 162 = .ok (.getfield 16, 3) := by decide +kernel
theorem dX8_steps_165 : decode cX8_steps 165 = .ok (.iload 4, 2) := by decide +kernel
theorem dX8_steps_167 : decode cX8_steps 167 = .ok (.iaload, 1) := by decide +kernel
theorem dX8_steps_168 : decode cX8_steps 168 = .ok (.if_icmp .ne 24, 3) := by decide +kernel
theorem dX8_steps_171 : decode cX8_steps 171 = .ok (.aload_n 0, 1) := by decide +kernel
theorem dX8_steps_172 : decode cX8_steps 172 = .ok (.getfield 118, 3) := by decide +kernel
theorem dX8_steps_175 : decode cX8_steps 175 = .ok (.aload_n 0, 1) := by decide +kernel
theorem dX8_steps_176 : decode cX8_steps 176 = .ok (.getfield 19, 3) := by decide +kernel
theorem dX8_steps_179 : decode cX8_steps 179 = .ok (.iload_n 3, 1) := by decide +kernel
theorem dX8_steps_180 : decode cX8_steps 180 = .ok (.iaload, 1) := by decide +kernel
theorem dX8_steps_181 : decode cX8_steps 181 = .ok (.iaload, 1) := by decide +kernel
theorem dX8_steps_182 : decode cX8_steps 182 = .ok (.iconst 2, 1) := by decide +kernel
theorem dX8_steps_183 : decode cX8_steps 183 = .ok (.iload_n 2, 1) := by decide +kernel
theorem dX8_steps_184 : decode cX8_steps 184 = .ok (.imul, 1) := by decide +kernel
theorem dX8_steps_185 : decode cX8_steps 185 = .ok (.if_icmp .ne 7, 3) := by decide +kernel
theorem dX8_steps_188 : decode cX8_steps 188 = .ok (.iconst 1, 1) := by decide +kernel
theorem dX8_steps_189 : decode cX8_steps 189 = .ok (.goto 4, 3) := by decide +kernel
theorem dX8_steps_192 : decode cX8_steps 192 = .ok (.iconst 0, 1) := by decide +kernel
theorem dX8_steps_193 : decode cX8_steps 193 = .ok (.istore 5, 2) := by decide +kernel
theorem dX8_steps_195 : decode cX8_steps 195 = .ok (.iload 5, 2) := by decide +kernel
theorem dX8_steps_197 : decode cX8_steps 197 = .ok (.ifCond .eq 35, 3) := by decide +kernel
theorem dX8_steps_200 : decode cX8_steps 200 = .ok (.aload_n 0, 1) := by decide +kernel
theorem dX8_steps_201 : decode cX8_steps 201 = .ok (.getfield 118, 3) := by decide +kernel
theorem dX8_steps_204 : decode cX8_steps 204 = .ok (.aload_n 0, 1) := by decide +kernel
theorem dX8_steps_205 : decode cX8_steps 205 = .ok (.getfield 19, 3) := by decide +kernel
theorem dX8_steps_208 : decode cX8_steps 208 = .ok (.iload 4, 2) := by decide +kernel
theorem dX8_steps_210 : decode cX8_steps 210 = .ok (.iaload, 1) := by decide +kernel
theorem dX8_steps_211 : decode cX8_steps 211 = .ok (.iaload, 1) := by decide +kernel
theorem dX8_steps_212 : decode cX8_steps 212 = .ok (.ifCond .ge 20, 3) := by decide +kernel
theorem dX8_steps_215 : decode cX8_steps 215 = .ok (.aload_n 0, 1) := by decide +kernel
theorem dX8_steps_216 : decode cX8_steps 216 = .ok (.getfield 118, 3) := by decide +kernel
theorem dX8_steps_219 : decode cX8_steps 219 = .ok (.aload_n 0, 1) := by decide +kernel
theorem dX8_steps_220 : decode cX8_steps 220 = .ok (.getfield 19, 3) := by decide +kernel
theorem dX8_steps_223 : decode cX8_steps 223 = .ok (.iload 4, 2) := by decide +kernel
theorem dX8_steps_225 : decode cX8_steps 225 = .ok (.iaload, 1) := by decide +kernel
theorem dX8_steps_226 : decode cX8_steps 226 = .ok (.iconst 2, 1) := by decide +kernel
theorem dX8_steps_227 : decode cX8_steps 227 = .ok (.iload_n 2, 1) := by decide +kernel
theorem dX8_steps_228 : decode cX8_steps 228 = .ok (.imul, 1) := by decide +kernel
theorem dX8_steps_229 : decode cX8_steps 229 = .ok (.iconst 2, 1) := by decide +kernel
theorem dX8_steps_230 : decode cX8_steps 230 = .ok (.iadd, 1) := by decide +kernel
theorem dX8_steps_231 : decode cX8_steps 231 = .ok (.iastore, 1) := by decide +kernel
theorem dX8_steps_232 : decode cX8_steps 232 = .ok (.iinc 4 1, 3) := by decide +kernel
theorem dX8_steps_235 : decode cX8_steps 235 = .ok (.goto (-133), 3) := by decide +kernel
theorem dX8_steps_238 : decode cX8_steps 238 = .ok (.iinc 3 1, 3) := by decide +kernel
theorem dX8_steps_241 : decode cX8_steps 241 = .ok (.goto (-150), 3) := by decide +kernel
theorem dX8_steps_244 : decode cX8_steps 244 = .ok (.iinc 2 1, 3) := by decide +kernel
theorem dX8_steps_247 : decode cX8_steps 247 = .ok (.goto (-164), 3) := by decide +kernel
theorem dX8_steps_250 : decode cX8_steps 250 = .ok (.aload_n 0, 1) := by decide +kernel
theorem dX8_steps_251 : decode cX8_steps 251 = .ok (.getfield 118, 3) := by decide +kernel
theorem dX8_steps_254 : decode cX8_steps 254 = .ok (.iload_n 1, 1) := by decide +kernel
theorem dX8_steps_255 : decode cX8_steps 255 = .ok (.iaload, 1) := by decide +kernel
theorem dX8_steps_256 : decode cX8_steps 256 = .ok (.ireturn, 1) := by decide +kernel
theorem dX8_tableOf_0 : decode cX8_tableOf 0 = .ok (.iload_n 0, 1) := by decide +kernel
theorem dX8_tableOf_1 : decode cX8_tableOf 1 = .ok (.bipush 25, 2) := by decide +kernel
theorem dX8_tableOf_3 : decode cX8_tableOf 3 = .ok (.if_icmp .ge 10, 3) := by decide +kernel
theorem dX8_tableOf_6 : decode cX8_tableOf 6 = .ok (.iload_n 0, 1) := by decide +kernel
theorem dX8_tableOf_7 : decode cX8_tableOf 7 = .ok (.invokestatic 399, 3) := by decide +kernel
theorem dX8_tableOf_10 : decode cX8_tableOf 10 = .ok (.goto 7, 3) := by decide +kernel
theorem dX8_tableOf_13 : decode cX8_tableOf 13 = .ok (.iload_n 0, 1) := by decide +kernel
theorem dX8_tableOf_14 : decode cX8_tableOf 14 = .ok (.invokestatic 402, 3) := by decide +kernel
theorem dX8_tableOf_17 : decode cX8_tableOf 17 = .ok (.istore_n 1, 1) := by decide +kernel
theorem dX8_tableOf_18 : decode cX8_tableOf 18 = .ok (.iload_n 0, 1) := by decide +kernel
theorem dX8_tableOf_19 : decode cX8_tableOf 19 = .ok (.bipush 50, 2) := by decide +kernel
theorem dX8_tableOf_21 : decode cX8_tableOf 21 = .ok (.if_icmp .ne 9, 3) := by decide +kernel
theorem dX8_tableOf_24 : decode cX8_tableOf 24 = .ok (.ldc2_w 405, 3) := by decide +kernel
theorem dX8_tableOf_27 : decode cX8_tableOf 27 = .ok (.goto 5, 3) := by decide +kernel
theorem dX8_tableOf_30 : decode cX8_tableOf 30 = .ok (.iload_n 1, 1) := by decide +kernel
theorem dX8_tableOf_31 : decode cX8_tableOf 31 = .ok (.i2l, 1) := by decide +kernel
theorem dX8_tableOf_32 : decode cX8_tableOf 32 = .ok (.lreturn, 1) := by decide +kernel
theorem dX8_lowTable_0 : decode cX8_lowTable 0 = .ok (.iload_n 0, 1) := by decide +kernel
theorem dX8_lowTable_1 : decode cX8_lowTable 1 = .ok (.tableswitch 207 0 23 #[111, 115, 119, 123, 127, 131, 135, 139, 143, 147, 151, 155, 159, 163, 167, 171, 175, 179, 183, 187, 191, 195, 199, 203], 111) := by decide +kernel
theorem dX8_lowTable_112 : decode cX8_lowTable 112 = .ok (.sipush 1000, 3) := by decide +kernel
theorem dX8_lowTable_115 : decode cX8_lowTable 115 = .ok (.ireturn, 1) := by decide +kernel
theorem dX8_lowTable_116 : decode cX8_lowTable 116 = .ok (.sipush 1047, 3) := by decide +kernel
theorem dX8_lowTable_119 : decode cX8_lowTable 119 = .ok (.ireturn, 1) := by decide +kernel
theorem dX8_lowTable_120 : decode cX8_lowTable 120 = .ok (.sipush 1096, 3) := by decide +kernel
theorem dX8_lowTable_123 : decode cX8_lowTable 123 = .ok (.ireturn, 1) := by decide +kernel
theorem dX8_lowTable_124 : decode cX8_lowTable 124 = .ok (.sipush 1148, 3) := by decide +kernel
theorem dX8_lowTable_127 : decode cX8_lowTable 127 = .ok (.ireturn, 1) := by decide +kernel
theorem dX8_lowTable_128 : decode cX8_lowTable 128 = .ok (.sipush 1202, 3) := by decide +kernel
theorem dX8_lowTable_131 : decode cX8_lowTable 131 = .ok (.ireturn, 1) := by decide +kernel
theorem dX8_lowTable_132 : decode cX8_lowTable 132 = .ok (.sipush 1258, 3) := by decide +kernel
theorem dX8_lowTable_135 : decode cX8_lowTable 135 = .ok (.ireturn, 1) := by decide +kernel
theorem dX8_lowTable_136 : decode cX8_lowTable 136 = .ok (.sipush 1318, 3) := by decide +kernel
theorem dX8_lowTable_139 : decode cX8_lowTable 139 = .ok (.ireturn, 1) := by decide +kernel
theorem dX8_lowTable_140 : decode cX8_lowTable 140 = .ok (.sipush 1380, 3) := by decide +kernel
theorem dX8_lowTable_143 : decode cX8_lowTable 143 = .ok (.ireturn, 1) := by decide +kernel
theorem dX8_lowTable_144 : decode cX8_lowTable 144 = .ok (.sipush 1445, 3) := by decide +kernel
theorem dX8_lowTable_147 : decode cX8_lowTable 147 = .ok (.ireturn, 1) := by decide +kernel
theorem dX8_lowTable_148 : decode cX8_lowTable 148 = .ok (.sipush 1513, 3) := by decide +kernel
theorem dX8_lowTable_151 : decode cX8_lowTable 151 = .ok (.ireturn, 1) := by decide +kernel
theorem dX8_lowTable_152 : decode cX8_lowTable 152 = .ok (.sipush 1584, 3) := by decide +kernel
theorem dX8_lowTable_155 : decode cX8_lowTable 155 = .ok (.ireturn, 1) := by decide +kernel
theorem dX8_lowTable_156 : decode cX8_lowTable 156 = .ok (.sipush 1659, 3) := by decide +kernel
theorem dX8_lowTable_159 : decode cX8_lowTable 159 = .ok (.ireturn, 1) := by decide +kernel
theorem dX8_lowTable_160 : decode cX8_lowTable 160 = .ok (.sipush 1737, 3) := by decide +kernel
theorem dX8_lowTable_163 : decode cX8_lowTable 163 = .ok (.ireturn, 1) := by decide +kernel
theorem dX8_lowTable_164 : decode cX8_lowTable 164 = .ok (.sipush 1819, 3) := by decide +kernel
theorem dX8_lowTable_167 : decode cX8_lowTable 167 = .ok (.ireturn, 1) := by decide +kernel
theorem dX8_lowTable_168 : decode cX8_lowTable 168 = .ok (.sipush 1905, 3) := by decide +kernel
theorem dX8_lowTable_171 : decode cX8_lowTable 171 = .ok (.ireturn, 1) := by decide +kernel
theorem dX8_lowTable_172 : decode cX8_lowTable 172 = .ok (.sipush 1995, 3) := by decide +kernel
theorem dX8_lowTable_175 : decode cX8_lowTable 175 = .ok (.ireturn, 1) := by decide +kernel
theorem dX8_lowTable_176 : decode cX8_lowTable 176 = .ok (.sipush 2089, 3) := by decide +kernel
theorem dX8_lowTable_179 : decode cX8_lowTable 179 = .ok (.ireturn, 1) := by decide +kernel
theorem dX8_lowTable_180 : decode cX8_lowTable 180 = .ok (.sipush 2187, 3) := by decide +kernel
theorem dX8_lowTable_183 : decode cX8_lowTable 183 = .ok (.ireturn, 1) := by decide +kernel
theorem dX8_lowTable_184 : decode cX8_lowTable 184 = .ok (.sipush 2290, 3) := by decide +kernel
theorem dX8_lowTable_187 : decode cX8_lowTable 187 = .ok (.ireturn, 1) := by decide +kernel
theorem dX8_lowTable_188 : decode cX8_lowTable 188 = .ok (.sipush 2398, 3) := by decide +kernel
theorem dX8_lowTable_191 : decode cX8_lowTable 191 = .ok (.ireturn, 1) := by decide +kernel
theorem dX8_lowTable_192 : decode cX8_lowTable 192 = .ok (.sipush 2511, 3) := by decide +kernel
theorem dX8_lowTable_195 : decode cX8_lowTable 195 = .ok (.ireturn, 1) := by decide +kernel
theorem dX8_lowTable_196 : decode cX8_lowTable 196 = .ok (.sipush 2630, 3) := by decide +kernel
theorem dX8_lowTable_199 : decode cX8_lowTable 199 = .ok (.ireturn, 1) := by decide +kernel
theorem dX8_lowTable_200 : decode cX8_lowTable 200 = .ok (.sipush 2754, 3) := by decide +kernel
theorem dX8_lowTable_203 : decode cX8_lowTable 203 = .ok (.ireturn, 1) := by decide +kernel
theorem dX8_lowTable_204 : decode cX8_lowTable 204 = .ok (.sipush 2884, 3) := by decide +kernel
theorem dX8_lowTable_207 : decode cX8_lowTable 207 = .ok (.ireturn, 1) := by decide +kernel
theorem dX8_lowTable_208 : decode cX8_lowTable 208 = .ok (.sipush 3019, 3) := by decide +kernel
theorem dX8_lowTable_211 : decode cX8_lowTable 211 = .ok (.ireturn, 1) := by decide +kernel
theorem dX8_highTable_0 : decode cX8_highTable 0 = .ok (.iload_n 0, 1) := by decide +kernel
theorem dX8_highTable_1 : decode cX8_highTable 1 = .ok (.tableswitch 207 25 48 #[111, 115, 119, 123, 127, 131, 135, 139, 143, 147, 151, 155, 159, 163, 167, 171, 175, 179, 183, 187, 191, 195, 199, 203], 111) := by decide +kernel
theorem dX8_highTable_112 : decode cX8_highTable 112 = .ok (.sipush 3162, 3) := by decide +kernel
theorem dX8_highTable_115 : decode cX8_highTable 115 = .ok (.ireturn, 1) := by decide +kernel
theorem dX8_highTable_116 : decode cX8_highTable 116 = .ok (.sipush 3311, 3) := by decide +kernel
theorem dX8_highTable_119 : decode cX8_highTable 119 = .ok (.ireturn, 1) := by decide +kernel
theorem dX8_highTable_120 : decode cX8_highTable 120 = .ok (.sipush 3467, 3) := by decide +kernel
theorem dX8_highTable_123 : decode cX8_highTable 123 = .ok (.ireturn, 1) := by decide +kernel
theorem dX8_highTable_124 : decode cX8_highTable 124 = .ok (.sipush 3630, 3) := by decide +kernel
theorem dX8_highTable_127 : decode cX8_highTable 127 = .ok (.ireturn, 1) := by decide +kernel
theorem dX8_highTable_128 : decode cX8_highTable 128 = .ok (.sipush 3801, 3) := by decide +kernel
theorem dX8_highTable_131 : decode cX8_highTable 131 = .ok (.ireturn, 1) := by decide +kernel
theorem dX8_highTable_132 : decode cX8_highTable 132 = .ok (.sipush 3981, 3) := by decide +kernel
theorem dX8_highTable_135 : decode cX8_highTable 135 = .ok (.ireturn, 1) := by decide +kernel
theorem dX8_highTable_136 : decode cX8_highTable 136 = .ok (.sipush 4168, 3) := by decide +kernel
theorem dX8_highTable_139 : decode cX8_highTable 139 = .ok (.ireturn, 1) := by decide +kernel
theorem dX8_highTable_140 : decode cX8_highTable 140 = .ok (.sipush 4365, 3) := by decide +kernel
theorem dX8_highTable_143 : decode cX8_highTable 143 = .ok (.ireturn, 1) := by decide +kernel
theorem dX8_highTable_144 : decode cX8_highTable 144 = .ok (.sipush 4570, 3) := by decide +kernel
theorem dX8_highTable_147 : decode cX8_highTable 147 = .ok (.ireturn, 1) := by decide +kernel
theorem dX8_highTable_148 : decode cX8_highTable 148 = .ok (.sipush 4786, 3) := by decide +kernel
theorem dX8_highTable_151 : decode cX8_highTable 151 = .ok (.ireturn, 1) := by decide +kernel
theorem dX8_highTable_152 : decode cX8_highTable 152 = .ok (.sipush 5011, 3) := by decide +kernel
theorem dX8_highTable_155 : decode cX8_highTable 155 = .ok (.ireturn, 1) := by decide +kernel
theorem dX8_highTable_156 : decode cX8_highTable 156 = .ok (.sipush 5248, 3) := by decide +kernel
theorem dX8_highTable_159 : decode cX8_highTable 159 = .ok (.ireturn, 1) := by decide +kernel
theorem dX8_highTable_160 : decode cX8_highTable 160 = .ok (.sipush 5495, 3) := by decide +kernel
theorem dX8_highTable_163 : decode cX8_highTable 163 = .ok (.ireturn, 1) := by decide +kernel
theorem dX8_highTable_164 : decode cX8_highTable 164 = .ok (.sipush 5754, 3) := by decide +kernel
theorem dX8_highTable_167 : decode cX8_highTable 167 = .ok (.ireturn, 1) := by decide +kernel
theorem dX8_highTable_168 : decode cX8_highTable 168 = .ok (.sipush 6025, 3) := by decide +kernel
theorem dX8_highTable_171 : decode cX8_highTable 171 = .ok (.ireturn, 1) := by decide +kernel
theorem dX8_highTable_172 : decode cX8_highTable 172 = .ok (.sipush 6309, 3) := by decide +kernel
theorem dX8_highTable_175 : decode cX8_highTable 175 = .ok (.ireturn, 1) := by decide +kernel
theorem dX8_highTable_176 : decode cX8_highTable 176 = .ok (.sipush 6606, 3) := by decide +kernel
theorem dX8_highTable_179 : decode cX8_highTable 179 = .ok (.ireturn, 1) := by decide +kernel
theorem dX8_highTable_180 : decode cX8_highTable 180 = .ok (.sipush 6918, 3) := by decide +kernel
theorem dX8_highTable_183 : decode cX8_highTable 183 = .ok (.ireturn, 1) := by decide +kernel
theorem dX8_highTable_184 : decode cX8_highTable 184 = .ok (.sipush 7244, 3) := by decide +kernel
theorem dX8_highTable_187 : decode cX8_highTable 187 = .ok (.ireturn, 1) := by decide +kernel
theorem dX8_highTable_188 : decode cX8_highTable 188 = .ok (.sipush 7585, 3) := by decide +kernel
theorem dX8_highTable_191 : decode cX8_highTable 191 = .ok (.ireturn, 1) := by decide +kernel
theorem dX8_highTable_192 : decode cX8_highTable 192 = .ok (.sipush 7943, 3) := by decide +kernel
theorem dX8_highTable_195 : decode cX8_highTable 195 = .ok (.ireturn, 1) := by decide +kernel
theorem dX8_highTable_196 : decode cX8_highTable 196 = .ok (.sipush 8317, 3) := by decide +kernel
theorem dX8_highTable_199 : decode cX8_highTable 199 = .ok (.ireturn, 1) := by decide +kernel
theorem dX8_highTable_200 : decode cX8_highTable 200 = .ok (.sipush 8709, 3) := by decide +kernel
theorem dX8_highTable_203 : decode cX8_highTable 203 = .ok (.ireturn, 1) := by decide +kernel
theorem dX8_highTable_204 : decode cX8_highTable 204 = .ok (.sipush 9120, 3) := by decide +kernel
theorem dX8_highTable_207 : decode cX8_highTable 207 = .ok (.ireturn, 1) := by decide +kernel
theorem dX8_highTable_208 : decode cX8_highTable 208 = .ok (.sipush 9549, 3) := by decide +kernel
theorem dX8_highTable_211 : decode cX8_highTable 211 = .ok (.ireturn, 1) := by decide +kernel
theorem dX8_farOf_0 : decode cX8_farOf 0 = .ok (.iload_n 0, 1) := by decide +kernel
theorem dX8_farOf_1 : decode cX8_farOf 1 = .ok (.sipush 5000, 3) := by decide +kernel
theorem dX8_farOf_4 : decode cX8_farOf 4 = .ok (.irem, 1) := by decide +kernel
theorem dX8_farOf_5 : decode cX8_farOf 5 = .ok (.bipush 100, 2) := by decide +kernel
theorem dX8_farOf_7 : decode cX8_farOf 7 = .ok (.idiv, 1) := by decide +kernel
theorem dX8_farOf_8 : decode cX8_farOf 8 = .ok (.istore_n 2, 1) := by decide +kernel
theorem dX8_farOf_9 : decode cX8_farOf 9 = .ok (.lconst 1, 1) := by decide +kernel
theorem dX8_farOf_10 : decode cX8_farOf 10 = .ok (.lstore_n 3, 1) := by decide +kernel
theorem dX8_farOf_11 : decode cX8_farOf 11 = .ok (.iconst 0, 1) := by decide +kernel
theorem dX8_farOf_12 : decode cX8_farOf 12 = .ok (.istore 5, 2) := by decide +kernel
theorem dX8_farOf_14 : decode cX8_farOf 14 = .ok (.iload 5, 2) := by decide +kernel
theorem dX8_farOf_16 : decode cX8_farOf 16 = .ok (.iload_n 0, 1) := by decide +kernel
theorem dX8_farOf_17 : decode cX8_farOf 17 = .ok (.sipush 5000, 3) := by decide +kernel
theorem dX8_farOf_20 : decode cX8_farOf 20 = .ok (.idiv, 1) := by decide +kernel
theorem dX8_farOf_21 : decode cX8_farOf 21 = .ok (.if_icmp .ge 15, 3) := by decide +kernel
theorem dX8_farOf_24 : decode cX8_farOf 24 = .ok (.lload_n 3, 1) := by decide +kernel
theorem dX8_farOf_25 : decode cX8_farOf 25 = .ok (.ldc2_w 298, 3) := by decide +kernel
theorem dX8_farOf_28 : decode cX8_farOf 28 = .ok (.lmul, 1) := by decide +kernel
theorem dX8_farOf_29 : decode cX8_farOf 29 = .ok (.lstore_n 3, 1) := by decide +kernel
theorem dX8_farOf_30 : decode cX8_farOf 30 = .ok (.iinc 5 1, 3) := by decide +kernel
theorem dX8_farOf_33 : decode cX8_farOf 33 = .ok (.goto (-19), 3) := by decide +kernel
theorem dX8_farOf_36 : decode cX8_farOf 36 = .ok (.iload_n 1, 1) := by decide +kernel
theorem dX8_farOf_37 : decode cX8_farOf 37 = .ok (.ifCond .eq 14, 3) := by decide +kernel
theorem dX8_farOf_40 : decode cX8_farOf 40 = .ok (.iload_n 0, 1) := by decide +kernel
theorem dX8_farOf_41 : decode cX8_farOf 41 = .ok (.bipush 100, 2) := by decide +kernel
theorem dX8_farOf_43 : decode cX8_farOf 43 = .ok (.irem, 1) := by decide +kernel
theorem dX8_farOf_44 : decode cX8_farOf 44 = .ok (.ifCond .ne 14, 3) := by decide +kernel
theorem dX8_farOf_47 : decode cX8_farOf 47 = .ok (.iload_n 2, 1) := by decide +kernel
theorem dX8_farOf_48 : decode cX8_farOf 48 = .ok (.ifCond .ne 10, 3) := by decide +kernel
theorem dX8_farOf_51 : decode cX8_farOf 51 = .ok (.iload_n 2, 1) := by decide +kernel
theorem dX8_farOf_52 : decode cX8_farOf 52 = .ok (.invokestatic 407, 3) := by decide +kernel
theorem dX8_farOf_55 : decode cX8_farOf 55 = .ok (.lload_n 3, 1) := by decide +kernel
theorem dX8_farOf_56 : decode cX8_farOf 56 = .ok (.lmul, 1) := by decide +kernel
theorem dX8_farOf_57 : decode cX8_farOf 57 = .ok (.lreturn, 1) := by decide +kernel
theorem dX8_farOf_58 : decode cX8_farOf 58 = .ok (.iload_n 0, 1) := by decide +kernel
theorem dX8_farOf_59 : decode cX8_farOf 59 = .ok (.bipush 100, 2) := by decide +kernel
theorem dX8_farOf_61 : decode cX8_farOf 61 = .ok (.irem, 1) := by decide +kernel
theorem dX8_farOf_62 : decode cX8_farOf 62 = .ok (.ifCond .ne 12, 3) := by decide +kernel
theorem dX8_farOf_65 : decode cX8_farOf 65 = .ok (.iload_n 2, 1) := by decide +kernel
theorem dX8_farOf_66 : decode cX8_farOf 66 = .ok (.invokestatic 407, 3) := by decide +kernel
theorem dX8_farOf_69 : decode cX8_farOf 69 = .ok (.lconst 1, 1) := by decide +kernel
theorem dX8_farOf_70 : decode cX8_farOf 70 = .ok (.ladd, 1) := by decide +kernel
theorem dX8_farOf_71 : decode cX8_farOf 71 = .ok (.lload_n 3, 1) := by decide +kernel
theorem dX8_farOf_72 : decode cX8_farOf 72 = .ok (.lmul, 1) := by decide +kernel
theorem dX8_farOf_73 : decode cX8_farOf 73 = .ok (.lreturn, 1) := by decide +kernel
theorem dX8_farOf_74 : decode cX8_farOf 74 = .ok (.iload_n 2, 1) := by decide +kernel
theorem dX8_farOf_75 : decode cX8_farOf 75 = .ok (.iconst 1, 1) := by decide +kernel
theorem dX8_farOf_76 : decode cX8_farOf 76 = .ok (.iadd, 1) := by decide +kernel
theorem dX8_farOf_77 : decode cX8_farOf 77 = .ok (.invokestatic 407, 3) := by decide +kernel
theorem dX8_farOf_80 : decode cX8_farOf 80 = .ok (.iload_n 2, 1) := by decide +kernel
theorem dX8_farOf_81 : decode cX8_farOf 81 = .ok (.iconst 1, 1) := by decide +kernel
theorem dX8_farOf_82 : decode cX8_farOf 82 = .ok (.iadd, 1) := by decide +kernel
theorem dX8_farOf_83 : decode cX8_farOf 83 = .ok (.bipush 50, 2) := by decide +kernel
theorem dX8_farOf_85 : decode cX8_farOf 85 = .ok (.if_icmp .ne 7, 3) := by decide +kernel
theorem dX8_farOf_88 : decode cX8_farOf 88 = .ok (.lconst 0, 1) := by decide +kernel
theorem dX8_farOf_89 : decode cX8_farOf 89 = .ok (.goto 4, 3) := by decide +kernel
theorem dX8_farOf_92 : decode cX8_farOf 92 = .ok (.lconst 1, 1) := by decide +kernel
theorem dX8_farOf_93 : decode cX8_farOf 93 = .ok (.ladd, 1) := by decide +kernel
theorem dX8_farOf_94 : decode cX8_farOf 94 = .ok (.lload_n 3, 1) := by decide +kernel
theorem dX8_farOf_95 : decode cX8_farOf 95 = .ok (.lmul, 1) := by decide +kernel
theorem dX8_farOf_96 : decode cX8_farOf 96 = .ok (.lreturn, 1) := by decide +kernel
theorem dX8_far_0 : decode cX8_far 0 = .ok (.iload_n 1, 1) := by decide +kernel
theorem dX8_far_1 : decode cX8_far 1 = .ok (.i2l, 1) := by decide +kernel
theorem dX8_far_2 : decode cX8_far 2 = .ok (.lconst 0, 1) := by decide +kernel
theorem dX8_far_3 : decode cX8_far 3 = .ok (.ldc2_w 171, 3) := by decide +kernel
theorem dX8_far_6 : decode cX8_far 6 = .ok (.invokestatic 130, 3) := by decide +kernel
theorem dX8_far_9 : decode cX8_far 9 = .ok (.ifCond .eq 30, 3) := by decide +kernel
theorem dX8_far_12 : decode cX8_far 12 = .ok (.iload_n 2, 1) := by decide +kernel
theorem dX8_far_13 : decode cX8_far 13 = .ok (.i2l, 1) := by decide +kernel
theorem dX8_far_14 : decode cX8_far 14 = .ok (.lconst 0, 1) := by decide +kernel
theorem dX8_far_15 : decode cX8_far 15 = .ok (.lconst 1, 1) := by decide +kernel
theorem dX8_far_16 : decode cX8_far 16 = .ok (.invokestatic 130, 3) := by decide +kernel
theorem dX8_far_19 : decode cX8_far 19 = .ok (.ifCond .eq 20, 3) := by decide +kernel
theorem dX8_far_22 : decode cX8_far 22 = .ok (.iload_n 1, 1) := by decide +kernel
theorem dX8_far_23 : decode cX8_far 23 = .ok (.iload_n 2, 1) := by decide +kernel
theorem dX8_far_24 : decode cX8_far 24 = .ok (.iconst 1, 1) := by decide +kernel
theorem dX8_far_25 : decode cX8_far 25 = .ok (.if_icmp .ne 7, 3) := by decide +kernel
theorem dX8_far_28 : decode cX8_far 28 = .ok (.iconst 1, 1) := by decide +kernel
theorem dX8_far_29 : decode cX8_far 29 = .ok (.goto 4, 3) := by decide +kernel
theorem dX8_far_32 : decode cX8_far 32 = .ok (.iconst 0, 1) := by decide +kernel
theorem dX8_far_33 : decode cX8_far 33 = .ok (.invokestatic 410, 3) := by decide +kernel
theorem dX8_far_36 : decode cX8_far 36 = .ok (.goto 6, 3) := by decide +kernel
theorem dX8_far_39 : decode cX8_far 39 = .ok (.ldc2_w 414, 3) := by decide +kernel
theorem dX8_far_42 : decode cX8_far 42 = .ok (.lreturn, 1) := by decide +kernel
theorem dX8_isWithin_0 : decode cX8_isWithin 0 = .ok (.aload_n 0, 1) := by decide +kernel
theorem dX8_isWithin_1 : decode cX8_isWithin 1 = .ok (.iload_n 1, 1) := by decide +kernel
theorem dX8_isWithin_2 : decode cX8_isWithin 2 = .ok (.invokevirtual 338, 3) := by decide +kernel
theorem dX8_isWithin_5 : decode cX8_isWithin 5 = .ok (.ifCond .ne 25, 3) := by decide +kernel
theorem dX8_isWithin_8 : decode cX8_isWithin 8 = .ok (.aload_n 0, 1) := by decide +kernel
theorem dX8_isWithin_9 : decode cX8_isWithin 9 = .ok (.iload_n 1, 1) := by decide +kernel
theorem dX8_isWithin_10 : decode cX8_isWithin 10 = .ok (.invokevirtual 362, 3) := by decide +kernel
theorem dX8_isWithin_13 : decode cX8_isWithin 13 = .ok (.ifCond .lt 17, 3) := by decide +kernel
theorem dX8_isWithin_16 : decode cX8_isWithin 16 = .ok (.aload_n 0, 1) := by decide +kernel
theorem dX8_isWithin_17 : decode cX8_isWithin 17 = .ok (.iload_n 1, 1) := by decide +kernel
theorem dX8_isWithin_18 : decode cX8_isWithin 18 = .ok (.invokevirtual 365, 3) := by decide +kernel
theorem dX8_isWithin_21 : decode cX8_isWithin 21 = .ok (.ldc 251, 2) := by decide +kernel
theorem dX8_isWithin_23 : decode cX8_isWithin 23 = .ok (.if_icmp .gt 7, 3) := by decide +kernel
theorem dX8_isWithin_26 : decode cX8_isWithin 26 = .ok (.iconst 1, 1) := by decide +kernel
theorem dX8_isWithin_27 : decode cX8_isWithin 27 = .ok (.goto 4, 3) := by decide +kernel
theorem dX8_isWithin_30 : decode cX8_isWithin 30 = .ok (.iconst 0, 1) := by decide +kernel
theorem dX8_isWithin_31 : decode cX8_isWithin 31 = .ok (.ireturn, 1) := by decide +kernel
theorem dX8_speaks_0 : decode cX8_speaks 0 = .ok (.aload_n 0, 1) := by decide +kernel
theorem dX8_speaks_1 : decode cX8_speaks 1 = .ok (.getfield 50, 3) := by decide +kernel
theorem dX8_speaks_4 : decode cX8_speaks 4 = .ok (.iload_n 1, 1) := by decide +kernel
theorem dX8_speaks_5 : decode cX8_speaks 5 = .ok (.iaload, 1) := by decide +kernel
theorem dX8_speaks_6 : decode cX8_speaks 6 = .ok (.ifCond .lt 15, 3) := by decide +kernel
theorem dX8_speaks_9 : decode cX8_speaks 9 = .ok (.aload_n 0, 1) := by decide +kernel
theorem dX8_speaks_10 : decode cX8_speaks 10 = .ok (.iload_n 1, 1) := by decide +kernel
theorem dX8_speaks_11 : decode cX8_speaks 11 = .ok (.invokevirtual 416, 3) := by decide +kernel
theorem dX8_speaks_14 : decode cX8_speaks 14 = .ok (.ifCond .eq 7, 3) := by decide +kernel
theorem dX8_speaks_17 : decode cX8_speaks 17 = .ok (.iconst 1, 1) := by decide +kernel
theorem dX8_speaks_18 : decode cX8_speaks 18 = .ok (.goto 4, 3) := by decide +kernel
theorem dX8_speaks_21 : decode cX8_speaks 21 = .ok (.iconst 0, 1) := by decide +kernel
theorem dX8_speaks_22 : decode cX8_speaks 22 = .ok (.ireturn, 1) := by decide +kernel
theorem dX8_barring_0 : decode cX8_barring 0 = .ok (.iconst 0, 1) := by decide +kernel
theorem dX8_barring_1 : decode cX8_barring 1 = .ok (.istore_n 2, 1) := by decide +kernel
theorem dX8_barring_2 : decode cX8_barring 2 = .ok (.iload_n 2, 1) := by decide +kernel
theorem dX8_barring_3 : decode cX8_barring 3 = .ok (.bipush 10, 2) := by decide +kernel
theorem dX8_barring_5 : decode cX8_barring 5 = .ok (.if_icmp .ge 86, 3) := by decide +kernel
theorem dX8_barring_8 : decode cX8_barring 8 = .ok (.aload_n 0, 1) := by decide +kernel
theorem dX8_barring_9 : decode cX8_barring 9 = .ok (.iload_n 2, 1) := by decide +kernel
theorem dX8_barring_10 : decode cX8_barring 10 = .ok (.invokevirtual 419, 3) := by decide +kernel
theorem dX8_barring_13 : decode cX8_barring 13 = .ok (.ifCond .eq 72, 3) := by decide +kernel
theorem dX8_barring_16 : decode cX8_barring 16 = .ok (.iload_n 1, 1) := by decide +kernel
theorem dX8_barring_17 : decode cX8_barring 17 = .ok (.i2l, 1) := by decide +kernel
theorem dX8_barring_18 : decode cX8_barring 18 = .ok (.aload_n 0, 1) := by decide +kernel
theorem dX8_barring_19 : decode cX8_barring 19 = .ok (.iload_n 2, 1) := by decide +kernel
theorem dX8_barring_20 : decode cX8_barring 20 = .ok (.invokevirtual 362, 3) := by decide +kernel
theorem dX8_barring_23 : decode cX8_barring 23 = .ok (.iconst 0, 1) := by decide +kernel
theorem dX8_barring_24 : decode cX8_barring 24 = .ok (.invokestatic 410, 3) := by decide +kernel
theorem dX8_barring_27 : decode cX8_barring 27 = .ok (.lmul, 1) := by decide +kernel
theorem dX8_barring_28 : decode cX8_barring 28 = .ok (.ldc2_w 293, 3) := by decide +kernel
theorem dX8_barring_31 : decode cX8_barring 31 = .ok (.invokestatic 124, 3) := by decide +kernel
theorem dX8_barring_34 : decode cX8_barring 34 = .ok (.aload_n 0, 1) := by decide +kernel
theorem dX8_barring_35 : decode cX8_barring 35 = .ok (.getfield 273, 3) := by decide +kernel
theorem dX8_barring_38 : decode cX8_barring 38 = .ok (.i2l, 1) := by decide +kernel
theorem dX8_barring_39 : decode cX8_barring 39 = .ok (.lsub, 1) := by decide +kernel
theorem dX8_barring_40 : decode cX8_barring 40 = .ok (.lstore_n 3, 1) := by decide +kernel
theorem dX8_barring_41 : decode cX8_barring 41 = .ok (.iload_n 1, 1) := by decide +kernel
theorem dX8_barring_42 : decode cX8_barring 42 = .ok (.i2l, 1) := by decide +kernel
theorem dX8_barring_43 : decode cX8_barring 43 = .ok (.aload_n 0, 1) := by decide +kernel
theorem dX8_barring_44 : decode cX8_barring 44 = .ok (.iload_n 2, 1) := by decide +kernel
theorem dX8_barring_45 : decode cX8_barring 45 = .ok (.invokevirtual 365, 3) := by decide +kernel
theorem dX8_barring_48 : decode cX8_barring 48 = .ok (.iconst 1, 1) := by decide +kernel
theorem dX8_barring_49 : decode cX8_barring 49 = .ok (.invokestatic 410, 3) := by decide +kernel
theorem dX8_barring_52 : decode cX8_barring 52 = .ok (.lmul, 1) := by decide +kernel
theorem dX8_barring_53 : decode cX8_barring 53 = .ok (.ldc2_w 293, 3) := by decide +kernel
theorem dX8_barring_56 : decode cX8_barring 56 = .ok (.invokestatic 295, 3) := by decide +kernel
theorem dX8_barring_59 : decode cX8_barring 59 = .ok (.aload_n 0, 1) := by decide +kernel
theorem dX8_barring_60 : decode cX8_barring 60 = .ok (.getfield 273, 3) := by decide +kernel
theorem dX8_barring_63 : decode cX8_barring 63 = .ok (.i2l, 1) := by decide +kernel
theorem dX8_barring_64 : decode cX8_barring 64 = .ok (.ladd, 1) := by decide +kernel
theorem dX8_barring_65 : decode cX8_barring 65 = .ok (.lstore 5, 2) := by decide +kernel
theorem dX8_barring_67 : decode cX8_barring 67 = .ok (.aload_n 0, 1) := by decide +kernel
theorem dX8_barring_68 : decode cX8_barring 68 = .ok (.getfield 50, 3) := by decide +kernel
theorem dX8_barring_71 : decode cX8_barring 71 = .ok (.iload_n 2, 1) := by decide +kernel
theorem dX8_barring_72 : decode cX8_barring 72 = .ok (.iaload, 1) := by decide +kernel
theorem dX8_barring_73 : decode cX8_barring 73 = .ok (.i2l, 1) := by decide +kernel
theorem dX8_barring_74 : decode cX8_barring 74 = .ok (.lload_n 3, 1) := by decide +kernel
theorem dX8_barring_75 : decode cX8_barring 75 = .ok (.lload 5, 2) := by decide +kernel
theorem dX8_barring_77 : decode cX8_barring 77 = .ok (.invokestatic 130, 3) := by decide +kernel
theorem dX8_barring_80 : decode cX8_barring 80 = .ok (.ifCond .ne 5, 3) := by decide +kernel
theorem dX8_barring_83 : decode cX8_barring 83 = .ok (.iload_n 2, 1) := by decide +kernel
theorem dX8_barring_84 : decode cX8_barring 84 = .ok (.ireturn, 1) := by decide +kernel
theorem dX8_barring_85 : decode cX8_barring 85 = .ok (.iinc 2 1, 3) := by decide +kernel
theorem dX8_barring_88 : decode cX8_barring 88 = .ok (.goto (-86), 3) := by decide +kernel
theorem dX8_barring_91 : decode cX8_barring 91 = .ok (.iconst (-1), 1) := by decide +kernel
theorem dX8_barring_92 : decode cX8_barring 92 = .ok (.ireturn, 1) := by decide +kernel
theorem dX8_boxes_0 : decode cX8_boxes 0 = .ok (.iload_n 1, 1) := by decide +kernel
theorem dX8_boxes_1 : decode cX8_boxes 1 = .ok (.i2l, 1) := by decide +kernel
theorem dX8_boxes_2 : decode cX8_boxes 2 = .ok (.lconst 0, 1) := by decide +kernel
theorem dX8_boxes_3 : decode cX8_boxes 3 = .ok (.ldc2_w 422, 3) := by decide +kernel
theorem dX8_boxes_6 : decode cX8_boxes 6 = .ok (.invokestatic 130, 3) := by decide +kernel
theorem dX8_boxes_9 : decode cX8_boxes 9 = .ok (.ifCond .ne 6, 3) := by decide +kernel
theorem dX8_boxes_12 : decode cX8_boxes 12 = .ok (.ldc 164, 2) := by decide +kernel
theorem dX8_boxes_14 : decode cX8_boxes 14 = .ok (.ireturn, 1) := by decide +kernel
theorem dX8_boxes_15 : decode cX8_boxes 15 = .ok (.aload_n 0, 1) := by decide +kernel
theorem dX8_boxes_16 : decode cX8_boxes 16 = .ok (.aload_n 0, 1) := by decide +kernel
theorem dX8_boxes_17 : decode cX8_boxes 17 = .ok (.getfield 136, 3) := by decide +kernel
theorem dX8_boxes_20 : decode cX8_boxes 20 = .ok (.invokevirtual 335, 3) := by decide +kernel
theorem dX8_boxes_23 : decode cX8_boxes 23 = .ok (.ifCond .ne 7, 3) := by decide +kernel
theorem dX8_boxes_26 : decode cX8_boxes 26 = .ok (.ldc_w 357, 3) := by decide +kernel
theorem dX8_boxes_29 : decode cX8_boxes 29 = .ok (.ireturn, 1) := by decide +kernel
theorem dX8_boxes_30 : decode cX8_boxes 30 = .ok (.iconst 0, 1) := by decide +kernel
theorem dX8_boxes_31 : decode cX8_boxes 31 = .ok (.istore_n 2, 1) := by decide +kernel
theorem dX8_boxes_32 : decode cX8_boxes 32 = .ok (.iconst (-1), 1) := by decide +kernel
theorem dX8_boxes_33 : decode cX8_boxes 33 = .ok (.istore_n 3, 1) := by decide +kernel
theorem dX8_boxes_34 : decode cX8_boxes 34 = .ok (.iconst (-1), 1) := by decide +kernel
theorem dX8_boxes_35 : decode cX8_boxes 35 = .ok (.istore 4, 2) := by decide +kernel
theorem dX8_boxes_37 : decode cX8_boxes 37 = .ok (.iconst 0, 1) := by decide +kernel
theorem dX8_boxes_38 : decode cX8_boxes 38 = .ok (.istore 5, 2) := by decide +kernel
theorem dX8_boxes_40 : decode cX8_boxes 40 = .ok (.iconst 1, 1) := by decide +kernel
theorem dX8_boxes_41 : decode cX8_boxes 41 = .ok (.istore 6, 2) := by decide +kernel
theorem dX8_boxes_43 : decode cX8_boxes 43 = .ok (.iload 6, 2) := by decide +kernel
theorem dX8_boxes_45 : decode cX8_boxes 45 = .ok (.sipush 200, 3) := by decide +kernel
theorem dX8_boxes_48 : decode cX8_boxes 48 = .ok (.if_icmp .gt 36, 3) := by decide +kernel
theorem dX8_boxes_51 : decode cX8_boxes 51 = .ok (.aload_n 0, 1) := by decide +kernel
theorem dX8_boxes_52 : decode cX8_boxes 52 = .ok (.iload 6, 2) := by decide +kernel
theorem dX8_boxes_54 : decode cX8_boxes 54 = .ok (.invokevirtual 424, 3) := by decide +kernel
theorem dX8_boxes_57 : decode cX8_boxes 57 = .ok (.ifCond .ge 21, 3) := by decide +kernel
theorem dX8_boxes_60 : decode cX8_boxes 60 = .ok (.iinc 2 1, 3) := by decide +kernel
theorem dX8_boxes_63 : decode cX8_boxes 63 = .ok (.iload_n 3, 1) := by decide +kernel
theorem dX8_boxes_64 : decode cX8_boxes 64 = .ok (.ifCond .ge 8, 3) := by decide +kernel
theorem dX8_boxes_67 : decode cX8_boxes 67 = .ok (.iload 6, 2) := by decide +kernel
theorem dX8_boxes_69 : decode cX8_boxes 69 = .ok (.goto 4, 3) := by decide +kernel
theorem dX8_boxes_72 : decode cX8_boxes 72 = .ok (.iload_n 3, 1) := by decide +kernel
theorem dX8_boxes_73 : decode cX8_boxes 73 = .ok (.istore_n 3, 1) := by decide +kernel
theorem dX8_boxes_74 : decode cX8_boxes 74 = .ok (.iload 6, 2) := by decide +kernel
theorem dX8_boxes_76 : decode cX8_boxes 76 = .ok (.istore 4, 2) := by decide +kernel
theorem dX8_boxes_78 : decode cX8_boxes 78 = .ok (.iinc 6 1, 3) := by decide +kernel
theorem dX8_boxes_81 : decode cX8_boxes 81 = .ok (.goto (-38), 3) := by decide +kernel
theorem dX8_boxes_84 : decode cX8_boxes 84 = .ok (.iconst 0, 1) := by decide +kernel
theorem dX8_boxes_85 : decode cX8_boxes 85 = .ok (.istore 6, 2) := by decide +kernel
theorem dX8_boxes_87 : decode cX8_boxes 87 = .ok (.iload 6, 2) := by decide +kernel
theorem dX8_boxes_89 : decode cX8_boxes 89 = .ok (.bipush 10, 2) := by decide +kernel
theorem dX8_boxes_91 : decode cX8_boxes 91 = .ok (.if_icmp .ge 23, 3) := by decide +kernel
theorem dX8_boxes_94 : decode cX8_boxes 94 = .ok (.iload 5, 2) := by decide +kernel
theorem dX8_boxes_96 : decode cX8_boxes 96 = .ok (.aload_n 0, 1) := by decide +kernel
theorem dX8_boxes_97 : decode cX8_boxes 97 = .ok (.iload 6, 2) := by decide +kernel
theorem dX8_boxes_99 : decode cX8_boxes 99 = .ok (.invokevirtual 419, 3) := by decide +kernel
theorem dX8_boxes_102 : decode cX8_boxes 102 = .ok (.invokestatic 184, 3) := by decide +kernel
theorem dX8_boxes_105 : decode cX8_boxes 105 = .ok (.iadd, 1) := by decide +kernel
theorem dX8_boxes_106 : decode cX8_boxes 106 = .ok (.istore 5, 2) := by decide +kernel
theorem dX8_boxes_108 : decode cX8_boxes 108 = .ok (.iinc 6 1, 3) := by decide +kernel
theorem dX8_boxes_111 : decode cX8_boxes 111 = .ok (.goto (-24), 3) := by decide +kernel
theorem dX8_boxes_114 : decode cX8_boxes 114 = .ok (.iload_n 1, 1) := by decide +kernel
theorem dX8_boxes_115 : decode cX8_boxes 115 = .ok (.ifCond .ne 7, 3) := by decide +kernel
theorem dX8_boxes_118 : decode cX8_boxes 118 = .ok (.iload_n 2, 1) := by decide +kernel
theorem dX8_boxes_119 : decode cX8_boxes 119 = .ok (.goto 24, 3) := by decide +kernel
theorem dX8_boxes_122 : decode cX8_boxes 122 = .ok (.iload_n 1, 1) := by decide +kernel
theorem dX8_boxes_123 : decode cX8_boxes 123 = .ok (.iconst 1, 1) := by decide +kernel
theorem dX8_boxes_124 : decode cX8_boxes 124 = .ok (.if_icmp .ne 7, 3) := by decide +kernel
theorem dX8_boxes_127 : decode cX8_boxes 127 = .ok (.iload_n 3, 1) := by decide +kernel
theorem dX8_boxes_128 : decode cX8_boxes 128 = .ok (.goto 15, 3) := by decide +kernel
theorem dX8_boxes_131 : decode cX8_boxes 131 = .ok (.iload_n 1, 1) := by decide +kernel
theorem dX8_boxes_132 : decode cX8_boxes 132 = .ok (.iconst 2, 1) := by decide +kernel
theorem dX8_boxes_133 : decode cX8_boxes 133 = .ok (.if_icmp .ne 8, 3) := by decide +kernel
theorem dX8_boxes_136 : decode cX8_boxes 136 = .ok (.iload 4, 2) := by decide +kernel
theorem dX8_boxes_138 : decode cX8_boxes 138 = .ok (.goto 5, 3) := by decide +kernel
theorem dX8_boxes_141 : decode cX8_boxes 141 = .ok (.iload 5, 2) := by decide +kernel
theorem dX8_boxes_143 : decode cX8_boxes 143 = .ok (.ireturn, 1) := by decide +kernel
theorem dX8_box_0 : decode cX8_box 0 = .ok (.iload_n 1, 1) := by decide +kernel
theorem dX8_box_1 : decode cX8_box 1 = .ok (.i2l, 1) := by decide +kernel
theorem dX8_box_2 : decode cX8_box 2 = .ok (.lconst 1, 1) := by decide +kernel
theorem dX8_box_3 : decode cX8_box 3 = .ok (.ldc2_w 427, 3) := by decide +kernel
theorem dX8_box_6 : decode cX8_box 6 = .ok (.invokestatic 130, 3) := by decide +kernel
theorem dX8_box_9 : decode cX8_box 9 = .ok (.ifCond .ne 6, 3) := by decide +kernel
theorem dX8_box_12 : decode cX8_box 12 = .ok (.ldc 164, 2) := by decide +kernel
theorem dX8_box_14 : decode cX8_box 14 = .ok (.ireturn, 1) := by decide +kernel
theorem dX8_box_15 : decode cX8_box 15 = .ok (.aload_n 0, 1) := by decide +kernel
theorem dX8_box_16 : decode cX8_box 16 = .ok (.aload_n 0, 1) := by decide +kernel
theorem dX8_box_17 : decode cX8_box 17 = .ok (.getfield 136, 3) := by decide +kernel
theorem dX8_box_20 : decode cX8_box 20 = .ok (.invokevirtual 335, 3) := by decide +kernel
theorem dX8_box_23 : decode cX8_box 23 = .ok (.ifCond .eq 11, 3) := by decide +kernel
theorem dX8_box_26 : decode cX8_box 26 = .ok (.aload_n 0, 1) := by decide +kernel
theorem dX8_box_27 : decode cX8_box 27 = .ok (.iload_n 1, 1) := by decide +kernel
theorem dX8_box_28 : decode cX8_box 28 = .ok (.invokevirtual 424, 3) := by decide +kernel
theorem dX8_box_31 : decode cX8_box 31 = .ok (.goto 6, 3) := by decide +kernel
theorem dX8_box_34 : decode cX8_box 34 = .ok (.ldc_w 357, 3) := by decide +kernel
theorem dX8_box_37 : decode cX8_box 37 = .ok (.ireturn, 1) := by decide +kernel
theorem dX8_delay_0 : decode cX8_delay 0 = .ok (.iload_n 1, 1) := by decide +kernel
theorem dX8_delay_1 : decode cX8_delay 1 = .ok (.invokestatic 150, 3) := by decide +kernel
theorem dX8_delay_4 : decode cX8_delay 4 = .ok (.ifCond .ne 7, 3) := by decide +kernel
theorem dX8_delay_7 : decode cX8_delay 7 = .ok (.ldc2_w 429, 3) := by decide +kernel
theorem dX8_delay_10 : decode cX8_delay 10 = .ok (.lreturn, 1) := by decide +kernel
theorem dX8_delay_11 : decode cX8_delay 11 = .ok (.lload_n 2, 1) := by decide +kernel
theorem dX8_delay_12 : decode cX8_delay 12 = .ok (.lconst 1, 1) := by decide +kernel
theorem dX8_delay_13 : decode cX8_delay 13 = .ok (.lload 4, 2) := by decide +kernel
theorem dX8_delay_15 : decode cX8_delay 15 = .ok (.invokestatic 130, 3) := by decide +kernel
theorem dX8_delay_18 : decode cX8_delay 18 = .ok (.ifCond .eq 12, 3) := by decide +kernel
theorem dX8_delay_21 : decode cX8_delay 21 = .ok (.lload 4, 2) := by decide +kernel
theorem dX8_delay_23 : decode cX8_delay 23 = .ok (.ldc2_w 431, 3) := by decide +kernel
theorem dX8_delay_26 : decode cX8_delay 26 = .ok (.lcmp, 1) := by decide +kernel
theorem dX8_delay_27 : decode cX8_delay 27 = .ok (.ifCond .le 7, 3) := by decide +kernel
theorem dX8_delay_30 : decode cX8_delay 30 = .ok (.ldc2_w 414, 3) := by decide +kernel
theorem dX8_delay_33 : decode cX8_delay 33 = .ok (.lreturn, 1) := by decide +kernel
theorem dX8_delay_34 : decode cX8_delay 34 = .ok (.aload_n 0, 1) := by decide +kernel
theorem dX8_delay_35 : decode cX8_delay 35 = .ok (.aload_n 0, 1) := by decide +kernel
theorem dX8_delay_36 : decode cX8_delay 36 = .ok (.getfield 136, 3) := by decide +kernel
theorem dX8_delay_39 : decode cX8_delay 39 = .ok (.invokevirtual 335, 3) := by decide +kernel
theorem dX8_delay_42 : decode cX8_delay 42 = .ok (.ifCond .ne 7, 3) := by decide +kernel
theorem dX8_delay_45 : decode cX8_delay 45 = .ok (.ldc2_w 433, 3) := by decide +kernel
theorem dX8_delay_48 : decode cX8_delay 48 = .ok (.lreturn, 1) := by decide +kernel
theorem dX8_delay_49 : decode cX8_delay 49 = .ok (.aload_n 0, 1) := by decide +kernel
theorem dX8_delay_50 : decode cX8_delay 50 = .ok (.iload_n 1, 1) := by decide +kernel
theorem dX8_delay_51 : decode cX8_delay 51 = .ok (.invokevirtual 416, 3) := by decide +kernel
theorem dX8_delay_54 : decode cX8_delay 54 = .ok (.ifCond .ne 7, 3) := by decide +kernel
theorem dX8_delay_57 : decode cX8_delay 57 = .ok (.ldc2_w 435, 3) := by decide +kernel
theorem dX8_delay_60 : decode cX8_delay 60 = .ok (.lreturn, 1) := by decide +kernel
theorem dX8_delay_61 : decode cX8_delay 61 = .ok (.aload_n 0, 1) := by decide +kernel
theorem dX8_delay_62 : decode cX8_delay 62 = .ok (.iload_n 1, 1) := by decide +kernel
theorem dX8_delay_63 : decode cX8_delay 63 = .ok (.invokevirtual 362, 3) := by decide +kernel
theorem dX8_delay_66 : decode cX8_delay 66 = .ok (.iconst 0, 1) := by decide +kernel
theorem dX8_delay_67 : decode cX8_delay 67 = .ok (.invokestatic 410, 3) := by decide +kernel
theorem dX8_delay_70 : decode cX8_delay 70 = .ok (.lstore 6, 2) := by decide +kernel
theorem dX8_delay_72 : decode cX8_delay 72 = .ok (.aload_n 0, 1) := by decide +kernel
theorem dX8_delay_73 : decode cX8_delay 73 = .ok (.iload_n 1, 1) := by decide +kernel
theorem dX8_delay_74 : decode cX8_delay 74 = .ok (.invokevirtual 365, 3) := by decide +kernel
theorem dX8_delay_77 : decode cX8_delay 77 = .ok (.iconst 1, 1) := by decide +kernel
theorem dX8_delay_78 : decode cX8_delay 78 = .ok (.invokestatic 410, 3) := by decide +kernel
theorem dX8_delay_81 : decode cX8_delay 81 = .ok (.lstore 8, 2) := by decide +kernel
theorem dX8_delay_83 : decode cX8_delay 83 = .ok (.lload 4, 2) := by decide +kernel
theorem dX8_delay_85 : decode cX8_delay 85 = .ok (.lload 6, 2) := by decide +kernel
theorem dX8_delay_87 : decode cX8_delay 87 = .ok (.lcmp, 1) := by decide +kernel
theorem dX8_delay_88 : decode cX8_delay 88 = .ok (.ifCond .ge 11, 3) := by decide +kernel
theorem dX8_delay_91 : decode cX8_delay 91 = .ok (.lload 6, 2) := by decide +kernel
theorem dX8_delay_93 : decode cX8_delay 93 = .ok (.lload 4, 2) := by decide +kernel
theorem dX8_delay_95 : decode cX8_delay 95 = .ok (.lsub, 1) := by decide +kernel
theorem dX8_delay_96 : decode cX8_delay 96 = .ok (.goto 18, 3) := by decide +kernel
theorem dX8_delay_99 : decode cX8_delay 99 = .ok (.lload_n 2, 1) := by decide +kernel
theorem dX8_delay_100 : decode cX8_delay 100 = .ok (.lload 8, 2) := by decide +kernel
theorem dX8_delay_102 : decode cX8_delay 102 = .ok (.lcmp, 1) := by decide +kernel
theorem dX8_delay_103 : decode cX8_delay 103 = .ok (.ifCond .le 10, 3) := by decide +kernel
theorem dX8_delay_106 : decode cX8_delay 106 = .ok (.lload_n 2, 1) := by decide +kernel
theorem dX8_delay_107 : decode cX8_delay 107 = .ok (.lload 8, 2) := by decide +kernel
theorem dX8_delay_109 : decode cX8_delay 109 = .ok (.lsub, 1) := by decide +kernel
theorem dX8_delay_110 : decode cX8_delay 110 = .ok (.goto 4, 3) := by decide +kernel
theorem dX8_delay_113 : decode cX8_delay 113 = .ok (.lconst 0, 1) := by decide +kernel
theorem dX8_delay_114 : decode cX8_delay 114 = .ok (.lreturn, 1) := by decide +kernel
theorem dX8_blind_0 : decode cX8_blind 0 = .ok (.iload_n 1, 1) := by decide +kernel
theorem dX8_blind_1 : decode cX8_blind 1 = .ok (.i2l, 1) := by decide +kernel
theorem dX8_blind_2 : decode cX8_blind 2 = .ok (.ldc2_w 437, 3) := by decide +kernel
theorem dX8_blind_5 : decode cX8_blind 5 = .ok (.ldc2_w 158, 3) := by decide +kernel
theorem dX8_blind_8 : decode cX8_blind 8 = .ok (.invokestatic 130, 3) := by decide +kernel
theorem dX8_blind_11 : decode cX8_blind 11 = .ok (.ifCond .ne 6, 3) := by decide +kernel
theorem dX8_blind_14 : decode cX8_blind 14 = .ok (.ldc 164, 2) := by decide +kernel
theorem dX8_blind_16 : decode cX8_blind 16 = .ok (.ireturn, 1) := by decide +kernel
theorem dX8_blind_17 : decode cX8_blind 17 = .ok (.aload_n 0, 1) := by decide +kernel
theorem dX8_blind_18 : decode cX8_blind 18 = .ok (.getfield 344, 3) := by decide +kernel
theorem dX8_blind_21 : decode cX8_blind 21 = .ok (.ifCond .eq 6, 3) := by decide +kernel
theorem dX8_blind_24 : decode cX8_blind 24 = .ok (.ldc 188, 2) := by decide +kernel
theorem dX8_blind_26 : decode cX8_blind 26 = .ok (.ireturn, 1) := by decide +kernel
theorem dX8_blind_27 : decode cX8_blind 27 = .ok (.aload_n 0, 1) := by decide +kernel
theorem dX8_blind_28 : decode cX8_blind 28 = .ok (.iload_n 1, 1) := by decide +kernel
theorem dX8_blind_29 : decode cX8_blind 29 = .ok (.putfield 358, 3) := by decide +kernel
theorem dX8_blind_32 : decode cX8_blind 32 = .ok (.aload_n 0, 1) := by decide +kernel
theorem dX8_blind_33 : decode cX8_blind 33 = .ok (.iconst 1, 1) := by decide +kernel
theorem dX8_blind_34 : decode cX8_blind 34 = .ok (.putfield 344, 3) := by decide +kernel
theorem dX8_blind_37 : decode cX8_blind 37 = .ok (.iconst 1, 1) := by decide +kernel
theorem dX8_blind_38 : decode cX8_blind 38 = .ok (.ireturn, 1) := by decide +kernel
theorem dX8_open_0 : decode cX8_open 0 = .ok (.aload_n 0, 1) := by decide +kernel
theorem dX8_open_1 : decode cX8_open 1 = .ok (.getfield 344, 3) := by decide +kernel
theorem dX8_open_4 : decode cX8_open 4 = .ok (.ifCond .eq 10, 3) := by decide +kernel
theorem dX8_open_7 : decode cX8_open 7 = .ok (.aload_n 0, 1) := by decide +kernel
theorem dX8_open_8 : decode cX8_open 8 = .ok (.getfield 348, 3) := by decide +kernel
theorem dX8_open_11 : decode cX8_open 11 = .ok (.ifCond .eq 6, 3) := by decide +kernel
theorem dX8_open_14 : decode cX8_open 14 = .ok (.ldc 188, 2) := by decide +kernel
theorem dX8_open_16 : decode cX8_open 16 = .ok (.ireturn, 1) := by decide +kernel
theorem dX8_open_17 : decode cX8_open 17 = .ok (.aload_n 0, 1) := by decide +kernel
theorem dX8_open_18 : decode cX8_open 18 = .ok (.iconst 1, 1) := by decide +kernel
theorem dX8_open_19 : decode cX8_open 19 = .ok (.putfield 348, 3) := by decide +kernel
theorem dX8_open_22 : decode cX8_open 22 = .ok (.aload_n 0, 1) := by decide +kernel
theorem dX8_open_23 : decode cX8_open 23 = .ok (.getfield 358, 3) := by decide +kernel
theorem dX8_open_26 : decode cX8_open 26 = .ok (.ireturn, 1) := by decide +kernel
theorem dX8_stateOf_0 : decode cX8_stateOf 0 = .ok (.aload_n 0, 1) := by decide +kernel
theorem dX8_stateOf_1 : decode cX8_stateOf 1 = .ok (.getfield 59, 3) := by decide +kernel
theorem dX8_stateOf_4 : decode cX8_stateOf 4 = .ok (.iload_n 1, 1) := by decide +kernel
theorem dX8_stateOf_5 : decode cX8_stateOf 5 = .ok (.iaload, 1) := by decide +kernel
theorem dX8_stateOf_6 : decode cX8_stateOf 6 = .ok (.istore_n 2, 1) := by decide +kernel
theorem dX8_stateOf_7 : decode cX8_stateOf 7 = .ok (.aload_n 0, 1) := by decide +kernel
theorem dX8_stateOf_8 : decode cX8_stateOf 8 = .ok (.iload_n 2, 1) := by decide +kernel
theorem dX8_stateOf_9 : decode cX8_stateOf 9 = .ok (.invokevirtual 338, 3) := by decide +kernel
theorem dX8_stateOf_12 : decode cX8_stateOf 12 = .ok (.ifCond .eq 5, 3) := by decide +kernel
theorem dX8_stateOf_15 : decode cX8_stateOf 15 = .ok (.iconst 0, 1) := by decide +kernel
theorem dX8_stateOf_16 : decode cX8_stateOf 16 = .ok (.ireturn, 1) := by decide +kernel
theorem dX8_stateOf_17 : decode cX8_stateOf 17 = .ok (.aload_n 0, 1) := by decide +kernel
theorem dX8_stateOf_18 : decode cX8_stateOf 18 = .ok (.iload_n 2, 1) := by decide +kernel
theorem dX8_stateOf_19 : decode cX8_stateOf 19 = .ok (.invokevirtual 362, 3) := by decide +kernel
theorem dX8_stateOf_22 : decode cX8_stateOf 22 = .ok (.istore_n 3, 1) := by decide +kernel
theorem dX8_stateOf_23 : decode cX8_stateOf 23 = .ok (.aload_n 0, 1) := by decide +kernel
theorem dX8_stateOf_24 : decode cX8_stateOf 24 = .ok (.iload_n 2, 1) := by decide +kernel
theorem dX8_stateOf_25 : decode cX8_stateOf 25 = .ok (.invokevirtual 365, 3) := by decide +kernel
theorem dX8_stateOf_28 : decode cX8_stateOf 28 = .ok (.istore 4, 2) := by decide +kernel
theorem dX8_stateOf_30 : decode cX8_stateOf 30 = .ok (.aload_n 0, 1) := by decide +kernel
theorem dX8_stateOf_31 : decode cX8_stateOf 31 = .ok (.getfield 65, 3) := by decide +kernel
theorem dX8_stateOf_34 : decode cX8_stateOf 34 = .ok (.iload_n 1, 1) := by decide +kernel
theorem dX8_stateOf_35 : decode cX8_stateOf 35 = .ok (.baload, 1) := by decide +kernel
theorem dX8_stateOf_36 : decode cX8_stateOf 36 = .ok (.ifCond .eq 21, 3) := by decide +kernel
theorem dX8_stateOf_39 : decode cX8_stateOf 39 = .ok (.iload_n 3, 1) := by decide +kernel
theorem dX8_stateOf_40 : decode cX8_stateOf 40 = .ok (.aload_n 0, 1) := by decide +kernel
theorem dX8_stateOf_41 : decode cX8_stateOf 41 = .ok (.getfield 62, 3) := by decide +kernel
theorem dX8_stateOf_44 : decode cX8_stateOf 44 = .ok (.iload_n 1, 1) := by decide +kernel
theorem dX8_stateOf_45 : decode cX8_stateOf 45 = .ok (.iaload, 1) := by decide +kernel
theorem dX8_stateOf_46 : decode cX8_stateOf 46 = .ok (.if_icmp .le 7, 3) := by decide +kernel
theorem dX8_stateOf_49 : decode cX8_stateOf 49 = .ok (.iconst 1, 1) := by decide +kernel
theorem dX8_stateOf_50 : decode cX8_stateOf 50 = .ok (.goto 23, 3) := by decide +kernel
theorem dX8_stateOf_53 : decode cX8_stateOf 53 = .ok (.iconst 0, 1) := by decide +kernel
theorem dX8_stateOf_54 : decode cX8_stateOf 54 = .ok (.goto 19, 3) := by decide +kernel
theorem dX8_stateOf_57 : decode cX8_stateOf 57 = .ok (.iload 4, 2) := by decide +kernel
theorem dX8_stateOf_59 : decode cX8_stateOf 59 = .ok (.aload_n 0, 1) := by decide +kernel
theorem dX8_stateOf_60 : decode cX8_stateOf 60 = .ok (.getfield 62, 3) := by decide +kernel
theorem dX8_stateOf_63 : decode cX8_stateOf 63 = .ok (.iload_n 1, 1) := by decide +kernel
theorem dX8_stateOf_64 : decode cX8_stateOf 64 = .ok (.iaload, 1) := by decide +kernel
theorem dX8_stateOf_65 : decode cX8_stateOf 65 = .ok (.if_icmp .ge 7, 3) := by decide +kernel
theorem dX8_stateOf_68 : decode cX8_stateOf 68 = .ok (.iconst 1, 1) := by decide +kernel
theorem dX8_stateOf_69 : decode cX8_stateOf 69 = .ok (.goto 4, 3) := by decide +kernel
theorem dX8_stateOf_72 : decode cX8_stateOf 72 = .ok (.iconst 0, 1) := by decide +kernel
theorem dX8_stateOf_73 : decode cX8_stateOf 73 = .ok (.istore 5, 2) := by decide +kernel
theorem dX8_stateOf_75 : decode cX8_stateOf 75 = .ok (.aload_n 0, 1) := by decide +kernel
theorem dX8_stateOf_76 : decode cX8_stateOf 76 = .ok (.getfield 65, 3) := by decide +kernel
theorem dX8_stateOf_79 : decode cX8_stateOf 79 = .ok (.iload_n 1, 1) := by decide +kernel
theorem dX8_stateOf_80 : decode cX8_stateOf 80 = .ok (.baload, 1) := by decide +kernel
theorem dX8_stateOf_81 : decode cX8_stateOf 81 = .ok (.ifCond .eq 22, 3) := by decide +kernel
theorem dX8_stateOf_84 : decode cX8_stateOf 84 = .ok (.iload 4, 2) := by decide +kernel
theorem dX8_stateOf_86 : decode cX8_stateOf 86 = .ok (.aload_n 0, 1) := by decide +kernel
theorem dX8_stateOf_87 : decode cX8_stateOf 87 = .ok (.getfield 62, 3) := by decide +kernel
theorem dX8_stateOf_90 : decode cX8_stateOf 90 = .ok (.iload_n 1, 1) := by decide +kernel
theorem dX8_stateOf_91 : decode cX8_stateOf 91 = .ok (.iaload, 1) := by decide +kernel
theorem dX8_stateOf_92 : decode cX8_stateOf 92 = .ok (.if_icmp .gt 7, 3) := by decide +kernel
theorem dX8_stateOf_95 : decode cX8_stateOf 95 = .ok (.iconst 1, 1) := by decide +kernel
theorem dX8_stateOf_96 : decode cX8_stateOf 96 = .ok (.goto 22, 3) := by decide +kernel
theorem dX8_stateOf_99 : decode cX8_stateOf 99 = .ok (.iconst 0, 1) := by decide +kernel
theorem dX8_stateOf_100 : decode cX8_stateOf 100 = .ok (.goto 18, 3) := by decide +kernel
theorem dX8_stateOf_103 : decode cX8_stateOf 103 = .ok (.iload_n 3, 1) := by decide +kernel
theorem dX8_stateOf_104 : decode cX8_stateOf 104 = .ok (.aload_n 0, 1) := by decide +kernel
theorem dX8_stateOf_105 : decode cX8_stateOf 105 = .ok (.getfield 62, 3) := by decide +kernel
theorem dX8_stateOf_108 : decode cX8_stateOf 108 = .ok (.iload_n 1, 1) := by decide +kernel
theorem dX8_stateOf_109 : decode cX8_stateOf 109 = .ok (.iaload, 1) := by decide +kernel
theorem dX8_stateOf_110 : decode cX8_stateOf 110 = .ok (.if_icmp .lt 7, 3) := by decide +kernel
theorem dX8_stateOf_113 : decode cX8_stateOf 113 = .ok (.iconst 1, 1) := by decide +kernel
theorem dX8_stateOf_114 : decode cX8_stateOf 114 = .ok (.goto 4, 3) := by decide +kernel
theorem dX8_stateOf_117 : decode cX8_stateOf 117 = .ok (.iconst 0, 1) := by decide +kernel
theorem dX8_stateOf_118 : decode cX8_stateOf 118 = .ok (.istore 6, 2) := by decide +kernel
theorem dX8_stateOf_120 : decode cX8_stateOf 120 = .ok (.iload 5, 2) := by decide +kernel
theorem dX8_stateOf_122 : decode cX8_stateOf 122 = .ok (.ifCond .eq 7, 3) := by decide +kernel
theorem dX8_stateOf_125 : decode cX8_stateOf 125 = .ok (.iconst 1, 1) := by decide +kernel
theorem dX8_stateOf_126 : decode cX8_stateOf 126 = .ok (.goto 13, 3) := by decide +kernel
theorem dX8_stateOf_129 : decode cX8_stateOf 129 = .ok (.iload 6, 2) := by decide +kernel
theorem dX8_stateOf_131 : decode cX8_stateOf 131 = .ok (.ifCond .eq 7, 3) := by decide +kernel
theorem dX8_stateOf_134 : decode cX8_stateOf 134 = .ok (.iconst 2, 1) := by decide +kernel
theorem dX8_stateOf_135 : decode cX8_stateOf 135 = .ok (.goto 4, 3) := by decide +kernel
theorem dX8_stateOf_138 : decode cX8_stateOf 138 = .ok (.iconst 0, 1) := by decide +kernel
theorem dX8_stateOf_139 : decode cX8_stateOf 139 = .ok (.ireturn, 1) := by decide +kernel
theorem dX8_claim_0 : decode cX8_claim 0 = .ok (.iload_n 1, 1) := by decide +kernel
theorem dX8_claim_1 : decode cX8_claim 1 = .ok (.i2l, 1) := by decide +kernel
theorem dX8_claim_2 : decode cX8_claim 2 = .ok (.lconst 0, 1) := by decide +kernel
theorem dX8_claim_3 : decode cX8_claim 3 = .ok (.aload_n 0, 1) := by decide +kernel
theorem dX8_claim_4 : decode cX8_claim 4 = .ok (.getfield 276, 3) := by decide +kernel
theorem dX8_claim_7 : decode cX8_claim 7 = .ok (.iconst 1, 1) := by decide +kernel
theorem dX8_claim_8 : decode cX8_claim 8 = .ok (.isub, 1) := by decide +kernel
theorem dX8_claim_9 : decode cX8_claim 9 = .ok (.i2l, 1) := by decide +kernel
theorem dX8_claim_10 : decode cX8_claim 10 = .ok (.invokestatic 130, 3) := by decide +kernel
theorem dX8_claim_13 : decode cX8_claim 13 = .ok (.ifCond .ne 6, 3) := by decide +kernel
theorem dX8_claim_16 : decode cX8_claim 16 = .ok (.ldc 153, 2) := by decide +kernel
theorem dX8_claim_18 : decode cX8_claim 18 = .ok (.ireturn, 1) := by decide +kernel
theorem dX8_claim_19 : decode cX8_claim 19 = .ok (.iload_n 2, 1) := by decide +kernel
theorem dX8_claim_20 : decode cX8_claim 20 = .ok (.tableswitch 79 0 3 #[32, 55, 62, 69], 32) := by decide +kernel
theorem dX8_claim_52 : decode cX8_claim 52 = .ok (.aload_n 0, 1) := by decide +kernel
theorem dX8_claim_53 : decode cX8_claim 53 = .ok (.aload_n 0, 1) := by decide +kernel
theorem dX8_claim_54 : decode cX8_claim 54 = .ok (.getfield 136, 3) := by decide +kernel
theorem dX8_claim_57 : decode cX8_claim 57 = .ok (.invokevirtual 335, 3) := by decide +kernel
theorem dX8_claim_60 : decode cX8_claim 60 = .ok (.ifCond .eq 11, 3) := by decide +kernel
theorem dX8_claim_63 : decode cX8_claim 63 = .ok (.aload_n 0, 1) := by decide +kernel
theorem dX8_claim_64 : decode cX8_claim 64 = .ok (.iload_n 1, 1) := by decide +kernel
theorem dX8_claim_65 : decode cX8_claim 65 = .ok (.invokevirtual 439, 3) := by decide +kernel
theorem dX8_claim_68 : decode cX8_claim 68 = .ok (.goto 6, 3) := by decide +kernel
theorem dX8_claim_71 : decode cX8_claim 71 = .ok (.ldc_w 357, 3) := by decide +kernel
theorem dX8_claim_74 : decode cX8_claim 74 = .ok (.ireturn, 1) := by decide +kernel
theorem dX8_claim_75 : decode cX8_claim 75 = .ok (.aload_n 0, 1) := by decide +kernel
theorem dX8_claim_76 : decode cX8_claim 76 = .ok (.getfield 59, 3) := by decide +kernel
theorem dX8_claim_79 : decode cX8_claim 79 = .ok (.iload_n 1, 1) := by decide +kernel
theorem dX8_claim_80 : decode cX8_claim 80 = .ok (.iaload, 1) := by decide +kernel
theorem dX8_claim_81 : decode cX8_claim 81 = .ok (.ireturn, 1) := by decide +kernel
theorem dX8_claim_82 : decode cX8_claim 82 = .ok (.aload_n 0, 1) := by decide +kernel
theorem dX8_claim_83 : decode cX8_claim 83 = .ok (.getfield 62, 3) := by decide +kernel
theorem dX8_claim_86 : decode cX8_claim 86 = .ok (.iload_n 1, 1) := by decide +kernel
theorem dX8_claim_87 : decode cX8_claim 87 = .ok (.iaload, 1) := by decide +kernel
theorem dX8_claim_88 : decode cX8_claim 88 = .ok (.ireturn, 1) := by decide +kernel
theorem dX8_claim_89 : decode cX8_claim 89 = .ok (.aload_n 0, 1) := by decide +kernel
theorem dX8_claim_90 : decode cX8_claim 90 = .ok (.getfield 65, 3) := by decide +kernel
theorem dX8_claim_93 : decode cX8_claim 93 = .ok (.iload_n 1, 1) := by decide +kernel
theorem dX8_claim_94 : decode cX8_claim 94 = .ok (.baload, 1) := by decide +kernel
theorem dX8_claim_95 : decode cX8_claim 95 = .ok (.invokestatic 184, 3) := by decide +kernel
theorem dX8_claim_98 : decode cX8_claim 98 = .ok (.ireturn, 1) := by decide +kernel
theorem dX8_claim_99 : decode cX8_claim 99 = .ok (.ldc 164, 2) := by decide +kernel
theorem dX8_claim_101 : decode cX8_claim 101 = .ok (.ireturn, 1) := by decide +kernel

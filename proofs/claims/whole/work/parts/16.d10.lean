/-! DECODED: written by wip/whole/gen/dec.py -/
theorem d_M_best_0 : decode m_M_best.2.1 0 = .ok (.aload_n 0, 1) := by decide +kernel
theorem d_M_best_1 : decode m_M_best.2.1 1 = .ok (.ldc 145, 2) := by decide +kernel
theorem d_M_best_3 : decode m_M_best.2.1 3 = .ok (.putfield 193, 3) := by decide +kernel
theorem d_M_best_6 : decode m_M_best.2.1 6 = .ok (.iconst (-1), 1) := by decide +kernel
theorem d_M_best_7 : decode m_M_best.2.1 7 = .ok (.istore_n 2, 1) := by decide +kernel
theorem d_M_best_8 : decode m_M_best.2.1 8 = .ok (.iconst 0, 1) := by decide +kernel
theorem d_M_best_9 : decode m_M_best.2.1 9 = .ok (.istore_n 3, 1) := by decide +kernel
theorem d_M_best_10 : decode m_M_best.2.1 10 = .ok (.iload_n 3, 1) := by decide +kernel
theorem d_M_best_11 : decode m_M_best.2.1 11 = .ok (.aload_n 0, 1) := by decide +kernel
theorem d_M_best_12 : decode m_M_best.2.1 12 = .ok (.getfield 7, 3) := by decide +kernel
theorem d_M_best_15 : decode m_M_best.2.1 15 = .ok (.iload_n 1, 1) := by decide +kernel
theorem d_M_best_16 : decode m_M_best.2.1 16 = .ok (.iaload, 1) := by decide +kernel
theorem d_M_best_17 : decode m_M_best.2.1 17 = .ok (.if_icmp .ge 60, 3) := by decide +kernel
theorem d_M_best_20 : decode m_M_best.2.1 20 = .ok (.aload_n 0, 1) := by decide +kernel
theorem d_M_best_21 : decode m_M_best.2.1 21 = .ok (.getfield 92, 3) := by decide +kernel
theorem d_M_best_24 : decode m_M_best.2.1 24 = .ok (.iload_n 1, 1) := by decide +kernel
theorem d_M_best_25 : decode m_M_best.2.1 25 = .ok (.iload_n 3, 1) := by decide +kernel
theorem d_M_best_26 : decode m_M_best.2.1 26 = .ok (.iastore, 1) := by decide +kernel
theorem d_M_best_27 : decode m_M_best.2.1 27 = .ok (.aload_n 0, 1) := by decide +kernel
theorem d_M_best_28 : decode m_M_best.2.1 28 = .ok (.iload_n 1, 1) := by decide +kernel
theorem d_M_best_29 : decode m_M_best.2.1 29 = .ok (.invokevirtual 196, 3) := by decide +kernel
theorem d_M_best_32 : decode m_M_best.2.1 32 = .ok (.istore 4, 2) := by decide +kernel
theorem d_M_best_34 : decode m_M_best.2.1 34 = .ok (.iload 4, 2) := by decide +kernel
theorem d_M_best_36 : decode m_M_best.2.1 36 = .ok (.aload_n 0, 1) := by decide +kernel
theorem d_M_best_37 : decode m_M_best.2.1 37 = .ok (.getfield 193, 3) := by decide +kernel
theorem d_M_best_40 : decode m_M_best.2.1 40 = .ok (.if_icmp .ge 7, 3) := by decide +kernel
theorem d_M_best_43 : decode m_M_best.2.1 43 = .ok (.iload_n 3, 1) := by decide +kernel
theorem d_M_best_44 : decode m_M_best.2.1 44 = .ok (.goto 4, 3) := by decide +kernel
theorem d_M_best_47 : decode m_M_best.2.1 47 = .ok (.iload_n 2, 1) := by decide +kernel
theorem d_M_best_48 : decode m_M_best.2.1 48 = .ok (.istore_n 2, 1) := by decide +kernel
theorem d_M_best_49 : decode m_M_best.2.1 49 = .ok (.aload_n 0, 1) := by decide +kernel
theorem d_M_best_50 : decode m_M_best.2.1 50 = .ok (.iload 4, 2) := by decide +kernel
theorem d_M_best_52 : decode m_M_best.2.1 52 = .ok (.aload_n 0, 1) := by decide +kernel
theorem d_M_best_53 : decode m_M_best.2.1 53 = .ok (.getfield 193, 3) := by decide +kernel
theorem d_M_best_56 : decode m_M_best.2.1 56 = .ok (.if_icmp .ge 8, 3) := by decide +kernel
theorem d_M_best_59 : decode m_M_best.2.1 59 = .ok (.iload 4, 2) := by decide +kernel
theorem d_M_best_61 : decode m_M_best.2.1 61 = .ok (.goto 7, 3) := by decide +kernel
theorem d_M_best_64 : decode m_M_best.2.1 64 = .ok (.aload_n 0, 1) := by decide +kernel
theorem d_M_best_65 : decode m_M_best.2.1 65 = .ok (.getfield 193, 3) := by decide +kernel
theorem d_M_best_68 : decode m_M_best.2.1 68 = .ok (.putfield 193, 3) := by decide +kernel
theorem d_M_best_71 : decode m_M_best.2.1 71 = .ok (.iinc 3 1, 3) := by decide +kernel
theorem d_M_best_74 : decode m_M_best.2.1 74 = .ok (.goto (-64), 3) := by decide +kernel
theorem d_M_best_77 : decode m_M_best.2.1 77 = .ok (.iload_n 2, 1) := by decide +kernel
theorem d_M_best_78 : decode m_M_best.2.1 78 = .ok (.ireturn, 1) := by decide +kernel
theorem d_M_costNow_0 : decode m_M_costNow.2.1 0 = .ok (.aload_n 0, 1) := by decide +kernel
theorem d_M_costNow_1 : decode m_M_costNow.2.1 1 = .ok (.getfield 13, 3) := by decide +kernel
theorem d_M_costNow_4 : decode m_M_costNow.2.1 4 = .ok (.iconst 4, 1) := by decide +kernel
theorem d_M_costNow_5 : decode m_M_costNow.2.1 5 = .ok (.iload_n 1, 1) := by decide +kernel
theorem d_M_costNow_6 : decode m_M_costNow.2.1 6 = .ok (.imul, 1) := by decide +kernel
theorem d_M_costNow_7 : decode m_M_costNow.2.1 7 = .ok (.aload_n 0, 1) := by decide +kernel
theorem d_M_costNow_8 : decode m_M_costNow.2.1 8 = .ok (.getfield 92, 3) := by decide +kernel
theorem d_M_costNow_11 : decode m_M_costNow.2.1 11 = .ok (.iload_n 1, 1) := by decide +kernel
theorem d_M_costNow_12 : decode m_M_costNow.2.1 12 = .ok (.iaload, 1) := by decide +kernel
theorem d_M_costNow_13 : decode m_M_costNow.2.1 13 = .ok (.iadd, 1) := by decide +kernel
theorem d_M_costNow_14 : decode m_M_costNow.2.1 14 = .ok (.iaload, 1) := by decide +kernel
theorem d_M_costNow_15 : decode m_M_costNow.2.1 15 = .ok (.istore_n 2, 1) := by decide +kernel
theorem d_M_costNow_16 : decode m_M_costNow.2.1 16 = .ok (.iconst 0, 1) := by decide +kernel
theorem d_M_costNow_17 : decode m_M_costNow.2.1 17 = .ok (.istore_n 3, 1) := by decide +kernel
theorem d_M_costNow_18 : decode m_M_costNow.2.1 18 = .ok (.iload_n 3, 1) := by decide +kernel
theorem d_M_costNow_19 : decode m_M_costNow.2.1 19 = .ok (.aload_n 0, 1) := by decide +kernel
theorem d_M_costNow_20 : decode m_M_costNow.2.1 20 = .ok (.getfield 146, 3) := by decide +kernel
theorem d_M_costNow_23 : decode m_M_costNow.2.1 23 = .ok (.if_icmp .ge 119, 3) := by decide +kernel
theorem d_M_costNow_26 : decode m_M_costNow.2.1 26 = .ok (.aload_n 0, 1) := by decide +kernel
theorem d_M_costNow_27 : decode m_M_costNow.2.1 27 = .ok (.getfield 16, 3) := by decide +kernel
theorem d_M_costNow_30 : decode m_M_costNow.2.1 30 = .ok (.iload_n 3, 1) := by decide +kernel
theorem d_M_costNow_31 : decode m_M_costNow.2.1 31 = .ok (.iaload, 1) := by decide +kernel
theorem d_M_costNow_32 : decode m_M_costNow.2.1 32 = .ok (.iload_n 1, 1) := by decide +kernel
theorem d_M_costNow_33 : decode m_M_costNow.2.1 33 = .ok (.if_icmp .ne 21, 3) := by decide +kernel
theorem d_M_costNow_36 : decode m_M_costNow.2.1 36 = .ok (.aload_n 0, 1) := by decide +kernel
theorem d_M_costNow_37 : decode m_M_costNow.2.1 37 = .ok (.getfield 50, 3) := by decide +kernel
theorem d_M_costNow_40 : decode m_M_costNow.2.1 40 = .ok (.iload_n 1, 1) := by decide +kernel
theorem d_M_costNow_41 : decode m_M_costNow.2.1 41 = .ok (.iaload, 1) := by decide +kernel
theorem d_M_costNow_42 : decode m_M_costNow.2.1 42 = .ok (.aload_n 0, 1) := by decide +kernel
theorem d_M_costNow_43 : decode m_M_costNow.2.1 43 = .ok (.getfield 19, 3) := by decide +kernel
theorem d_M_costNow_46 : decode m_M_costNow.2.1 46 = .ok (.iload_n 3, 1) := by decide +kernel
theorem d_M_costNow_47 : decode m_M_costNow.2.1 47 = .ok (.iaload, 1) := by decide +kernel
theorem d_M_costNow_48 : decode m_M_costNow.2.1 48 = .ok (.invokestatic 120, 3) := by decide +kernel
theorem d_M_costNow_51 : decode m_M_costNow.2.1 51 = .ok (.ifCond .ne 31, 3) := by decide +kernel
theorem d_M_costNow_54 : decode m_M_costNow.2.1 54 = .ok (.aload_n 0, 1) := by decide +kernel
theorem d_M_costNow_55 : decode m_M_costNow.2.1 55 = .ok (.getfield 19, 3) := by decide +kernel
theorem d_M_costNow_58 : decode m_M_costNow.2.1 58 = .ok (.iload_n 3, 1) := by decide +kernel
theorem d_M_costNow_59 : decode m_M_costNow.2.1 59 = .ok (.iaload, 1) := by decide +kernel
theorem d_M_costNow_60 : decode m_M_costNow.2.1 60 = .ok (.iload_n 1, 1) := by decide +kernel
theorem d_M_costNow_61 : decode m_M_costNow.2.1 61 = .ok (.if_icmp .ne 25, 3) := by decide +kernel
theorem d_M_costNow_64 : decode m_M_costNow.2.1 64 = .ok (.aload_n 0, 1) := by decide +kernel
theorem d_M_costNow_65 : decode m_M_costNow.2.1 65 = .ok (.getfield 50, 3) := by decide +kernel
theorem d_M_costNow_68 : decode m_M_costNow.2.1 68 = .ok (.iload_n 1, 1) := by decide +kernel
theorem d_M_costNow_69 : decode m_M_costNow.2.1 69 = .ok (.iaload, 1) := by decide +kernel
theorem d_M_costNow_70 : decode m_M_costNow.2.1 70 = .ok (.aload_n 0, 1) := by decide +kernel
theorem d_M_costNow_71 : decode m_M_costNow.2.1 71 = .ok (.getfield 16, 3) := by decide +kernel
theorem d_M_costNow_74 : decode m_M_costNow.2.1 74 = .ok (.iload_n 3, 1) := by decide +kernel
theorem d_M_costNow_75 : decode m_M_costNow.2.1 75 = .ok (.iaload, 1) := by decide +kernel
theorem d_M_costNow_76 : decode m_M_costNow.2.1 76 = .ok (.invokestatic 120, 3) := by decide +kernel
theorem d_M_costNow_79 : decode m_M_costNow.2.1 79 = .ok (.ifCond .eq 7, 3) := by decide +kernel
theorem d_M_costNow_82 : decode m_M_costNow.2.1 82 = .ok (.iconst 1, 1) := by decide +kernel
theorem d_M_costNow_83 : decode m_M_costNow.2.1 83 = .ok (.goto 4, 3) := by decide +kernel
theorem d_M_costNow_86 : decode m_M_costNow.2.1 86 = .ok (.iconst 0, 1) := by decide +kernel
theorem d_M_costNow_87 : decode m_M_costNow.2.1 87 = .ok (.istore 4, 2) := by decide +kernel
theorem d_M_costNow_89 : decode m_M_costNow.2.1 89 = .ok (.iload 4, 2) := by decide +kernel
theorem d_M_costNow_91 : decode m_M_costNow.2.1 91 = .ok (.ifCond .eq 43, 3) := by decide +kernel
theorem d_M_costNow_94 : decode m_M_costNow.2.1 94 = .ok (.iload_n 2, 1) := by decide +kernel
theorem d_M_costNow_95 : decode m_M_costNow.2.1 95 = .ok (.aload_n 0, 1) := by decide +kernel
theorem d_M_costNow_96 : decode m_M_costNow.2.1 96 = .ok (.getfield 22, 3) := by decide +kernel
theorem d_M_costNow_99 : decode m_M_costNow.2.1 99 = .ok (.bipush 16, 2) := by decide +kernel
theorem d_M_costNow_101 : decode m_M_costNow.2.1 101 = .ok (.iload_n 3, 1) := by decide +kernel
theorem d_M_costNow_102 : decode m_M_costNow.2.1 102 = .ok (.imul, 1) := by decide +kernel
theorem d_M_costNow_103 : decode m_M_costNow.2.1 103 = .ok (.iconst 4, 1) := by decide +kernel
theorem d_M_costNow_104 : decode m_M_costNow.2.1 104 = .ok (.aload_n 0, 1) := by decide +kernel
theorem d_M_costNow_105 : decode m_M_costNow.2.1 105 = .ok (.getfield 92, 3) := by decide +kernel
theorem d_M_costNow_108 : decode m_M_costNow.2.1 108 = .ok (.aload_n 0, 1) := by decide +kernel
theorem d_M_costNow_109 : decode m_M_costNow.2.1 109 = .ok (.getfield 16, 3) := by decide +kernel
theorem d_M_costNow_112 : decode m_M_costNow.2.1 112 = .ok (.iload_n 3, 1) := by decide +kernel
theorem d_M_costNow_113 : decode m_M_costNow.2.1 113 = .ok (.iaload, 1) := by decide +kernel
theorem d_M_costNow_114 : decode m_M_costNow.2.1 114 = .ok (.iaload, 1) := by decide +kernel
theorem d_M_costNow_115 : decode m_M_costNow.2.1 115 = .ok (.imul, 1) := by decide +kernel
theorem d_M_costNow_116 : decode m_M_costNow.2.1 116 = .ok (.iadd, 1) := by decide +kernel
theorem d_M_costNow_117 : decode m_M_costNow.2.1 117 = .ok (.aload_n 0, 1) := by decide +kernel
theorem d_M_costNow_118 : decode m_M_costNow.2.1 118 = .ok (.getfield 92, 3) := by decide +kernel
theorem d_M_costNow_121 : decode m_M_costNow.2.1 121 = .ok (.aload_n 0, 1) := by decide +kernel
theorem d_M_costNow_122 : decode m_M_costNow.2.1 122 = .ok (.getfield 19, 3) := by decide +kernel
theorem d_M_costNow_125 : decode m_M_costNow.2.1 125 = .ok (.iload_n 3, 1) := by decide +kernel
theorem d_M_costNow_126 : decode m_M_costNow.2.1 126 = .ok (.iaload, 1) := by decide +kernel
theorem d_M_costNow_127 : decode m_M_costNow.2.1 127 = .ok (.iaload, 1) := by decide +kernel
theorem d_M_costNow_128 : decode m_M_costNow.2.1 128 = .ok (.iadd, 1) := by decide +kernel
theorem d_M_costNow_129 : decode m_M_costNow.2.1 129 = .ok (.iaload, 1) := by decide +kernel
theorem d_M_costNow_130 : decode m_M_costNow.2.1 130 = .ok (.iadd, 1) := by decide +kernel
theorem d_M_costNow_131 : decode m_M_costNow.2.1 131 = .ok (.goto 4, 3) := by decide +kernel
theorem d_M_costNow_134 : decode m_M_costNow.2.1 134 = .ok (.iload_n 2, 1) := by decide +kernel
theorem d_M_costNow_135 : decode m_M_costNow.2.1 135 = .ok (.istore_n 2, 1) := by decide +kernel
theorem d_M_costNow_136 : decode m_M_costNow.2.1 136 = .ok (.iinc 3 1, 3) := by decide +kernel
theorem d_M_costNow_139 : decode m_M_costNow.2.1 139 = .ok (.goto (-121), 3) := by decide +kernel
theorem d_M_costNow_142 : decode m_M_costNow.2.1 142 = .ok (.iconst 0, 1) := by decide +kernel
theorem d_M_costNow_143 : decode m_M_costNow.2.1 143 = .ok (.istore_n 3, 1) := by decide +kernel
theorem d_M_costNow_144 : decode m_M_costNow.2.1 144 = .ok (.iload_n 3, 1) := by decide +kernel
theorem d_M_costNow_145 : decode m_M_costNow.2.1 145 = .ok (.aload_n 0, 1) := by decide +kernel
theorem d_M_costNow_146 : decode m_M_costNow.2.1 146 = .ok (.getfield 62, 3) := by decide +kernel
theorem d_M_costNow_149 : decode m_M_costNow.2.1 149 = .ok (.iload_n 1, 1) := by decide +kernel
theorem d_M_costNow_150 : decode m_M_costNow.2.1 150 = .ok (.iaload, 1) := by decide +kernel
theorem d_M_costNow_151 : decode m_M_costNow.2.1 151 = .ok (.if_icmp .ge 46, 3) := by decide +kernel
theorem d_M_costNow_154 : decode m_M_costNow.2.1 154 = .ok (.bipush 8, 2) := by decide +kernel
theorem d_M_costNow_156 : decode m_M_costNow.2.1 156 = .ok (.aload_n 0, 1) := by decide +kernel
theorem d_M_costNow_157 : decode m_M_costNow.2.1 157 = .ok (.getfield 59, 3) := by decide +kernel
theorem d_M_costNow_160 : decode m_M_costNow.2.1 160 = .ok (.bipush 8, 2) := by decide +kernel
theorem d_M_costNow_162 : decode m_M_costNow.2.1 162 = .ok (.iload_n 1, 1) := by decide +kernel
theorem d_M_costNow_163 : decode m_M_costNow.2.1 163 = .ok (.imul, 1) := by decide +kernel
theorem d_M_costNow_164 : decode m_M_costNow.2.1 164 = .ok (.iload_n 3, 1) := by decide +kernel
theorem d_M_costNow_165 : decode m_M_costNow.2.1 165 = .ok (.iadd, 1) := by decide +kernel
theorem d_M_costNow_166 : decode m_M_costNow.2.1 166 = .ok (.iaload, 1) := by decide +kernel
theorem d_M_costNow_167 : decode m_M_costNow.2.1 167 = .ok (.iadd, 1) := by decide +kernel
theorem d_M_costNow_168 : decode m_M_costNow.2.1 168 = .ok (.istore 4, 2) := by decide +kernel
theorem d_M_costNow_170 : decode m_M_costNow.2.1 170 = .ok (.iload_n 2, 1) := by decide +kernel
theorem d_M_costNow_171 : decode m_M_costNow.2.1 171 = .ok (.aload_n 0, 1) := by decide +kernel
theorem d_M_costNow_172 : decode m_M_costNow.2.1 172 = .ok (.getfield 77, 3) := by decide +kernel
theorem d_M_costNow_175 : decode m_M_costNow.2.1 175 = .ok (.sipush 256, 3) := by decide +kernel
theorem d_M_costNow_178 : decode m_M_costNow.2.1 178 = .ok (.iload 4, 2) := by decide +kernel
theorem d_M_costNow_180 : decode m_M_costNow.2.1 180 = .ok (.imul, 1) := by decide +kernel
theorem d_M_costNow_181 : decode m_M_costNow.2.1 181 = .ok (.aload_n 0, 1) := by decide +kernel
theorem d_M_costNow_182 : decode m_M_costNow.2.1 182 = .ok (.iload 4, 2) := by decide +kernel
theorem d_M_costNow_184 : decode m_M_costNow.2.1 184 = .ok (.invokevirtual 190, 3) := by decide +kernel
theorem d_M_costNow_187 : decode m_M_costNow.2.1 187 = .ok (.iadd, 1) := by decide +kernel
theorem d_M_costNow_188 : decode m_M_costNow.2.1 188 = .ok (.iaload, 1) := by decide +kernel
theorem d_M_costNow_189 : decode m_M_costNow.2.1 189 = .ok (.iadd, 1) := by decide +kernel
theorem d_M_costNow_190 : decode m_M_costNow.2.1 190 = .ok (.istore_n 2, 1) := by decide +kernel
theorem d_M_costNow_191 : decode m_M_costNow.2.1 191 = .ok (.iinc 3 1, 3) := by decide +kernel
theorem d_M_costNow_194 : decode m_M_costNow.2.1 194 = .ok (.goto (-50), 3) := by decide +kernel
theorem d_M_costNow_197 : decode m_M_costNow.2.1 197 = .ok (.iload_n 2, 1) := by decide +kernel
theorem d_M_costNow_198 : decode m_M_costNow.2.1 198 = .ok (.ldc 145, 2) := by decide +kernel
theorem d_M_costNow_200 : decode m_M_costNow.2.1 200 = .ok (.if_icmp .le 8, 3) := by decide +kernel
theorem d_M_costNow_203 : decode m_M_costNow.2.1 203 = .ok (.ldc 145, 2) := by decide +kernel
theorem d_M_costNow_205 : decode m_M_costNow.2.1 205 = .ok (.goto 4, 3) := by decide +kernel
theorem d_M_costNow_208 : decode m_M_costNow.2.1 208 = .ok (.iload_n 2, 1) := by decide +kernel
theorem d_M_costNow_209 : decode m_M_costNow.2.1 209 = .ok (.ireturn, 1) := by decide +kernel
theorem d_M_placeIn_0 : decode m_M_placeIn.2.1 0 = .ok (.iconst 0, 1) := by decide +kernel
theorem d_M_placeIn_1 : decode m_M_placeIn.2.1 1 = .ok (.istore_n 2, 1) := by decide +kernel
theorem d_M_placeIn_2 : decode m_M_placeIn.2.1 2 = .ok (.iconst 1, 1) := by decide +kernel
theorem d_M_placeIn_3 : decode m_M_placeIn.2.1 3 = .ok (.istore_n 3, 1) := by decide +kernel
theorem d_M_placeIn_4 : decode m_M_placeIn.2.1 4 = .ok (.iconst 0, 1) := by decide +kernel
theorem d_M_placeIn_5 : decode m_M_placeIn.2.1 5 = .ok (.istore 4, 2) := by decide +kernel
theorem d_M_placeIn_7 : decode m_M_placeIn.2.1 7 = .ok (.iload 4, 2) := by decide +kernel
theorem d_M_placeIn_9 : decode m_M_placeIn.2.1 9 = .ok (.bipush 8, 2) := by decide +kernel
theorem d_M_placeIn_11 : decode m_M_placeIn.2.1 11 = .ok (.if_icmp .ge 45, 3) := by decide +kernel
theorem d_M_placeIn_14 : decode m_M_placeIn.2.1 14 = .ok (.aload_n 0, 1) := by decide +kernel
theorem d_M_placeIn_15 : decode m_M_placeIn.2.1 15 = .ok (.getfield 71, 3) := by decide +kernel
theorem d_M_placeIn_18 : decode m_M_placeIn.2.1 18 = .ok (.iload_n 1, 1) := by decide +kernel
theorem d_M_placeIn_19 : decode m_M_placeIn.2.1 19 = .ok (.iaload, 1) := by decide +kernel
theorem d_M_placeIn_20 : decode m_M_placeIn.2.1 20 = .ok (.iload 4, 2) := by decide +kernel
theorem d_M_placeIn_22 : decode m_M_placeIn.2.1 22 = .ok (.invokestatic 120, 3) := by decide +kernel
theorem d_M_placeIn_25 : decode m_M_placeIn.2.1 25 = .ok (.ifCond .eq 25, 3) := by decide +kernel
theorem d_M_placeIn_28 : decode m_M_placeIn.2.1 28 = .ok (.iload_n 2, 1) := by decide +kernel
theorem d_M_placeIn_29 : decode m_M_placeIn.2.1 29 = .ok (.iload_n 3, 1) := by decide +kernel
theorem d_M_placeIn_30 : decode m_M_placeIn.2.1 30 = .ok (.aload_n 0, 1) := by decide +kernel
theorem d_M_placeIn_31 : decode m_M_placeIn.2.1 31 = .ok (.getfield 92, 3) := by decide +kernel
theorem d_M_placeIn_34 : decode m_M_placeIn.2.1 34 = .ok (.iload 4, 2) := by decide +kernel
theorem d_M_placeIn_36 : decode m_M_placeIn.2.1 36 = .ok (.iaload, 1) := by decide +kernel
theorem d_M_placeIn_37 : decode m_M_placeIn.2.1 37 = .ok (.imul, 1) := by decide +kernel
theorem d_M_placeIn_38 : decode m_M_placeIn.2.1 38 = .ok (.iadd, 1) := by decide +kernel
theorem d_M_placeIn_39 : decode m_M_placeIn.2.1 39 = .ok (.istore_n 2, 1) := by decide +kernel
theorem d_M_placeIn_40 : decode m_M_placeIn.2.1 40 = .ok (.iload_n 3, 1) := by decide +kernel
theorem d_M_placeIn_41 : decode m_M_placeIn.2.1 41 = .ok (.aload_n 0, 1) := by decide +kernel
theorem d_M_placeIn_42 : decode m_M_placeIn.2.1 42 = .ok (.getfield 7, 3) := by decide +kernel
theorem d_M_placeIn_45 : decode m_M_placeIn.2.1 45 = .ok (.iload 4, 2) := by decide +kernel
theorem d_M_placeIn_47 : decode m_M_placeIn.2.1 47 = .ok (.iaload, 1) := by decide +kernel
theorem d_M_placeIn_48 : decode m_M_placeIn.2.1 48 = .ok (.imul, 1) := by decide +kernel
theorem d_M_placeIn_49 : decode m_M_placeIn.2.1 49 = .ok (.istore_n 3, 1) := by decide +kernel
theorem d_M_placeIn_50 : decode m_M_placeIn.2.1 50 = .ok (.iinc 4 1, 3) := by decide +kernel
theorem d_M_placeIn_53 : decode m_M_placeIn.2.1 53 = .ok (.goto (-46), 3) := by decide +kernel
theorem d_M_placeIn_56 : decode m_M_placeIn.2.1 56 = .ok (.iload_n 2, 1) := by decide +kernel
theorem d_M_placeIn_57 : decode m_M_placeIn.2.1 57 = .ok (.ireturn, 1) := by decide +kernel
theorem d_M_postTable_0 : decode m_M_postTable.2.1 0 = .ok (.aload_n 0, 1) := by decide +kernel
theorem d_M_postTable_1 : decode m_M_postTable.2.1 1 = .ok (.iconst 2, 1) := by decide +kernel
theorem d_M_postTable_2 : decode m_M_postTable.2.1 2 = .ok (.iload_n 1, 1) := by decide +kernel
theorem d_M_postTable_3 : decode m_M_postTable.2.1 3 = .ok (.aload_n 0, 1) := by decide +kernel
theorem d_M_postTable_4 : decode m_M_postTable.2.1 4 = .ok (.getfield 47, 3) := by decide +kernel
theorem d_M_postTable_7 : decode m_M_postTable.2.1 7 = .ok (.iload_n 1, 1) := by decide +kernel
theorem d_M_postTable_8 : decode m_M_postTable.2.1 8 = .ok (.iaload, 1) := by decide +kernel
theorem d_M_postTable_9 : decode m_M_postTable.2.1 9 = .ok (.aload_n 0, 1) := by decide +kernel
theorem d_M_postTable_10 : decode m_M_postTable.2.1 10 = .ok (.getfield 68, 3) := by decide +kernel
theorem d_M_postTable_13 : decode m_M_postTable.2.1 13 = .ok (.iload_n 1, 1) := by decide +kernel
theorem d_M_postTable_14 : decode m_M_postTable.2.1 14 = .ok (.iaload, 1) := by decide +kernel
theorem d_M_postTable_15 : decode m_M_postTable.2.1 15 = .ok (.invokevirtual 179, 3) := by decide +kernel
theorem d_M_postTable_18 : decode m_M_postTable.2.1 18 = .ok (.istore_n 2, 1) := by decide +kernel
theorem d_M_postTable_19 : decode m_M_postTable.2.1 19 = .ok (.iload_n 2, 1) := by decide +kernel
theorem d_M_postTable_20 : decode m_M_postTable.2.1 20 = .ok (.ifCond .lt 69, 3) := by decide +kernel
theorem d_M_postTable_23 : decode m_M_postTable.2.1 23 = .ok (.aload_n 0, 1) := by decide +kernel
theorem d_M_postTable_24 : decode m_M_postTable.2.1 24 = .ok (.getfield 110, 3) := by decide +kernel
theorem d_M_postTable_27 : decode m_M_postTable.2.1 27 = .ok (.iload_n 2, 1) := by decide +kernel
theorem d_M_postTable_28 : decode m_M_postTable.2.1 28 = .ok (.aload_n 0, 1) := by decide +kernel
theorem d_M_postTable_29 : decode m_M_postTable.2.1 29 = .ok (.getfield 71, 3) := by decide +kernel
theorem d_M_postTable_32 : decode m_M_postTable.2.1 32 = .ok (.iload_n 1, 1) := by decide +kernel
theorem d_M_postTable_33 : decode m_M_postTable.2.1 33 = .ok (.iaload, 1) := by decide +kernel
theorem d_M_postTable_34 : decode m_M_postTable.2.1 34 = .ok (.iastore, 1) := by decide +kernel
theorem d_M_postTable_35 : decode m_M_postTable.2.1 35 = .ok (.aload_n 0, 1) := by decide +kernel
theorem d_M_postTable_36 : decode m_M_postTable.2.1 36 = .ok (.getfield 107, 3) := by decide +kernel
theorem d_M_postTable_39 : decode m_M_postTable.2.1 39 = .ok (.iload_n 2, 1) := by decide +kernel
theorem d_M_postTable_40 : decode m_M_postTable.2.1 40 = .ok (.aload_n 0, 1) := by decide +kernel
theorem d_M_postTable_41 : decode m_M_postTable.2.1 41 = .ok (.getfield 74, 3) := by decide +kernel
theorem d_M_postTable_44 : decode m_M_postTable.2.1 44 = .ok (.iload_n 1, 1) := by decide +kernel
theorem d_M_postTable_45 : decode m_M_postTable.2.1 45 = .ok (.iaload, 1) := by decide +kernel
theorem d_M_postTable_46 : decode m_M_postTable.2.1 46 = .ok (.iastore, 1) := by decide +kernel
theorem d_M_postTable_47 : decode m_M_postTable.2.1 47 = .ok (.iconst 0, 1) := by decide +kernel
theorem d_M_postTable_48 : decode m_M_postTable.2.1 48 = .ok (.istore_n 3, 1) := by decide +kernel
theorem d_M_postTable_49 : decode m_M_postTable.2.1 49 = .ok (.iload_n 3, 1) := by decide +kernel
theorem d_M_postTable_50 : decode m_M_postTable.2.1 50 = .ok (.aload_n 0, 1) := by decide +kernel
theorem d_M_postTable_51 : decode m_M_postTable.2.1 51 = .ok (.getfield 107, 3) := by decide +kernel
theorem d_M_postTable_54 : decode m_M_postTable.2.1 54 = .ok (.iload_n 2, 1) := by decide +kernel
theorem d_M_postTable_55 : decode m_M_postTable.2.1 55 = .ok (.iaload, 1) := by decide +kernel
theorem d_M_postTable_56 : decode m_M_postTable.2.1 56 = .ok (.if_icmp .ge 33, 3) := by decide +kernel
theorem d_M_postTable_59 : decode m_M_postTable.2.1 59 = .ok (.aload_n 0, 1) := by decide +kernel
theorem d_M_postTable_60 : decode m_M_postTable.2.1 60 = .ok (.getfield 113, 3) := by decide +kernel
theorem d_M_postTable_63 : decode m_M_postTable.2.1 63 = .ok (.sipush 256, 3) := by decide +kernel
theorem d_M_postTable_66 : decode m_M_postTable.2.1 66 = .ok (.iload_n 2, 1) := by decide +kernel
theorem d_M_postTable_67 : decode m_M_postTable.2.1 67 = .ok (.imul, 1) := by decide +kernel
theorem d_M_postTable_68 : decode m_M_postTable.2.1 68 = .ok (.iload_n 3, 1) := by decide +kernel
theorem d_M_postTable_69 : decode m_M_postTable.2.1 69 = .ok (.iadd, 1) := by decide +kernel
theorem d_M_postTable_70 : decode m_M_postTable.2.1 70 = .ok (.aload_n 0, 1) := by decide +kernel
theorem d_M_postTable_71 : decode m_M_postTable.2.1 71 = .ok (.getfield 77, 3) := by decide +kernel
theorem d_M_postTable_74 : decode m_M_postTable.2.1 74 = .ok (.sipush 256, 3) := by decide +kernel
theorem d_M_postTable_77 : decode m_M_postTable.2.1 77 = .ok (.iload_n 1, 1) := by decide +kernel
theorem d_M_postTable_78 : decode m_M_postTable.2.1 78 = .ok (.imul, 1) := by decide +kernel
theorem d_M_postTable_79 : decode m_M_postTable.2.1 79 = .ok (.iload_n 3, 1) := by decide +kernel
theorem d_M_postTable_80 : decode m_M_postTable.2.1 80 = .ok (.iadd, 1) := by decide +kernel
theorem d_M_postTable_81 : decode m_M_postTable.2.1 81 = .ok (.iaload, 1) := by decide +kernel
theorem d_M_postTable_82 : decode m_M_postTable.2.1 82 = .ok (.iastore, 1) := by decide +kernel
theorem d_M_postTable_83 : decode m_M_postTable.2.1 83 = .ok (.iinc 3 1, 3) := by decide +kernel
theorem d_M_postTable_86 : decode m_M_postTable.2.1 86 = .ok (.goto (-37), 3) := by decide +kernel
theorem d_M_postTable_89 : decode m_M_postTable.2.1 89 = .ok (.return_, 1) := by decide +kernel
theorem d_M_choose_0 : decode m_M_choose.2.1 0 = .ok (.iconst 0, 1) := by decide +kernel
theorem d_M_choose_1 : decode m_M_choose.2.1 1 = .ok (.istore_n 3, 1) := by decide +kernel
theorem d_M_choose_2 : decode m_M_choose.2.1 2 = .ok (.iload_n 3, 1) := by decide +kernel
theorem d_M_choose_3 : decode m_M_choose.2.1 3 = .ok (.bipush 8, 2) := by decide +kernel
theorem d_M_choose_5 : decode m_M_choose.2.1 5 = .ok (.if_icmp .ge 44, 3) := by decide +kernel
theorem d_M_choose_8 : decode m_M_choose.2.1 8 = .ok (.aload_n 0, 1) := by decide +kernel
theorem d_M_choose_9 : decode m_M_choose.2.1 9 = .ok (.getfield 92, 3) := by decide +kernel
theorem d_M_choose_12 : decode m_M_choose.2.1 12 = .ok (.iload_n 3, 1) := by decide +kernel
theorem d_M_choose_13 : decode m_M_choose.2.1 13 = .ok (.aload_n 0, 1) := by decide +kernel
theorem d_M_choose_14 : decode m_M_choose.2.1 14 = .ok (.getfield 89, 3) := by decide +kernel
theorem d_M_choose_17 : decode m_M_choose.2.1 17 = .ok (.bipush 8, 2) := by decide +kernel
theorem d_M_choose_19 : decode m_M_choose.2.1 19 = .ok (.iload_n 1, 1) := by decide +kernel
theorem d_M_choose_20 : decode m_M_choose.2.1 20 = .ok (.imul, 1) := by decide +kernel
theorem d_M_choose_21 : decode m_M_choose.2.1 21 = .ok (.iload_n 3, 1) := by decide +kernel
theorem d_M_choose_22 : decode m_M_choose.2.1 22 = .ok (.iadd, 1) := by decide +kernel
theorem d_M_choose_23 : decode m_M_choose.2.1 23 = .ok (.iaload, 1) := by decide +kernel
theorem d_M_choose_24 : decode m_M_choose.2.1 24 = .ok (.ifCond .ge 7, 3) := by decide +kernel
theorem d_M_choose_27 : decode m_M_choose.2.1 27 = .ok (.iconst 0, 1) := by decide +kernel
theorem d_M_choose_28 : decode m_M_choose.2.1 28 = .ok (.goto 14, 3) := by decide +kernel
theorem d_M_choose_31 : decode m_M_choose.2.1 31 = .ok (.aload_n 0, 1) := by decide +kernel
theorem d_M_choose_32 : decode m_M_choose.2.1 32 = .ok (.getfield 89, 3) := by decide +kernel
theorem d_M_choose_35 : decode m_M_choose.2.1 35 = .ok (.bipush 8, 2) := by decide +kernel
theorem d_M_choose_37 : decode m_M_choose.2.1 37 = .ok (.iload_n 1, 1) := by decide +kernel
theorem d_M_choose_38 : decode m_M_choose.2.1 38 = .ok (.imul, 1) := by decide +kernel
theorem d_M_choose_39 : decode m_M_choose.2.1 39 = .ok (.iload_n 3, 1) := by decide +kernel
theorem d_M_choose_40 : decode m_M_choose.2.1 40 = .ok (.iadd, 1) := by decide +kernel
theorem d_M_choose_41 : decode m_M_choose.2.1 41 = .ok (.iaload, 1) := by decide +kernel
theorem d_M_choose_42 : decode m_M_choose.2.1 42 = .ok (.iastore, 1) := by decide +kernel
theorem d_M_choose_43 : decode m_M_choose.2.1 43 = .ok (.iinc 3 1, 3) := by decide +kernel
theorem d_M_choose_46 : decode m_M_choose.2.1 46 = .ok (.goto (-44), 3) := by decide +kernel
theorem d_M_choose_49 : decode m_M_choose.2.1 49 = .ok (.aload_n 0, 1) := by decide +kernel
theorem d_M_choose_50 : decode m_M_choose.2.1 50 = .ok (.getfield 86, 3) := by decide +kernel
theorem d_M_choose_53 : decode m_M_choose.2.1 53 = .ok (.iload_n 1, 1) := by decide +kernel
theorem d_M_choose_54 : decode m_M_choose.2.1 54 = .ok (.aload_n 0, 1) := by decide +kernel
theorem d_M_choose_55 : decode m_M_choose.2.1 55 = .ok (.iload_n 1, 1) := by decide +kernel
theorem d_M_choose_56 : decode m_M_choose.2.1 56 = .ok (.invokevirtual 202, 3) := by decide +kernel
theorem d_M_choose_59 : decode m_M_choose.2.1 59 = .ok (.iastore, 1) := by decide +kernel
theorem d_M_choose_60 : decode m_M_choose.2.1 60 = .ok (.aload_n 0, 1) := by decide +kernel
theorem d_M_choose_61 : decode m_M_choose.2.1 61 = .ok (.getfield 89, 3) := by decide +kernel
theorem d_M_choose_64 : decode m_M_choose.2.1 64 = .ok (.bipush 8, 2) := by decide +kernel
theorem d_M_choose_66 : decode m_M_choose.2.1 66 = .ok (.iload_n 1, 1) := by decide +kernel
theorem d_M_choose_67 : decode m_M_choose.2.1 67 = .ok (.imul, 1) := by decide +kernel
theorem d_M_choose_68 : decode m_M_choose.2.1 68 = .ok (.iload_n 1, 1) := by decide +kernel
theorem d_M_choose_69 : decode m_M_choose.2.1 69 = .ok (.iadd, 1) := by decide +kernel
theorem d_M_choose_70 : decode m_M_choose.2.1 70 = .ok (.aload_n 0, 1) := by decide +kernel
theorem d_M_choose_71 : decode m_M_choose.2.1 71 = .ok (.getfield 86, 3) := by decide +kernel
theorem d_M_choose_74 : decode m_M_choose.2.1 74 = .ok (.iload_n 1, 1) := by decide +kernel
theorem d_M_choose_75 : decode m_M_choose.2.1 75 = .ok (.iaload, 1) := by decide +kernel
theorem d_M_choose_76 : decode m_M_choose.2.1 76 = .ok (.iastore, 1) := by decide +kernel
theorem d_M_choose_77 : decode m_M_choose.2.1 77 = .ok (.aload_n 0, 1) := by decide +kernel
theorem d_M_choose_78 : decode m_M_choose.2.1 78 = .ok (.getfield 80, 3) := by decide +kernel
theorem d_M_choose_81 : decode m_M_choose.2.1 81 = .ok (.iload_n 1, 1) := by decide +kernel
theorem d_M_choose_82 : decode m_M_choose.2.1 82 = .ok (.iload_n 2, 1) := by decide +kernel
theorem d_M_choose_83 : decode m_M_choose.2.1 83 = .ok (.iastore, 1) := by decide +kernel
theorem d_M_choose_84 : decode m_M_choose.2.1 84 = .ok (.aload_n 0, 1) := by decide +kernel
theorem d_M_choose_85 : decode m_M_choose.2.1 85 = .ok (.iload_n 1, 1) := by decide +kernel
theorem d_M_choose_86 : decode m_M_choose.2.1 86 = .ok (.invokevirtual 220, 3) := by decide +kernel
theorem d_M_choose_89 : decode m_M_choose.2.1 89 = .ok (.return_, 1) := by decide +kernel
theorem d_M_postChoices_0 : decode m_M_postChoices.2.1 0 = .ok (.iconst 0, 1) := by decide +kernel
theorem d_M_postChoices_1 : decode m_M_postChoices.2.1 1 = .ok (.istore_n 2, 1) := by decide +kernel
theorem d_M_postChoices_2 : decode m_M_postChoices.2.1 2 = .ok (.iload_n 2, 1) := by decide +kernel
theorem d_M_postChoices_3 : decode m_M_postChoices.2.1 3 = .ok (.aload_n 0, 1) := by decide +kernel
theorem d_M_postChoices_4 : decode m_M_postChoices.2.1 4 = .ok (.getfield 62, 3) := by decide +kernel
theorem d_M_postChoices_7 : decode m_M_postChoices.2.1 7 = .ok (.iload_n 1, 1) := by decide +kernel
theorem d_M_postChoices_8 : decode m_M_postChoices.2.1 8 = .ok (.iaload, 1) := by decide +kernel
theorem d_M_postChoices_9 : decode m_M_postChoices.2.1 9 = .ok (.if_icmp .ge 116, 3) := by decide +kernel
theorem d_M_postChoices_12 : decode m_M_postChoices.2.1 12 = .ok (.aload_n 0, 1) := by decide +kernel
theorem d_M_postChoices_13 : decode m_M_postChoices.2.1 13 = .ok (.iconst 3, 1) := by decide +kernel
theorem d_M_postChoices_14 : decode m_M_postChoices.2.1 14 = .ok (.iload_n 1, 1) := by decide +kernel
theorem d_M_postChoices_15 : decode m_M_postChoices.2.1 15 = .ok (.aload_n 0, 1) := by decide +kernel
theorem d_M_postChoices_16 : decode m_M_postChoices.2.1 16 = .ok (.getfield 59, 3) := by decide +kernel
theorem d_M_postChoices_19 : decode m_M_postChoices.2.1 19 = .ok (.bipush 8, 2) := by decide +kernel
theorem d_M_postChoices_21 : decode m_M_postChoices.2.1 21 = .ok (.iload_n 1, 1) := by decide +kernel
theorem d_M_postChoices_22 : decode m_M_postChoices.2.1 22 = .ok (.imul, 1) := by decide +kernel
theorem d_M_postChoices_23 : decode m_M_postChoices.2.1 23 = .ok (.iload_n 2, 1) := by decide +kernel
theorem d_M_postChoices_24 : decode m_M_postChoices.2.1 24 = .ok (.iadd, 1) := by decide +kernel
theorem d_M_postChoices_25 : decode m_M_postChoices.2.1 25 = .ok (.iaload, 1) := by decide +kernel
theorem d_M_postChoices_26 : decode m_M_postChoices.2.1 26 = .ok (.aload_n 0, 1) := by decide +kernel
theorem d_M_postChoices_27 : decode m_M_postChoices.2.1 27 = .ok (.getfield 80, 3) := by decide +kernel
theorem d_M_postChoices_30 : decode m_M_postChoices.2.1 30 = .ok (.iload_n 1, 1) := by decide +kernel
theorem d_M_postChoices_31 : decode m_M_postChoices.2.1 31 = .ok (.iaload, 1) := by decide +kernel
theorem d_M_postChoices_32 : decode m_M_postChoices.2.1 32 = .ok (.invokevirtual 179, 3) := by decide +kernel
theorem d_M_postChoices_35 : decode m_M_postChoices.2.1 35 = .ok (.istore_n 3, 1) := by decide +kernel
theorem d_M_postChoices_36 : decode m_M_postChoices.2.1 36 = .ok (.iconst 0, 1) := by decide +kernel
theorem d_M_postChoices_37 : decode m_M_postChoices.2.1 37 = .ok (.istore 4, 2) := by decide +kernel
theorem d_M_postChoices_39 : decode m_M_postChoices.2.1 39 = .ok (.iload 4, 2) := by decide +kernel
theorem d_M_postChoices_41 : decode m_M_postChoices.2.1 41 = .ok (.bipush 8, 2) := by decide +kernel
theorem d_M_postChoices_43 : decode m_M_postChoices.2.1 43 = .ok (.if_icmp .ge 76, 3) := by decide +kernel
theorem d_M_postChoices_46 : decode m_M_postChoices.2.1 46 = .ok (.iload_n 3, 1) := by decide +kernel
theorem d_M_postChoices_47 : decode m_M_postChoices.2.1 47 = .ok (.ifCond .lt 72, 3) := by decide +kernel
theorem d_M_postChoices_50 : decode m_M_postChoices.2.1 50 = .ok (.aload_n 0, 1) := by decide +kernel
theorem d_M_postChoices_51 : decode m_M_postChoices.2.1 51 = .ok (.getfield 113, 3) := by decide +kernel
theorem d_M_postChoices_54 : decode m_M_postChoices.2.1 54 = .ok (.sipush 256, 3) := by decide +kernel
theorem d_M_postChoices_57 : decode m_M_postChoices.2.1 57 = .ok (.iload_n 3, 1) := by decide +kernel
theorem d_M_postChoices_58 : decode m_M_postChoices.2.1 58 = .ok (.imul, 1) := by decide +kernel
theorem d_M_postChoices_59 : decode m_M_postChoices.2.1 59 = .ok (.iload 4, 2) := by decide +kernel
theorem d_M_postChoices_61 : decode m_M_postChoices.2.1 61 = .ok (.iadd, 1) := by decide +kernel
theorem d_M_postChoices_62 : decode m_M_postChoices.2.1 62 = .ok (.aload_n 0, 1) := by decide +kernel
theorem d_M_postChoices_63 : decode m_M_postChoices.2.1 63 = .ok (.getfield 89, 3) := by decide +kernel
theorem d_M_postChoices_66 : decode m_M_postChoices.2.1 66 = .ok (.bipush 8, 2) := by decide +kernel
theorem d_M_postChoices_68 : decode m_M_postChoices.2.1 68 = .ok (.iload_n 1, 1) := by decide +kernel
theorem d_M_postChoices_69 : decode m_M_postChoices.2.1 69 = .ok (.imul, 1) := by decide +kernel
theorem d_M_postChoices_70 : decode m_M_postChoices.2.1 70 = .ok (.iload 4, 2) := by decide +kernel
theorem d_M_postChoices_72 : decode m_M_postChoices.2.1 72 = .ok (.iadd, 1) := by decide +kernel
theorem d_M_postChoices_73 : decode m_M_postChoices.2.1 73 = .ok (.iaload, 1) := by decide +kernel
theorem d_M_postChoices_74 : decode m_M_postChoices.2.1 74 = .ok (.iastore, 1) := by decide +kernel
theorem d_M_postChoices_75 : decode m_M_postChoices.2.1 75 = .ok (.aload_n 0, 1) := by decide +kernel
theorem d_M_postChoices_76 : decode m_M_postChoices.2.1 76 = .ok (.getfield 107, 3) := by decide +kernel
theorem d_M_postChoices_79 : decode m_M_postChoices.2.1 79 = .ok (.iload_n 3, 1) := by decide +kernel
theorem d_M_postChoices_80 : decode m_M_postChoices.2.1 80 = .ok (.aload_n 0, 1) := by decide +kernel
theorem d_M_postChoices_81 : decode m_M_postChoices.2.1 81 = .ok (.getfield 89, 3) := by decide +kernel
theorem d_M_postChoices_84 : decode m_M_postChoices.2.1 84 = .ok (.bipush 8, 2) := by decide +kernel
theorem d_M_postChoices_86 : decode m_M_postChoices.2.1 86 = .ok (.iload_n 1, 1) := by decide +kernel
theorem d_M_postChoices_87 : decode m_M_postChoices.2.1 87 = .ok (.imul, 1) := by decide +kernel
theorem d_M_postChoices_88 : decode m_M_postChoices.2.1 88 = .ok (.iload 4, 2) := by decide +kernel
theorem d_M_postChoices_90 : decode m_M_postChoices.2.1 90 = .ok (.iadd, 1) := by decide +kernel
theorem d_M_postChoices_91 : decode m_M_postChoices.2.1 91 = .ok (.iaload, 1) := by decide +kernel
theorem d_M_postChoices_92 : decode m_M_postChoices.2.1 92 = .ok (.ifCond .ge 12, 3) := by decide +kernel
theorem d_M_postChoices_95 : decode m_M_postChoices.2.1 95 = .ok (.aload_n 0, 1) := by decide +kernel
theorem d_M_postChoices_96 : decode m_M_postChoices.2.1 96 = .ok (.getfield 107, 3) := by decide +kernel
theorem d_M_postChoices_99 : decode m_M_postChoices.2.1 99 = .ok (.iload_n 3, 1) := by decide +kernel
theorem d_M_postChoices_100 : decode m_M_postChoices.2.1 100 = .ok (.iaload, 1) := by decide +kernel
theorem d_M_postChoices_101 : decode m_M_postChoices.2.1 101 = .ok (.goto 11, 3) := by decide +kernel
theorem d_M_postChoices_104 : decode m_M_postChoices.2.1 104 = .ok (.aload_n 0, 1) := by decide +kernel
theorem d_M_postChoices_105 : decode m_M_postChoices.2.1 105 = .ok (.getfield 107, 3) := by decide +kernel
theorem d_M_postChoices_108 : decode m_M_postChoices.2.1 108 = .ok (.iload_n 3, 1) := by decide +kernel
theorem d_M_postChoices_109 : decode m_M_postChoices.2.1 109 = .ok (.iaload, 1) := by decide +kernel
theorem d_M_postChoices_110 : decode m_M_postChoices.2.1 110 = .ok (.iconst 1, 1) := by decide +kernel
theorem d_M_postChoices_111 : decode m_M_postChoices.2.1 111 = .ok (.iadd, 1) := by decide +kernel
theorem d_M_postChoices_112 : decode m_M_postChoices.2.1 112 = .ok (.iastore, 1) := by decide +kernel
theorem d_M_postChoices_113 : decode m_M_postChoices.2.1 113 = .ok (.iinc 4 1, 3) := by decide +kernel
theorem d_M_postChoices_116 : decode m_M_postChoices.2.1 116 = .ok (.goto (-77), 3) := by decide +kernel
theorem d_M_postChoices_119 : decode m_M_postChoices.2.1 119 = .ok (.iinc 2 1, 3) := by decide +kernel
theorem d_M_postChoices_122 : decode m_M_postChoices.2.1 122 = .ok (.goto (-120), 3) := by decide +kernel
theorem d_M_postChoices_125 : decode m_M_postChoices.2.1 125 = .ok (.return_, 1) := by decide +kernel

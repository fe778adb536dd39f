/-! DECODED: written by wip/whole/gen/dec.py -/
theorem d_M_hold_0 : decode m_M_hold.2.1 0 = .ok (.iconst (-1), 1) := by decide +kernel
theorem d_M_hold_1 : decode m_M_hold.2.1 1 = .ok (.istore_n 2, 1) := by decide +kernel
theorem d_M_hold_2 : decode m_M_hold.2.1 2 = .ok (.iconst 0, 1) := by decide +kernel
theorem d_M_hold_3 : decode m_M_hold.2.1 3 = .ok (.istore_n 3, 1) := by decide +kernel
theorem d_M_hold_4 : decode m_M_hold.2.1 4 = .ok (.iload_n 3, 1) := by decide +kernel
theorem d_M_hold_5 : decode m_M_hold.2.1 5 = .ok (.aload_n 0, 1) := by decide +kernel
theorem d_M_hold_6 : decode m_M_hold.2.1 6 = .ok (.getfield 124, 3) := by decide +kernel
theorem d_M_hold_9 : decode m_M_hold.2.1 9 = .ok (.if_icmp .ge 62, 3) := by decide +kernel
theorem d_M_hold_12 : decode m_M_hold.2.1 12 = .ok (.aload_n 0, 1) := by decide +kernel
theorem d_M_hold_13 : decode m_M_hold.2.1 13 = .ok (.getfield 25, 3) := by decide +kernel
theorem d_M_hold_16 : decode m_M_hold.2.1 16 = .ok (.iload_n 1, 1) := by decide +kernel
theorem d_M_hold_17 : decode m_M_hold.2.1 17 = .ok (.iaload, 1) := by decide +kernel
theorem d_M_hold_18 : decode m_M_hold.2.1 18 = .ok (.iload_n 3, 1) := by decide +kernel
theorem d_M_hold_19 : decode m_M_hold.2.1 19 = .ok (.invokestatic 120, 3) := by decide +kernel
theorem d_M_hold_22 : decode m_M_hold.2.1 22 = .ok (.ifCond .eq 20, 3) := by decide +kernel
theorem d_M_hold_25 : decode m_M_hold.2.1 25 = .ok (.aload_n 0, 1) := by decide +kernel
theorem d_M_hold_26 : decode m_M_hold.2.1 26 = .ok (.getfield 53, 3) := by decide +kernel
theorem d_M_hold_29 : decode m_M_hold.2.1 29 = .ok (.iload_n 1, 1) := by decide +kernel
theorem d_M_hold_30 : decode m_M_hold.2.1 30 = .ok (.iaload, 1) := by decide +kernel
theorem d_M_hold_31 : decode m_M_hold.2.1 31 = .ok (.iload_n 3, 1) := by decide +kernel
theorem d_M_hold_32 : decode m_M_hold.2.1 32 = .ok (.invokestatic 120, 3) := by decide +kernel
theorem d_M_hold_35 : decode m_M_hold.2.1 35 = .ok (.ifCond .ne 7, 3) := by decide +kernel
theorem d_M_hold_38 : decode m_M_hold.2.1 38 = .ok (.iconst 1, 1) := by decide +kernel
theorem d_M_hold_39 : decode m_M_hold.2.1 39 = .ok (.goto 4, 3) := by decide +kernel
theorem d_M_hold_42 : decode m_M_hold.2.1 42 = .ok (.iconst 0, 1) := by decide +kernel
theorem d_M_hold_43 : decode m_M_hold.2.1 43 = .ok (.istore 4, 2) := by decide +kernel
theorem d_M_hold_45 : decode m_M_hold.2.1 45 = .ok (.iload 4, 2) := by decide +kernel
theorem d_M_hold_47 : decode m_M_hold.2.1 47 = .ok (.ifCond .eq 16, 3) := by decide +kernel
theorem d_M_hold_50 : decode m_M_hold.2.1 50 = .ok (.aload_n 0, 1) := by decide +kernel
theorem d_M_hold_51 : decode m_M_hold.2.1 51 = .ok (.iload_n 3, 1) := by decide +kernel
theorem d_M_hold_52 : decode m_M_hold.2.1 52 = .ok (.iload_n 2, 1) := by decide +kernel
theorem d_M_hold_53 : decode m_M_hold.2.1 53 = .ok (.invokevirtual 165, 3) := by decide +kernel
theorem d_M_hold_56 : decode m_M_hold.2.1 56 = .ok (.ifCond .eq 7, 3) := by decide +kernel
theorem d_M_hold_59 : decode m_M_hold.2.1 59 = .ok (.iload_n 3, 1) := by decide +kernel
theorem d_M_hold_60 : decode m_M_hold.2.1 60 = .ok (.goto 4, 3) := by decide +kernel
theorem d_M_hold_63 : decode m_M_hold.2.1 63 = .ok (.iload_n 2, 1) := by decide +kernel
theorem d_M_hold_64 : decode m_M_hold.2.1 64 = .ok (.istore_n 2, 1) := by decide +kernel
theorem d_M_hold_65 : decode m_M_hold.2.1 65 = .ok (.iinc 3 1, 3) := by decide +kernel
theorem d_M_hold_68 : decode m_M_hold.2.1 68 = .ok (.goto (-64), 3) := by decide +kernel
theorem d_M_hold_71 : decode m_M_hold.2.1 71 = .ok (.aload_n 0, 1) := by decide +kernel
theorem d_M_hold_72 : decode m_M_hold.2.1 72 = .ok (.getfield 56, 3) := by decide +kernel
theorem d_M_hold_75 : decode m_M_hold.2.1 75 = .ok (.iload_n 1, 1) := by decide +kernel
theorem d_M_hold_76 : decode m_M_hold.2.1 76 = .ok (.iload_n 2, 1) := by decide +kernel
theorem d_M_hold_77 : decode m_M_hold.2.1 77 = .ok (.iastore, 1) := by decide +kernel
theorem d_M_hold_78 : decode m_M_hold.2.1 78 = .ok (.iload_n 2, 1) := by decide +kernel
theorem d_M_hold_79 : decode m_M_hold.2.1 79 = .ok (.ifCond .lt 18, 3) := by decide +kernel
theorem d_M_hold_82 : decode m_M_hold.2.1 82 = .ok (.aload_n 0, 1) := by decide +kernel
theorem d_M_hold_83 : decode m_M_hold.2.1 83 = .ok (.iconst 0, 1) := by decide +kernel
theorem d_M_hold_84 : decode m_M_hold.2.1 84 = .ok (.iload_n 1, 1) := by decide +kernel
theorem d_M_hold_85 : decode m_M_hold.2.1 85 = .ok (.iload_n 2, 1) := by decide +kernel
theorem d_M_hold_86 : decode m_M_hold.2.1 86 = .ok (.aload_n 0, 1) := by decide +kernel
theorem d_M_hold_87 : decode m_M_hold.2.1 87 = .ok (.getfield 53, 3) := by decide +kernel
theorem d_M_hold_90 : decode m_M_hold.2.1 90 = .ok (.iload_n 1, 1) := by decide +kernel
theorem d_M_hold_91 : decode m_M_hold.2.1 91 = .ok (.iaload, 1) := by decide +kernel
theorem d_M_hold_92 : decode m_M_hold.2.1 92 = .ok (.invokevirtual 179, 3) := by decide +kernel
theorem d_M_hold_95 : decode m_M_hold.2.1 95 = .ok (.istore_n 3, 1) := by decide +kernel
theorem d_M_hold_96 : decode m_M_hold.2.1 96 = .ok (.return_, 1) := by decide +kernel
theorem d_M_hold_97 : decode m_M_hold.2.1 97 = .ok (.aload_n 0, 1) := by decide +kernel
theorem d_M_hold_98 : decode m_M_hold.2.1 98 = .ok (.getfield 41, 3) := by decide +kernel
theorem d_M_hold_101 : decode m_M_hold.2.1 101 = .ok (.iload_n 1, 1) := by decide +kernel
theorem d_M_hold_102 : decode m_M_hold.2.1 102 = .ok (.iconst 1, 1) := by decide +kernel
theorem d_M_hold_103 : decode m_M_hold.2.1 103 = .ok (.bastore, 1) := by decide +kernel
theorem d_M_hold_104 : decode m_M_hold.2.1 104 = .ok (.aload_n 0, 1) := by decide +kernel
theorem d_M_hold_105 : decode m_M_hold.2.1 105 = .ok (.getfield 50, 3) := by decide +kernel
theorem d_M_hold_108 : decode m_M_hold.2.1 108 = .ok (.iload_n 1, 1) := by decide +kernel
theorem d_M_hold_109 : decode m_M_hold.2.1 109 = .ok (.iaload, 1) := by decide +kernel
theorem d_M_hold_110 : decode m_M_hold.2.1 110 = .ok (.istore_n 3, 1) := by decide +kernel
theorem d_M_hold_111 : decode m_M_hold.2.1 111 = .ok (.iconst 0, 1) := by decide +kernel
theorem d_M_hold_112 : decode m_M_hold.2.1 112 = .ok (.istore 4, 2) := by decide +kernel
theorem d_M_hold_114 : decode m_M_hold.2.1 114 = .ok (.iload 4, 2) := by decide +kernel
theorem d_M_hold_116 : decode m_M_hold.2.1 116 = .ok (.aload_n 0, 1) := by decide +kernel
theorem d_M_hold_117 : decode m_M_hold.2.1 117 = .ok (.getfield 62, 3) := by decide +kernel
theorem d_M_hold_120 : decode m_M_hold.2.1 120 = .ok (.iload_n 1, 1) := by decide +kernel
theorem d_M_hold_121 : decode m_M_hold.2.1 121 = .ok (.iaload, 1) := by decide +kernel
theorem d_M_hold_122 : decode m_M_hold.2.1 122 = .ok (.if_icmp .ge 29, 3) := by decide +kernel
theorem d_M_hold_125 : decode m_M_hold.2.1 125 = .ok (.iload_n 3, 1) := by decide +kernel
theorem d_M_hold_126 : decode m_M_hold.2.1 126 = .ok (.aload_n 0, 1) := by decide +kernel
theorem d_M_hold_127 : decode m_M_hold.2.1 127 = .ok (.getfield 65, 3) := by decide +kernel
theorem d_M_hold_130 : decode m_M_hold.2.1 130 = .ok (.aload_n 0, 1) := by decide +kernel
theorem d_M_hold_131 : decode m_M_hold.2.1 131 = .ok (.getfield 59, 3) := by decide +kernel
theorem d_M_hold_134 : decode m_M_hold.2.1 134 = .ok (.bipush 8, 2) := by decide +kernel
theorem d_M_hold_136 : decode m_M_hold.2.1 136 = .ok (.iload_n 1, 1) := by decide +kernel
theorem d_M_hold_137 : decode m_M_hold.2.1 137 = .ok (.imul, 1) := by decide +kernel
theorem d_M_hold_138 : decode m_M_hold.2.1 138 = .ok (.iload 4, 2) := by decide +kernel
theorem d_M_hold_140 : decode m_M_hold.2.1 140 = .ok (.iadd, 1) := by decide +kernel
theorem d_M_hold_141 : decode m_M_hold.2.1 141 = .ok (.iaload, 1) := by decide +kernel
theorem d_M_hold_142 : decode m_M_hold.2.1 142 = .ok (.iaload, 1) := by decide +kernel
theorem d_M_hold_143 : decode m_M_hold.2.1 143 = .ok (.ior, 1) := by decide +kernel
theorem d_M_hold_144 : decode m_M_hold.2.1 144 = .ok (.istore_n 3, 1) := by decide +kernel
theorem d_M_hold_145 : decode m_M_hold.2.1 145 = .ok (.iinc 4 1, 3) := by decide +kernel
theorem d_M_hold_148 : decode m_M_hold.2.1 148 = .ok (.goto (-34), 3) := by decide +kernel
theorem d_M_hold_151 : decode m_M_hold.2.1 151 = .ok (.aload_n 0, 1) := by decide +kernel
theorem d_M_hold_152 : decode m_M_hold.2.1 152 = .ok (.getfield 65, 3) := by decide +kernel
theorem d_M_hold_155 : decode m_M_hold.2.1 155 = .ok (.iload_n 1, 1) := by decide +kernel
theorem d_M_hold_156 : decode m_M_hold.2.1 156 = .ok (.iload_n 3, 1) := by decide +kernel
theorem d_M_hold_157 : decode m_M_hold.2.1 157 = .ok (.iconst 1, 1) := by decide +kernel
theorem d_M_hold_158 : decode m_M_hold.2.1 158 = .ok (.iload_n 1, 1) := by decide +kernel
theorem d_M_hold_159 : decode m_M_hold.2.1 159 = .ok (.ishl, 1) := by decide +kernel
theorem d_M_hold_160 : decode m_M_hold.2.1 160 = .ok (.iconst (-1), 1) := by decide +kernel
theorem d_M_hold_161 : decode m_M_hold.2.1 161 = .ok (.ixor, 1) := by decide +kernel
theorem d_M_hold_162 : decode m_M_hold.2.1 162 = .ok (.iand, 1) := by decide +kernel
theorem d_M_hold_163 : decode m_M_hold.2.1 163 = .ok (.iastore, 1) := by decide +kernel
theorem d_M_hold_164 : decode m_M_hold.2.1 164 = .ok (.aload_n 0, 1) := by decide +kernel
theorem d_M_hold_165 : decode m_M_hold.2.1 165 = .ok (.getfield 47, 3) := by decide +kernel
theorem d_M_hold_168 : decode m_M_hold.2.1 168 = .ok (.iload_n 1, 1) := by decide +kernel
theorem d_M_hold_169 : decode m_M_hold.2.1 169 = .ok (.iaload, 1) := by decide +kernel
theorem d_M_hold_170 : decode m_M_hold.2.1 170 = .ok (.ifCond .lt 23, 3) := by decide +kernel
theorem d_M_hold_173 : decode m_M_hold.2.1 173 = .ok (.aload_n 0, 1) := by decide +kernel
theorem d_M_hold_174 : decode m_M_hold.2.1 174 = .ok (.iconst 1, 1) := by decide +kernel
theorem d_M_hold_175 : decode m_M_hold.2.1 175 = .ok (.iload_n 1, 1) := by decide +kernel
theorem d_M_hold_176 : decode m_M_hold.2.1 176 = .ok (.aload_n 0, 1) := by decide +kernel
theorem d_M_hold_177 : decode m_M_hold.2.1 177 = .ok (.getfield 47, 3) := by decide +kernel
theorem d_M_hold_180 : decode m_M_hold.2.1 180 = .ok (.iload_n 1, 1) := by decide +kernel
theorem d_M_hold_181 : decode m_M_hold.2.1 181 = .ok (.iaload, 1) := by decide +kernel
theorem d_M_hold_182 : decode m_M_hold.2.1 182 = .ok (.aload_n 0, 1) := by decide +kernel
theorem d_M_hold_183 : decode m_M_hold.2.1 183 = .ok (.getfield 53, 3) := by decide +kernel
theorem d_M_hold_186 : decode m_M_hold.2.1 186 = .ok (.iload_n 1, 1) := by decide +kernel
theorem d_M_hold_187 : decode m_M_hold.2.1 187 = .ok (.iaload, 1) := by decide +kernel
theorem d_M_hold_188 : decode m_M_hold.2.1 188 = .ok (.invokevirtual 179, 3) := by decide +kernel
theorem d_M_hold_191 : decode m_M_hold.2.1 191 = .ok (.istore 4, 2) := by decide +kernel
theorem d_M_hold_193 : decode m_M_hold.2.1 193 = .ok (.aload_n 0, 1) := by decide +kernel
theorem d_M_hold_194 : decode m_M_hold.2.1 194 = .ok (.iload_n 1, 1) := by decide +kernel
theorem d_M_hold_195 : decode m_M_hold.2.1 195 = .ok (.iconst 1, 1) := by decide +kernel
theorem d_M_hold_196 : decode m_M_hold.2.1 196 = .ok (.invokevirtual 186, 3) := by decide +kernel
theorem d_M_hold_199 : decode m_M_hold.2.1 199 = .ok (.return_, 1) := by decide +kernel
theorem d_M_post_0 : decode m_M_post.2.1 0 = .ok (.aload_n 0, 1) := by decide +kernel
theorem d_M_post_1 : decode m_M_post.2.1 1 = .ok (.getfield 176, 3) := by decide +kernel
theorem d_M_post_4 : decode m_M_post.2.1 4 = .ok (.bipush 20, 2) := by decide +kernel
theorem d_M_post_6 : decode m_M_post.2.1 6 = .ok (.if_icmp .ne 5, 3) := by decide +kernel
theorem d_M_post_9 : decode m_M_post.2.1 9 = .ok (.iconst (-1), 1) := by decide +kernel
theorem d_M_post_10 : decode m_M_post.2.1 10 = .ok (.ireturn, 1) := by decide +kernel
theorem d_M_post_11 : decode m_M_post.2.1 11 = .ok (.aload_n 0, 1) := by decide +kernel
theorem d_M_post_12 : decode m_M_post.2.1 12 = .ok (.getfield 95, 3) := by decide +kernel
theorem d_M_post_15 : decode m_M_post.2.1 15 = .ok (.aload_n 0, 1) := by decide +kernel
theorem d_M_post_16 : decode m_M_post.2.1 16 = .ok (.getfield 176, 3) := by decide +kernel
theorem d_M_post_19 : decode m_M_post.2.1 19 = .ok (.iload_n 1, 1) := by decide +kernel
theorem d_M_post_20 : decode m_M_post.2.1 20 = .ok (.iastore, 1) := by decide +kernel
theorem d_M_post_21 : decode m_M_post.2.1 21 = .ok (.aload_n 0, 1) := by decide +kernel
theorem d_M_post_22 : decode m_M_post.2.1 22 = .ok (.getfield 98, 3) := by decide +kernel
theorem d_M_post_25 : decode m_M_post.2.1 25 = .ok (.aload_n 0, 1) := by decide +kernel
theorem d_M_post_26 : decode m_M_post.2.1 26 = .ok (.getfield 176, 3) := by decide +kernel
theorem d_M_post_29 : decode m_M_post.2.1 29 = .ok (.iload_n 2, 1) := by decide +kernel
theorem d_M_post_30 : decode m_M_post.2.1 30 = .ok (.iastore, 1) := by decide +kernel
theorem d_M_post_31 : decode m_M_post.2.1 31 = .ok (.aload_n 0, 1) := by decide +kernel
theorem d_M_post_32 : decode m_M_post.2.1 32 = .ok (.getfield 101, 3) := by decide +kernel
theorem d_M_post_35 : decode m_M_post.2.1 35 = .ok (.aload_n 0, 1) := by decide +kernel
theorem d_M_post_36 : decode m_M_post.2.1 36 = .ok (.getfield 176, 3) := by decide +kernel
theorem d_M_post_39 : decode m_M_post.2.1 39 = .ok (.iload_n 3, 1) := by decide +kernel
theorem d_M_post_40 : decode m_M_post.2.1 40 = .ok (.iastore, 1) := by decide +kernel
theorem d_M_post_41 : decode m_M_post.2.1 41 = .ok (.aload_n 0, 1) := by decide +kernel
theorem d_M_post_42 : decode m_M_post.2.1 42 = .ok (.getfield 104, 3) := by decide +kernel
theorem d_M_post_45 : decode m_M_post.2.1 45 = .ok (.aload_n 0, 1) := by decide +kernel
theorem d_M_post_46 : decode m_M_post.2.1 46 = .ok (.getfield 176, 3) := by decide +kernel
theorem d_M_post_49 : decode m_M_post.2.1 49 = .ok (.iload 4, 2) := by decide +kernel
theorem d_M_post_51 : decode m_M_post.2.1 51 = .ok (.iastore, 1) := by decide +kernel
theorem d_M_post_52 : decode m_M_post.2.1 52 = .ok (.aload_n 0, 1) := by decide +kernel
theorem d_M_post_53 : decode m_M_post.2.1 53 = .ok (.getfield 107, 3) := by decide +kernel
theorem d_M_post_56 : decode m_M_post.2.1 56 = .ok (.aload_n 0, 1) := by decide +kernel
theorem d_M_post_57 : decode m_M_post.2.1 57 = .ok (.getfield 176, 3) := by decide +kernel
theorem d_M_post_60 : decode m_M_post.2.1 60 = .ok (.iconst 0, 1) := by decide +kernel
theorem d_M_post_61 : decode m_M_post.2.1 61 = .ok (.iastore, 1) := by decide +kernel
theorem d_M_post_62 : decode m_M_post.2.1 62 = .ok (.aload_n 0, 1) := by decide +kernel
theorem d_M_post_63 : decode m_M_post.2.1 63 = .ok (.getfield 110, 3) := by decide +kernel
theorem d_M_post_66 : decode m_M_post.2.1 66 = .ok (.aload_n 0, 1) := by decide +kernel
theorem d_M_post_67 : decode m_M_post.2.1 67 = .ok (.getfield 176, 3) := by decide +kernel
theorem d_M_post_70 : decode m_M_post.2.1 70 = .ok (.iconst 0, 1) := by decide +kernel
theorem d_M_post_71 : decode m_M_post.2.1 71 = .ok (.iastore, 1) := by decide +kernel
theorem d_M_post_72 : decode m_M_post.2.1 72 = .ok (.aload_n 0, 1) := by decide +kernel
theorem d_M_post_73 : decode m_M_post.2.1 73 = .ok (.dup, 1) := by decide +kernel
theorem d_M_post_74 : decode m_M_post.2.1 74 = .ok (.getfield 176, 3) := by decide +kernel
theorem d_M_post_77 : decode m_M_post.2.1 77 = .ok (.iconst 1, 1) := by decide +kernel
theorem d_M_post_78 : decode m_M_post.2.1 78 = .ok (.iadd, 1) := by decide +kernel
theorem d_M_post_79 : decode m_M_post.2.1 79 = .ok (.putfield 176, 3) := by decide +kernel
theorem d_M_post_82 : decode m_M_post.2.1 82 = .ok (.aload_n 0, 1) := by decide +kernel
theorem d_M_post_83 : decode m_M_post.2.1 83 = .ok (.getfield 176, 3) := by decide +kernel
theorem d_M_post_86 : decode m_M_post.2.1 86 = .ok (.iconst 1, 1) := by decide +kernel
theorem d_M_post_87 : decode m_M_post.2.1 87 = .ok (.isub, 1) := by decide +kernel
theorem d_M_post_88 : decode m_M_post.2.1 88 = .ok (.ireturn, 1) := by decide +kernel
theorem d_M_work_0 : decode m_M_work.2.1 0 = .ok (.aload_n 0, 1) := by decide +kernel
theorem d_M_work_1 : decode m_M_work.2.1 1 = .ok (.iload_n 1, 1) := by decide +kernel
theorem d_M_work_2 : decode m_M_work.2.1 2 = .ok (.invokevirtual 208, 3) := by decide +kernel
theorem d_M_work_5 : decode m_M_work.2.1 5 = .ok (.ifCond .ne 4, 3) := by decide +kernel
theorem d_M_work_8 : decode m_M_work.2.1 8 = .ok (.return_, 1) := by decide +kernel
theorem d_M_work_9 : decode m_M_work.2.1 9 = .ok (.aload_n 0, 1) := by decide +kernel
theorem d_M_work_10 : decode m_M_work.2.1 10 = .ok (.iload_n 1, 1) := by decide +kernel
theorem d_M_work_11 : decode m_M_work.2.1 11 = .ok (.invokevirtual 199, 3) := by decide +kernel
theorem d_M_work_14 : decode m_M_work.2.1 14 = .ok (.sipush 256, 3) := by decide +kernel
theorem d_M_work_17 : decode m_M_work.2.1 17 = .ok (.if_icmp .le 11, 3) := by decide +kernel
theorem d_M_work_20 : decode m_M_work.2.1 20 = .ok (.aload_n 0, 1) := by decide +kernel
theorem d_M_work_21 : decode m_M_work.2.1 21 = .ok (.getfield 44, 3) := by decide +kernel
theorem d_M_work_24 : decode m_M_work.2.1 24 = .ok (.iload_n 1, 1) := by decide +kernel
theorem d_M_work_25 : decode m_M_work.2.1 25 = .ok (.iconst 1, 1) := by decide +kernel
theorem d_M_work_26 : decode m_M_work.2.1 26 = .ok (.bastore, 1) := by decide +kernel
theorem d_M_work_27 : decode m_M_work.2.1 27 = .ok (.return_, 1) := by decide +kernel
theorem d_M_work_28 : decode m_M_work.2.1 28 = .ok (.aload_n 0, 1) := by decide +kernel
theorem d_M_work_29 : decode m_M_work.2.1 29 = .ok (.iload_n 1, 1) := by decide +kernel
theorem d_M_work_30 : decode m_M_work.2.1 30 = .ok (.iload_n 2, 1) := by decide +kernel
theorem d_M_work_31 : decode m_M_work.2.1 31 = .ok (.invokevirtual 211, 3) := by decide +kernel
theorem d_M_work_34 : decode m_M_work.2.1 34 = .ok (.aload_n 0, 1) := by decide +kernel
theorem d_M_work_35 : decode m_M_work.2.1 35 = .ok (.getfield 47, 3) := by decide +kernel
theorem d_M_work_38 : decode m_M_work.2.1 38 = .ok (.iload_n 1, 1) := by decide +kernel
theorem d_M_work_39 : decode m_M_work.2.1 39 = .ok (.iaload, 1) := by decide +kernel
theorem d_M_work_40 : decode m_M_work.2.1 40 = .ok (.ifCond .lt 11, 3) := by decide +kernel
theorem d_M_work_43 : decode m_M_work.2.1 43 = .ok (.aload_n 0, 1) := by decide +kernel
theorem d_M_work_44 : decode m_M_work.2.1 44 = .ok (.iload_n 1, 1) := by decide +kernel
theorem d_M_work_45 : decode m_M_work.2.1 45 = .ok (.invokevirtual 214, 3) := by decide +kernel
theorem d_M_work_48 : decode m_M_work.2.1 48 = .ok (.goto 34, 3) := by decide +kernel
theorem d_M_work_51 : decode m_M_work.2.1 51 = .ok (.aload_n 0, 1) := by decide +kernel
theorem d_M_work_52 : decode m_M_work.2.1 52 = .ok (.getfield 77, 3) := by decide +kernel
theorem d_M_work_55 : decode m_M_work.2.1 55 = .ok (.sipush 256, 3) := by decide +kernel
theorem d_M_work_58 : decode m_M_work.2.1 58 = .ok (.iload_n 1, 1) := by decide +kernel
theorem d_M_work_59 : decode m_M_work.2.1 59 = .ok (.imul, 1) := by decide +kernel
theorem d_M_work_60 : decode m_M_work.2.1 60 = .ok (.iaload, 1) := by decide +kernel
theorem d_M_work_61 : decode m_M_work.2.1 61 = .ok (.ldc 145, 2) := by decide +kernel
theorem d_M_work_63 : decode m_M_work.2.1 63 = .ok (.if_icmp .ne 13, 3) := by decide +kernel
theorem d_M_work_66 : decode m_M_work.2.1 66 = .ok (.aload_n 0, 1) := by decide +kernel
theorem d_M_work_67 : decode m_M_work.2.1 67 = .ok (.getfield 83, 3) := by decide +kernel
theorem d_M_work_70 : decode m_M_work.2.1 70 = .ok (.iload_n 1, 1) := by decide +kernel
theorem d_M_work_71 : decode m_M_work.2.1 71 = .ok (.iload_n 2, 1) := by decide +kernel
theorem d_M_work_72 : decode m_M_work.2.1 72 = .ok (.iastore, 1) := by decide +kernel
theorem d_M_work_73 : decode m_M_work.2.1 73 = .ok (.goto 9, 3) := by decide +kernel
theorem d_M_work_76 : decode m_M_work.2.1 76 = .ok (.aload_n 0, 1) := by decide +kernel
theorem d_M_work_77 : decode m_M_work.2.1 77 = .ok (.iload_n 1, 1) := by decide +kernel
theorem d_M_work_78 : decode m_M_work.2.1 78 = .ok (.iload_n 2, 1) := by decide +kernel
theorem d_M_work_79 : decode m_M_work.2.1 79 = .ok (.invokevirtual 217, 3) := by decide +kernel
theorem d_M_work_82 : decode m_M_work.2.1 82 = .ok (.return_, 1) := by decide +kernel
theorem d_M_hasAll_0 : decode m_M_hasAll.2.1 0 = .ok (.aload_n 0, 1) := by decide +kernel
theorem d_M_hasAll_1 : decode m_M_hasAll.2.1 1 = .ok (.getfield 41, 3) := by decide +kernel
theorem d_M_hasAll_4 : decode m_M_hasAll.2.1 4 = .ok (.iload_n 1, 1) := by decide +kernel
theorem d_M_hasAll_5 : decode m_M_hasAll.2.1 5 = .ok (.baload, 1) := by decide +kernel
theorem d_M_hasAll_6 : decode m_M_hasAll.2.1 6 = .ok (.istore_n 2, 1) := by decide +kernel
theorem d_M_hasAll_7 : decode m_M_hasAll.2.1 7 = .ok (.iconst 0, 1) := by decide +kernel
theorem d_M_hasAll_8 : decode m_M_hasAll.2.1 8 = .ok (.istore_n 3, 1) := by decide +kernel
theorem d_M_hasAll_9 : decode m_M_hasAll.2.1 9 = .ok (.iload_n 3, 1) := by decide +kernel
theorem d_M_hasAll_10 : decode m_M_hasAll.2.1 10 = .ok (.aload_n 0, 1) := by decide +kernel
theorem d_M_hasAll_11 : decode m_M_hasAll.2.1 11 = .ok (.getfield 62, 3) := by decide +kernel
theorem d_M_hasAll_14 : decode m_M_hasAll.2.1 14 = .ok (.iload_n 1, 1) := by decide +kernel
theorem d_M_hasAll_15 : decode m_M_hasAll.2.1 15 = .ok (.iaload, 1) := by decide +kernel
theorem d_M_hasAll_16 : decode m_M_hasAll.2.1 16 = .ok (.if_icmp .ge 41, 3) := by decide +kernel
theorem d_M_hasAll_19 : decode m_M_hasAll.2.1 19 = .ok (.iload_n 2, 1) := by decide +kernel
theorem d_M_hasAll_20 : decode m_M_hasAll.2.1 20 = .ok (.ifCond .eq 29, 3) := by decide +kernel
theorem d_M_hasAll_23 : decode m_M_hasAll.2.1 23 = .ok (.aload_n 0, 1) := by decide +kernel
theorem d_M_hasAll_24 : decode m_M_hasAll.2.1 24 = .ok (.getfield 68, 3) := by decide +kernel
theorem d_M_hasAll_27 : decode m_M_hasAll.2.1 27 = .ok (.bipush 8, 2) := by decide +kernel
theorem d_M_hasAll_29 : decode m_M_hasAll.2.1 29 = .ok (.aload_n 0, 1) := by decide +kernel
theorem d_M_hasAll_30 : decode m_M_hasAll.2.1 30 = .ok (.getfield 59, 3) := by decide +kernel
theorem d_M_hasAll_33 : decode m_M_hasAll.2.1 33 = .ok (.bipush 8, 2) := by decide +kernel
theorem d_M_hasAll_35 : decode m_M_hasAll.2.1 35 = .ok (.iload_n 1, 1) := by decide +kernel
theorem d_M_hasAll_36 : decode m_M_hasAll.2.1 36 = .ok (.imul, 1) := by decide +kernel
theorem d_M_hasAll_37 : decode m_M_hasAll.2.1 37 = .ok (.iload_n 3, 1) := by decide +kernel
theorem d_M_hasAll_38 : decode m_M_hasAll.2.1 38 = .ok (.iadd, 1) := by decide +kernel
theorem d_M_hasAll_39 : decode m_M_hasAll.2.1 39 = .ok (.iaload, 1) := by decide +kernel
theorem d_M_hasAll_40 : decode m_M_hasAll.2.1 40 = .ok (.iadd, 1) := by decide +kernel
theorem d_M_hasAll_41 : decode m_M_hasAll.2.1 41 = .ok (.iaload, 1) := by decide +kernel
theorem d_M_hasAll_42 : decode m_M_hasAll.2.1 42 = .ok (.ifCond .le 7, 3) := by decide +kernel
theorem d_M_hasAll_45 : decode m_M_hasAll.2.1 45 = .ok (.iconst 1, 1) := by decide +kernel
theorem d_M_hasAll_46 : decode m_M_hasAll.2.1 46 = .ok (.goto 4, 3) := by decide +kernel
theorem d_M_hasAll_49 : decode m_M_hasAll.2.1 49 = .ok (.iconst 0, 1) := by decide +kernel
theorem d_M_hasAll_50 : decode m_M_hasAll.2.1 50 = .ok (.istore_n 2, 1) := by decide +kernel
theorem d_M_hasAll_51 : decode m_M_hasAll.2.1 51 = .ok (.iinc 3 1, 3) := by decide +kernel
theorem d_M_hasAll_54 : decode m_M_hasAll.2.1 54 = .ok (.goto (-45), 3) := by decide +kernel
theorem d_M_hasAll_57 : decode m_M_hasAll.2.1 57 = .ok (.iload_n 2, 1) := by decide +kernel
theorem d_M_hasAll_58 : decode m_M_hasAll.2.1 58 = .ok (.ireturn, 1) := by decide +kernel
theorem d_M_width_0 : decode m_M_width.2.1 0 = .ok (.iconst 1, 1) := by decide +kernel
theorem d_M_width_1 : decode m_M_width.2.1 1 = .ok (.istore_n 2, 1) := by decide +kernel
theorem d_M_width_2 : decode m_M_width.2.1 2 = .ok (.iconst 0, 1) := by decide +kernel
theorem d_M_width_3 : decode m_M_width.2.1 3 = .ok (.istore_n 3, 1) := by decide +kernel
theorem d_M_width_4 : decode m_M_width.2.1 4 = .ok (.iload_n 3, 1) := by decide +kernel
theorem d_M_width_5 : decode m_M_width.2.1 5 = .ok (.bipush 8, 2) := by decide +kernel
theorem d_M_width_7 : decode m_M_width.2.1 7 = .ok (.if_icmp .ge 35, 3) := by decide +kernel
theorem d_M_width_10 : decode m_M_width.2.1 10 = .ok (.aload_n 0, 1) := by decide +kernel
theorem d_M_width_11 : decode m_M_width.2.1 11 = .ok (.getfield 65, 3) := by decide +kernel
theorem d_M_width_14 : decode m_M_width.2.1 14 = .ok (.iload_n 1, 1) := by decide +kernel
theorem d_M_width_15 : decode m_M_width.2.1 15 = .ok (.iaload, 1) := by decide +kernel
theorem d_M_width_16 : decode m_M_width.2.1 16 = .ok (.iload_n 3, 1) := by decide +kernel
theorem d_M_width_17 : decode m_M_width.2.1 17 = .ok (.invokestatic 120, 3) := by decide +kernel
theorem d_M_width_20 : decode m_M_width.2.1 20 = .ok (.ifCond .eq 14, 3) := by decide +kernel
theorem d_M_width_23 : decode m_M_width.2.1 23 = .ok (.iload_n 2, 1) := by decide +kernel
theorem d_M_width_24 : decode m_M_width.2.1 24 = .ok (.aload_n 0, 1) := by decide +kernel
theorem d_M_width_25 : decode m_M_width.2.1 25 = .ok (.getfield 7, 3) := by decide +kernel
theorem d_M_width_28 : decode m_M_width.2.1 28 = .ok (.iload_n 3, 1) := by decide +kernel
theorem d_M_width_29 : decode m_M_width.2.1 29 = .ok (.iaload, 1) := by decide +kernel
theorem d_M_width_30 : decode m_M_width.2.1 30 = .ok (.imul, 1) := by decide +kernel
theorem d_M_width_31 : decode m_M_width.2.1 31 = .ok (.goto 4, 3) := by decide +kernel
theorem d_M_width_34 : decode m_M_width.2.1 34 = .ok (.iload_n 2, 1) := by decide +kernel
theorem d_M_width_35 : decode m_M_width.2.1 35 = .ok (.istore_n 2, 1) := by decide +kernel
theorem d_M_width_36 : decode m_M_width.2.1 36 = .ok (.iinc 3 1, 3) := by decide +kernel
theorem d_M_width_39 : decode m_M_width.2.1 39 = .ok (.goto (-35), 3) := by decide +kernel
theorem d_M_width_42 : decode m_M_width.2.1 42 = .ok (.iload_n 2, 1) := by decide +kernel
theorem d_M_width_43 : decode m_M_width.2.1 43 = .ok (.ireturn, 1) := by decide +kernel
theorem d_M_make_0 : decode m_M_make.2.1 0 = .ok (.aload_n 0, 1) := by decide +kernel
theorem d_M_make_1 : decode m_M_make.2.1 1 = .ok (.getfield 68, 3) := by decide +kernel
theorem d_M_make_4 : decode m_M_make.2.1 4 = .ok (.iload_n 1, 1) := by decide +kernel
theorem d_M_make_5 : decode m_M_make.2.1 5 = .ok (.iload_n 2, 1) := by decide +kernel
theorem d_M_make_6 : decode m_M_make.2.1 6 = .ok (.iastore, 1) := by decide +kernel
theorem d_M_make_7 : decode m_M_make.2.1 7 = .ok (.aload_n 0, 1) := by decide +kernel
theorem d_M_make_8 : decode m_M_make.2.1 8 = .ok (.getfield 71, 3) := by decide +kernel
theorem d_M_make_11 : decode m_M_make.2.1 11 = .ok (.iload_n 1, 1) := by decide +kernel
theorem d_M_make_12 : decode m_M_make.2.1 12 = .ok (.aload_n 0, 1) := by decide +kernel
theorem d_M_make_13 : decode m_M_make.2.1 13 = .ok (.getfield 65, 3) := by decide +kernel
theorem d_M_make_16 : decode m_M_make.2.1 16 = .ok (.iload_n 1, 1) := by decide +kernel
theorem d_M_make_17 : decode m_M_make.2.1 17 = .ok (.iaload, 1) := by decide +kernel
theorem d_M_make_18 : decode m_M_make.2.1 18 = .ok (.iastore, 1) := by decide +kernel
theorem d_M_make_19 : decode m_M_make.2.1 19 = .ok (.aload_n 0, 1) := by decide +kernel
theorem d_M_make_20 : decode m_M_make.2.1 20 = .ok (.getfield 74, 3) := by decide +kernel
theorem d_M_make_23 : decode m_M_make.2.1 23 = .ok (.iload_n 1, 1) := by decide +kernel
theorem d_M_make_24 : decode m_M_make.2.1 24 = .ok (.aload_n 0, 1) := by decide +kernel
theorem d_M_make_25 : decode m_M_make.2.1 25 = .ok (.iload_n 1, 1) := by decide +kernel
theorem d_M_make_26 : decode m_M_make.2.1 26 = .ok (.invokevirtual 199, 3) := by decide +kernel
theorem d_M_make_29 : decode m_M_make.2.1 29 = .ok (.iastore, 1) := by decide +kernel
theorem d_M_make_30 : decode m_M_make.2.1 30 = .ok (.iconst 0, 1) := by decide +kernel
theorem d_M_make_31 : decode m_M_make.2.1 31 = .ok (.istore_n 3, 1) := by decide +kernel
theorem d_M_make_32 : decode m_M_make.2.1 32 = .ok (.iload_n 3, 1) := by decide +kernel
theorem d_M_make_33 : decode m_M_make.2.1 33 = .ok (.bipush 8, 2) := by decide +kernel
theorem d_M_make_35 : decode m_M_make.2.1 35 = .ok (.if_icmp .ge 16, 3) := by decide +kernel
theorem d_M_make_38 : decode m_M_make.2.1 38 = .ok (.aload_n 0, 1) := by decide +kernel
theorem d_M_make_39 : decode m_M_make.2.1 39 = .ok (.getfield 92, 3) := by decide +kernel
theorem d_M_make_42 : decode m_M_make.2.1 42 = .ok (.iload_n 3, 1) := by decide +kernel
theorem d_M_make_43 : decode m_M_make.2.1 43 = .ok (.iconst 0, 1) := by decide +kernel
theorem d_M_make_44 : decode m_M_make.2.1 44 = .ok (.iastore, 1) := by decide +kernel
theorem d_M_make_45 : decode m_M_make.2.1 45 = .ok (.iinc 3 1, 3) := by decide +kernel
theorem d_M_make_48 : decode m_M_make.2.1 48 = .ok (.goto (-16), 3) := by decide +kernel
theorem d_M_make_51 : decode m_M_make.2.1 51 = .ok (.iconst 0, 1) := by decide +kernel
theorem d_M_make_52 : decode m_M_make.2.1 52 = .ok (.istore_n 3, 1) := by decide +kernel
theorem d_M_make_53 : decode m_M_make.2.1 53 = .ok (.iload_n 3, 1) := by decide +kernel
theorem d_M_make_54 : decode m_M_make.2.1 54 = .ok (.aload_n 0, 1) := by decide +kernel
theorem d_M_make_55 : decode m_M_make.2.1 55 = .ok (.getfield 74, 3) := by decide +kernel
theorem d_M_make_58 : decode m_M_make.2.1 58 = .ok (.iload_n 1, 1) := by decide +kernel
theorem d_M_make_59 : decode m_M_make.2.1 59 = .ok (.iaload, 1) := by decide +kernel
theorem d_M_make_60 : decode m_M_make.2.1 60 = .ok (.if_icmp .ge 136, 3) := by decide +kernel
theorem d_M_make_63 : decode m_M_make.2.1 63 = .ok (.aload_n 0, 1) := by decide +kernel
theorem d_M_make_64 : decode m_M_make.2.1 64 = .ok (.iload_n 1, 1) := by decide +kernel
theorem d_M_make_65 : decode m_M_make.2.1 65 = .ok (.invokevirtual 202, 3) := by decide +kernel
theorem d_M_make_68 : decode m_M_make.2.1 68 = .ok (.istore 4, 2) := by decide +kernel
theorem d_M_make_70 : decode m_M_make.2.1 70 = .ok (.aload_n 0, 1) := by decide +kernel
theorem d_M_make_71 : decode m_M_make.2.1 71 = .ok (.getfield 77, 3) := by decide +kernel
theorem d_M_make_74 : decode m_M_make.2.1 74 = .ok (.sipush 256, 3) := by decide +kernel
theorem d_M_make_77 : decode m_M_make.2.1 77 = .ok (.iload_n 1, 1) := by decide +kernel
theorem d_M_make_78 : decode m_M_make.2.1 78 = .ok (.imul, 1) := by decide +kernel
theorem d_M_make_79 : decode m_M_make.2.1 79 = .ok (.iload_n 3, 1) := by decide +kernel
theorem d_M_make_80 : decode m_M_make.2.1 80 = .ok (.iadd, 1) := by decide +kernel
theorem d_M_make_81 : decode m_M_make.2.1 81 = .ok (.iload 4, 2) := by decide +kernel
theorem d_M_make_83 : decode m_M_make.2.1 83 = .ok (.ifCond .ge 8, 3) := by decide +kernel
theorem d_M_make_86 : decode m_M_make.2.1 86 = .ok (.ldc 145, 2) := by decide +kernel
theorem d_M_make_88 : decode m_M_make.2.1 88 = .ok (.goto 7, 3) := by decide +kernel
theorem d_M_make_91 : decode m_M_make.2.1 91 = .ok (.aload_n 0, 1) := by decide +kernel
theorem d_M_make_92 : decode m_M_make.2.1 92 = .ok (.getfield 193, 3) := by decide +kernel
theorem d_M_make_95 : decode m_M_make.2.1 95 = .ok (.iastore, 1) := by decide +kernel
theorem d_M_make_96 : decode m_M_make.2.1 96 = .ok (.iconst 1, 1) := by decide +kernel
theorem d_M_make_97 : decode m_M_make.2.1 97 = .ok (.istore 5, 2) := by decide +kernel
theorem d_M_make_99 : decode m_M_make.2.1 99 = .ok (.iconst 0, 1) := by decide +kernel
theorem d_M_make_100 : decode m_M_make.2.1 100 = .ok (.istore 6, 2) := by decide +kernel
theorem d_M_make_102 : decode m_M_make.2.1 102 = .ok (.iload 6, 2) := by decide +kernel
theorem d_M_make_104 : decode m_M_make.2.1 104 = .ok (.bipush 8, 2) := by decide +kernel
theorem d_M_make_106 : decode m_M_make.2.1 106 = .ok (.if_icmp .ge 84, 3) := by decide +kernel
theorem d_M_make_109 : decode m_M_make.2.1 109 = .ok (.iload 5, 2) := by decide +kernel
theorem d_M_make_111 : decode m_M_make.2.1 111 = .ok (.ifCond .eq 73, 3) := by decide +kernel
theorem d_M_make_114 : decode m_M_make.2.1 114 = .ok (.aload_n 0, 1) := by decide +kernel
theorem d_M_make_115 : decode m_M_make.2.1 115 = .ok (.getfield 65, 3) := by decide +kernel
theorem d_M_make_118 : decode m_M_make.2.1 118 = .ok (.iload_n 1, 1) := by decide +kernel
theorem d_M_make_119 : decode m_M_make.2.1 119 = .ok (.iaload, 1) := by decide +kernel
theorem d_M_make_120 : decode m_M_make.2.1 120 = .ok (.iload 6, 2) := by decide +kernel
theorem d_M_make_122 : decode m_M_make.2.1 122 = .ok (.invokestatic 120, 3) := by decide +kernel
theorem d_M_make_125 : decode m_M_make.2.1 125 = .ok (.ifCond .eq 59, 3) := by decide +kernel
theorem d_M_make_128 : decode m_M_make.2.1 128 = .ok (.aload_n 0, 1) := by decide +kernel
theorem d_M_make_129 : decode m_M_make.2.1 129 = .ok (.getfield 92, 3) := by decide +kernel
theorem d_M_make_132 : decode m_M_make.2.1 132 = .ok (.iload 6, 2) := by decide +kernel
theorem d_M_make_134 : decode m_M_make.2.1 134 = .ok (.aload_n 0, 1) := by decide +kernel
theorem d_M_make_135 : decode m_M_make.2.1 135 = .ok (.getfield 92, 3) := by decide +kernel
theorem d_M_make_138 : decode m_M_make.2.1 138 = .ok (.iload 6, 2) := by decide +kernel
theorem d_M_make_140 : decode m_M_make.2.1 140 = .ok (.iaload, 1) := by decide +kernel
theorem d_M_make_141 : decode m_M_make.2.1 141 = .ok (.iconst 1, 1) := by decide +kernel
theorem d_M_make_142 : decode m_M_make.2.1 142 = .ok (.iadd, 1) := by decide +kernel
theorem d_M_make_143 : decode m_M_make.2.1 143 = .ok (.aload_n 0, 1) := by decide +kernel
theorem d_M_make_144 : decode m_M_make.2.1 144 = .ok (.getfield 7, 3) := by decide +kernel
theorem d_M_make_147 : decode m_M_make.2.1 147 = .ok (.iload 6, 2) := by decide +kernel
theorem d_M_make_149 : decode m_M_make.2.1 149 = .ok (.iaload, 1) := by decide +kernel
theorem d_M_make_150 : decode m_M_make.2.1 150 = .ok (.if_icmp .ne 7, 3) := by decide +kernel
theorem d_M_make_153 : decode m_M_make.2.1 153 = .ok (.iconst 0, 1) := by decide +kernel
theorem d_M_make_154 : decode m_M_make.2.1 154 = .ok (.goto 12, 3) := by decide +kernel
theorem d_M_make_157 : decode m_M_make.2.1 157 = .ok (.aload_n 0, 1) := by decide +kernel
theorem d_M_make_158 : decode m_M_make.2.1 158 = .ok (.getfield 92, 3) := by decide +kernel
theorem d_M_make_161 : decode m_M_make.2.1 161 = .ok (.iload 6, 2) := by decide +kernel
theorem d_M_make_163 : decode m_M_make.2.1 163 = .ok (.iaload, 1) := by decide +kernel
theorem d_M_make_164 : decode m_M_make.2.1 164 = .ok (.iconst 1, 1) := by decide +kernel
theorem d_M_make_165 : decode m_M_make.2.1 165 = .ok (.iadd, 1) := by decide +kernel
theorem d_M_make_166 : decode m_M_make.2.1 166 = .ok (.iastore, 1) := by decide +kernel
theorem d_M_make_167 : decode m_M_make.2.1 167 = .ok (.aload_n 0, 1) := by decide +kernel
theorem d_M_make_168 : decode m_M_make.2.1 168 = .ok (.getfield 92, 3) := by decide +kernel
theorem d_M_make_171 : decode m_M_make.2.1 171 = .ok (.iload 6, 2) := by decide +kernel
theorem d_M_make_173 : decode m_M_make.2.1 173 = .ok (.iaload, 1) := by decide +kernel
theorem d_M_make_174 : decode m_M_make.2.1 174 = .ok (.ifCond .ne 7, 3) := by decide +kernel
theorem d_M_make_177 : decode m_M_make.2.1 177 = .ok (.iconst 1, 1) := by decide +kernel
theorem d_M_make_178 : decode m_M_make.2.1 178 = .ok (.goto 4, 3) := by decide +kernel
theorem d_M_make_181 : decode m_M_make.2.1 181 = .ok (.iconst 0, 1) := by decide +kernel
theorem d_M_make_182 : decode m_M_make.2.1 182 = .ok (.istore 5, 2) := by decide +kernel
theorem d_M_make_184 : decode m_M_make.2.1 184 = .ok (.iinc 6 1, 3) := by decide +kernel
theorem d_M_make_187 : decode m_M_make.2.1 187 = .ok (.goto (-85), 3) := by decide +kernel
theorem d_M_make_190 : decode m_M_make.2.1 190 = .ok (.iinc 3 1, 3) := by decide +kernel
theorem d_M_make_193 : decode m_M_make.2.1 193 = .ok (.goto (-140), 3) := by decide +kernel
theorem d_M_make_196 : decode m_M_make.2.1 196 = .ok (.aload_n 0, 1) := by decide +kernel
theorem d_M_make_197 : decode m_M_make.2.1 197 = .ok (.dup, 1) := by decide +kernel
theorem d_M_make_198 : decode m_M_make.2.1 198 = .ok (.getfield 205, 3) := by decide +kernel
theorem d_M_make_201 : decode m_M_make.2.1 201 = .ok (.iconst 1, 1) := by decide +kernel
theorem d_M_make_202 : decode m_M_make.2.1 202 = .ok (.iadd, 1) := by decide +kernel
theorem d_M_make_203 : decode m_M_make.2.1 203 = .ok (.putfield 205, 3) := by decide +kernel
theorem d_M_make_206 : decode m_M_make.2.1 206 = .ok (.return_, 1) := by decide +kernel

/-! DECODED: written by wip/whole/gen/dec.py -/
theorem d_M_entryOf_0 : decode m_M_entryOf.2.1 0 = .ok (.iload_n 2, 1) := by decide +kernel
theorem d_M_entryOf_1 : decode m_M_entryOf.2.1 1 = .ok (.bipush 10, 2) := by decide +kernel
theorem d_M_entryOf_3 : decode m_M_entryOf.2.1 3 = .ok (.if_icmp .lt 13, 3) := by decide +kernel
theorem d_M_entryOf_6 : decode m_M_entryOf.2.1 6 = .ok (.aload_n 0, 1) := by decide +kernel
theorem d_M_entryOf_7 : decode m_M_entryOf.2.1 7 = .ok (.getfield 95, 3) := by decide +kernel
theorem d_M_entryOf_10 : decode m_M_entryOf.2.1 10 = .ok (.iload_n 1, 1) := by decide +kernel
theorem d_M_entryOf_11 : decode m_M_entryOf.2.1 11 = .ok (.iaload, 1) := by decide +kernel
theorem d_M_entryOf_12 : decode m_M_entryOf.2.1 12 = .ok (.iconst 2, 1) := by decide +kernel
theorem d_M_entryOf_13 : decode m_M_entryOf.2.1 13 = .ok (.if_icmp .ge 5, 3) := by decide +kernel
theorem d_M_entryOf_16 : decode m_M_entryOf.2.1 16 = .ok (.iconst (-1), 1) := by decide +kernel
theorem d_M_entryOf_17 : decode m_M_entryOf.2.1 17 = .ok (.ireturn, 1) := by decide +kernel
theorem d_M_entryOf_18 : decode m_M_entryOf.2.1 18 = .ok (.aload_n 0, 1) := by decide +kernel
theorem d_M_entryOf_19 : decode m_M_entryOf.2.1 19 = .ok (.getfield 95, 3) := by decide +kernel
theorem d_M_entryOf_22 : decode m_M_entryOf.2.1 22 = .ok (.iload_n 1, 1) := by decide +kernel
theorem d_M_entryOf_23 : decode m_M_entryOf.2.1 23 = .ok (.iaload, 1) := by decide +kernel
theorem d_M_entryOf_24 : decode m_M_entryOf.2.1 24 = .ok (.iconst 3, 1) := by decide +kernel
theorem d_M_entryOf_25 : decode m_M_entryOf.2.1 25 = .ok (.if_icmp .ne 29, 3) := by decide +kernel
theorem d_M_entryOf_28 : decode m_M_entryOf.2.1 28 = .ok (.iload_n 2, 1) := by decide +kernel
theorem d_M_entryOf_29 : decode m_M_entryOf.2.1 29 = .ok (.bipush 18, 2) := by decide +kernel
theorem d_M_entryOf_31 : decode m_M_entryOf.2.1 31 = .ok (.if_icmp .ge 21, 3) := by decide +kernel
theorem d_M_entryOf_34 : decode m_M_entryOf.2.1 34 = .ok (.aload_n 0, 1) := by decide +kernel
theorem d_M_entryOf_35 : decode m_M_entryOf.2.1 35 = .ok (.getfield 113, 3) := by decide +kernel
theorem d_M_entryOf_38 : decode m_M_entryOf.2.1 38 = .ok (.sipush 256, 3) := by decide +kernel
theorem d_M_entryOf_41 : decode m_M_entryOf.2.1 41 = .ok (.iload_n 1, 1) := by decide +kernel
theorem d_M_entryOf_42 : decode m_M_entryOf.2.1 42 = .ok (.imul, 1) := by decide +kernel
theorem d_M_entryOf_43 : decode m_M_entryOf.2.1 43 = .ok (.iload_n 2, 1) := by decide +kernel
theorem d_M_entryOf_44 : decode m_M_entryOf.2.1 44 = .ok (.iadd, 1) := by decide +kernel
theorem d_M_entryOf_45 : decode m_M_entryOf.2.1 45 = .ok (.bipush 10, 2) := by decide +kernel
theorem d_M_entryOf_47 : decode m_M_entryOf.2.1 47 = .ok (.isub, 1) := by decide +kernel
theorem d_M_entryOf_48 : decode m_M_entryOf.2.1 48 = .ok (.iaload, 1) := by decide +kernel
theorem d_M_entryOf_49 : decode m_M_entryOf.2.1 49 = .ok (.goto 4, 3) := by decide +kernel
theorem d_M_entryOf_52 : decode m_M_entryOf.2.1 52 = .ok (.iconst (-1), 1) := by decide +kernel
theorem d_M_entryOf_53 : decode m_M_entryOf.2.1 53 = .ok (.ireturn, 1) := by decide +kernel
theorem d_M_entryOf_54 : decode m_M_entryOf.2.1 54 = .ok (.iload_n 2, 1) := by decide +kernel
theorem d_M_entryOf_55 : decode m_M_entryOf.2.1 55 = .ok (.bipush 10, 2) := by decide +kernel
theorem d_M_entryOf_57 : decode m_M_entryOf.2.1 57 = .ok (.isub, 1) := by decide +kernel
theorem d_M_entryOf_58 : decode m_M_entryOf.2.1 58 = .ok (.aload_n 0, 1) := by decide +kernel
theorem d_M_entryOf_59 : decode m_M_entryOf.2.1 59 = .ok (.getfield 107, 3) := by decide +kernel
theorem d_M_entryOf_62 : decode m_M_entryOf.2.1 62 = .ok (.iload_n 1, 1) := by decide +kernel
theorem d_M_entryOf_63 : decode m_M_entryOf.2.1 63 = .ok (.iaload, 1) := by decide +kernel
theorem d_M_entryOf_64 : decode m_M_entryOf.2.1 64 = .ok (.if_icmp .lt 5, 3) := by decide +kernel
theorem d_M_entryOf_67 : decode m_M_entryOf.2.1 67 = .ok (.iconst (-1), 1) := by decide +kernel
theorem d_M_entryOf_68 : decode m_M_entryOf.2.1 68 = .ok (.ireturn, 1) := by decide +kernel
theorem d_M_entryOf_69 : decode m_M_entryOf.2.1 69 = .ok (.aload_n 0, 1) := by decide +kernel
theorem d_M_entryOf_70 : decode m_M_entryOf.2.1 70 = .ok (.getfield 113, 3) := by decide +kernel
theorem d_M_entryOf_73 : decode m_M_entryOf.2.1 73 = .ok (.sipush 256, 3) := by decide +kernel
theorem d_M_entryOf_76 : decode m_M_entryOf.2.1 76 = .ok (.iload_n 1, 1) := by decide +kernel
theorem d_M_entryOf_77 : decode m_M_entryOf.2.1 77 = .ok (.imul, 1) := by decide +kernel
theorem d_M_entryOf_78 : decode m_M_entryOf.2.1 78 = .ok (.iload_n 2, 1) := by decide +kernel
theorem d_M_entryOf_79 : decode m_M_entryOf.2.1 79 = .ok (.iadd, 1) := by decide +kernel
theorem d_M_entryOf_80 : decode m_M_entryOf.2.1 80 = .ok (.bipush 10, 2) := by decide +kernel
theorem d_M_entryOf_82 : decode m_M_entryOf.2.1 82 = .ok (.isub, 1) := by decide +kernel
theorem d_M_entryOf_83 : decode m_M_entryOf.2.1 83 = .ok (.iaload, 1) := by decide +kernel
theorem d_M_entryOf_84 : decode m_M_entryOf.2.1 84 = .ok (.istore_n 3, 1) := by decide +kernel
theorem d_M_entryOf_85 : decode m_M_entryOf.2.1 85 = .ok (.iload_n 3, 1) := by decide +kernel
theorem d_M_entryOf_86 : decode m_M_entryOf.2.1 86 = .ok (.ldc 145, 2) := by decide +kernel
theorem d_M_entryOf_88 : decode m_M_entryOf.2.1 88 = .ok (.if_icmp .ne 8, 3) := by decide +kernel
theorem d_M_entryOf_91 : decode m_M_entryOf.2.1 91 = .ok (.bipush (-2), 2) := by decide +kernel
theorem d_M_entryOf_93 : decode m_M_entryOf.2.1 93 = .ok (.goto 4, 3) := by decide +kernel
theorem d_M_entryOf_96 : decode m_M_entryOf.2.1 96 = .ok (.iload_n 3, 1) := by decide +kernel
theorem d_M_entryOf_97 : decode m_M_entryOf.2.1 97 = .ok (.ireturn, 1) := by decide +kernel
theorem d_M_again_0 : decode m_M_again.2.1 0 = .ok (.aload_n 0, 1) := by decide +kernel
theorem d_M_again_1 : decode m_M_again.2.1 1 = .ok (.aload_n 0, 1) := by decide +kernel
theorem d_M_again_2 : decode m_M_again.2.1 2 = .ok (.iload_n 1, 1) := by decide +kernel
theorem d_M_again_3 : decode m_M_again.2.1 3 = .ok (.invokevirtual 131, 3) := by decide +kernel
theorem d_M_again_6 : decode m_M_again.2.1 6 = .ok (.ifCond .ne 7, 3) := by decide +kernel
theorem d_M_again_9 : decode m_M_again.2.1 9 = .ok (.iconst 1, 1) := by decide +kernel
theorem d_M_again_10 : decode m_M_again.2.1 10 = .ok (.goto 15, 3) := by decide +kernel
theorem d_M_again_13 : decode m_M_again.2.1 13 = .ok (.aload_n 0, 1) := by decide +kernel
theorem d_M_again_14 : decode m_M_again.2.1 14 = .ok (.getfield 135, 3) := by decide +kernel
theorem d_M_again_17 : decode m_M_again.2.1 17 = .ok (.ifCond .ne 7, 3) := by decide +kernel
theorem d_M_again_20 : decode m_M_again.2.1 20 = .ok (.iconst 2, 1) := by decide +kernel
theorem d_M_again_21 : decode m_M_again.2.1 21 = .ok (.goto 4, 3) := by decide +kernel
theorem d_M_again_24 : decode m_M_again.2.1 24 = .ok (.iconst 0, 1) := by decide +kernel
theorem d_M_again_25 : decode m_M_again.2.1 25 = .ok (.putfield 116, 3) := by decide +kernel
theorem d_M_again_28 : decode m_M_again.2.1 28 = .ok (.aload_n 0, 1) := by decide +kernel
theorem d_M_again_29 : decode m_M_again.2.1 29 = .ok (.getfield 116, 3) := by decide +kernel
theorem d_M_again_32 : decode m_M_again.2.1 32 = .ok (.ifCond .le 5, 3) := by decide +kernel
theorem d_M_again_35 : decode m_M_again.2.1 35 = .ok (.iconst 0, 1) := by decide +kernel
theorem d_M_again_36 : decode m_M_again.2.1 36 = .ok (.ireturn, 1) := by decide +kernel
theorem d_M_again_37 : decode m_M_again.2.1 37 = .ok (.aload_n 0, 1) := by decide +kernel
theorem d_M_again_38 : decode m_M_again.2.1 38 = .ok (.getfield 56, 3) := by decide +kernel
theorem d_M_again_41 : decode m_M_again.2.1 41 = .ok (.iload_n 1, 1) := by decide +kernel
theorem d_M_again_42 : decode m_M_again.2.1 42 = .ok (.iaload, 1) := by decide +kernel
theorem d_M_again_43 : decode m_M_again.2.1 43 = .ok (.ifCond .lt 22, 3) := by decide +kernel
theorem d_M_again_46 : decode m_M_again.2.1 46 = .ok (.aload_n 0, 1) := by decide +kernel
theorem d_M_again_47 : decode m_M_again.2.1 47 = .ok (.iconst 0, 1) := by decide +kernel
theorem d_M_again_48 : decode m_M_again.2.1 48 = .ok (.iload_n 1, 1) := by decide +kernel
theorem d_M_again_49 : decode m_M_again.2.1 49 = .ok (.aload_n 0, 1) := by decide +kernel
theorem d_M_again_50 : decode m_M_again.2.1 50 = .ok (.getfield 56, 3) := by decide +kernel
theorem d_M_again_53 : decode m_M_again.2.1 53 = .ok (.iload_n 1, 1) := by decide +kernel
theorem d_M_again_54 : decode m_M_again.2.1 54 = .ok (.iaload, 1) := by decide +kernel
theorem d_M_again_55 : decode m_M_again.2.1 55 = .ok (.aload_n 0, 1) := by decide +kernel
theorem d_M_again_56 : decode m_M_again.2.1 56 = .ok (.getfield 53, 3) := by decide +kernel
theorem d_M_again_59 : decode m_M_again.2.1 59 = .ok (.iload_n 1, 1) := by decide +kernel
theorem d_M_again_60 : decode m_M_again.2.1 60 = .ok (.iaload, 1) := by decide +kernel
theorem d_M_again_61 : decode m_M_again.2.1 61 = .ok (.invokevirtual 179, 3) := by decide +kernel
theorem d_M_again_64 : decode m_M_again.2.1 64 = .ok (.istore_n 2, 1) := by decide +kernel
theorem d_M_again_65 : decode m_M_again.2.1 65 = .ok (.aload_n 0, 1) := by decide +kernel
theorem d_M_again_66 : decode m_M_again.2.1 66 = .ok (.getfield 41, 3) := by decide +kernel
theorem d_M_again_69 : decode m_M_again.2.1 69 = .ok (.iload_n 1, 1) := by decide +kernel
theorem d_M_again_70 : decode m_M_again.2.1 70 = .ok (.baload, 1) := by decide +kernel
theorem d_M_again_71 : decode m_M_again.2.1 71 = .ok (.ifCond .eq 31, 3) := by decide +kernel
theorem d_M_again_74 : decode m_M_again.2.1 74 = .ok (.aload_n 0, 1) := by decide +kernel
theorem d_M_again_75 : decode m_M_again.2.1 75 = .ok (.getfield 47, 3) := by decide +kernel
theorem d_M_again_78 : decode m_M_again.2.1 78 = .ok (.iload_n 1, 1) := by decide +kernel
theorem d_M_again_79 : decode m_M_again.2.1 79 = .ok (.iaload, 1) := by decide +kernel
theorem d_M_again_80 : decode m_M_again.2.1 80 = .ok (.ifCond .lt 22, 3) := by decide +kernel
theorem d_M_again_83 : decode m_M_again.2.1 83 = .ok (.aload_n 0, 1) := by decide +kernel
theorem d_M_again_84 : decode m_M_again.2.1 84 = .ok (.iconst 1, 1) := by decide +kernel
theorem d_M_again_85 : decode m_M_again.2.1 85 = .ok (.iload_n 1, 1) := by decide +kernel
theorem d_M_again_86 : decode m_M_again.2.1 86 = .ok (.aload_n 0, 1) := by decide +kernel
theorem d_M_again_87 : decode m_M_again.2.1 87 = .ok (.getfield 47, 3) := by decide +kernel
theorem d_M_again_90 : decode m_M_again.2.1 90 = .ok (.iload_n 1, 1) := by decide +kernel
theorem d_M_again_91 : decode m_M_again.2.1 91 = .ok (.iaload, 1) := by decide +kernel
theorem d_M_again_92 : decode m_M_again.2.1 92 = .ok (.aload_n 0, 1) := by decide +kernel
theorem d_M_again_93 : decode m_M_again.2.1 93 = .ok (.getfield 53, 3) := by decide +kernel
theorem d_M_again_96 : decode m_M_again.2.1 96 = .ok (.iload_n 1, 1) := by decide +kernel
theorem d_M_again_97 : decode m_M_again.2.1 97 = .ok (.iaload, 1) := by decide +kernel
theorem d_M_again_98 : decode m_M_again.2.1 98 = .ok (.invokevirtual 179, 3) := by decide +kernel
theorem d_M_again_101 : decode m_M_again.2.1 101 = .ok (.istore_n 2, 1) := by decide +kernel
theorem d_M_again_102 : decode m_M_again.2.1 102 = .ok (.aload_n 0, 1) := by decide +kernel
theorem d_M_again_103 : decode m_M_again.2.1 103 = .ok (.getfield 68, 3) := by decide +kernel
theorem d_M_again_106 : decode m_M_again.2.1 106 = .ok (.iload_n 1, 1) := by decide +kernel
theorem d_M_again_107 : decode m_M_again.2.1 107 = .ok (.iaload, 1) := by decide +kernel
theorem d_M_again_108 : decode m_M_again.2.1 108 = .ok (.ifCond .le 17, 3) := by decide +kernel
theorem d_M_again_111 : decode m_M_again.2.1 111 = .ok (.aload_n 0, 1) := by decide +kernel
theorem d_M_again_112 : decode m_M_again.2.1 112 = .ok (.getfield 47, 3) := by decide +kernel
theorem d_M_again_115 : decode m_M_again.2.1 115 = .ok (.iload_n 1, 1) := by decide +kernel
theorem d_M_again_116 : decode m_M_again.2.1 116 = .ok (.iaload, 1) := by decide +kernel
theorem d_M_again_117 : decode m_M_again.2.1 117 = .ok (.ifCond .lt 8, 3) := by decide +kernel
theorem d_M_again_120 : decode m_M_again.2.1 120 = .ok (.aload_n 0, 1) := by decide +kernel
theorem d_M_again_121 : decode m_M_again.2.1 121 = .ok (.iload_n 1, 1) := by decide +kernel
theorem d_M_again_122 : decode m_M_again.2.1 122 = .ok (.invokevirtual 214, 3) := by decide +kernel
theorem d_M_again_125 : decode m_M_again.2.1 125 = .ok (.aload_n 0, 1) := by decide +kernel
theorem d_M_again_126 : decode m_M_again.2.1 126 = .ok (.getfield 80, 3) := by decide +kernel
theorem d_M_again_129 : decode m_M_again.2.1 129 = .ok (.iload_n 1, 1) := by decide +kernel
theorem d_M_again_130 : decode m_M_again.2.1 130 = .ok (.iaload, 1) := by decide +kernel
theorem d_M_again_131 : decode m_M_again.2.1 131 = .ok (.ifCond .le 8, 3) := by decide +kernel
theorem d_M_again_134 : decode m_M_again.2.1 134 = .ok (.aload_n 0, 1) := by decide +kernel
theorem d_M_again_135 : decode m_M_again.2.1 135 = .ok (.iload_n 1, 1) := by decide +kernel
theorem d_M_again_136 : decode m_M_again.2.1 136 = .ok (.invokevirtual 220, 3) := by decide +kernel
theorem d_M_again_139 : decode m_M_again.2.1 139 = .ok (.aload_n 0, 1) := by decide +kernel
theorem d_M_again_140 : decode m_M_again.2.1 140 = .ok (.getfield 176, 3) := by decide +kernel
theorem d_M_again_143 : decode m_M_again.2.1 143 = .ok (.ireturn, 1) := by decide +kernel
theorem d_M_change_0 : decode m_M_change.2.1 0 = .ok (.aload_n 0, 1) := by decide +kernel
theorem d_M_change_1 : decode m_M_change.2.1 1 = .ok (.invokevirtual 238, 3) := by decide +kernel
theorem d_M_change_4 : decode m_M_change.2.1 4 = .ok (.istore 6, 2) := by decide +kernel
theorem d_M_change_6 : decode m_M_change.2.1 6 = .ok (.aload_n 0, 1) := by decide +kernel
theorem d_M_change_7 : decode m_M_change.2.1 7 = .ok (.aload_n 0, 1) := by decide +kernel
theorem d_M_change_8 : decode m_M_change.2.1 8 = .ok (.iload_n 1, 1) := by decide +kernel
theorem d_M_change_9 : decode m_M_change.2.1 9 = .ok (.iload_n 2, 1) := by decide +kernel
theorem d_M_change_10 : decode m_M_change.2.1 10 = .ok (.iload_n 3, 1) := by decide +kernel
theorem d_M_change_11 : decode m_M_change.2.1 11 = .ok (.iload 4, 2) := by decide +kernel
theorem d_M_change_13 : decode m_M_change.2.1 13 = .ok (.iload 5, 2) := by decide +kernel
theorem d_M_change_15 : decode m_M_change.2.1 15 = .ok (.invokevirtual 153, 3) := by decide +kernel
theorem d_M_change_18 : decode m_M_change.2.1 18 = .ok (.ifCond .ne 7, 3) := by decide +kernel
theorem d_M_change_21 : decode m_M_change.2.1 21 = .ok (.iconst 1, 1) := by decide +kernel
theorem d_M_change_22 : decode m_M_change.2.1 22 = .ok (.goto 20, 3) := by decide +kernel
theorem d_M_change_25 : decode m_M_change.2.1 25 = .ok (.iload 6, 2) := by decide +kernel
theorem d_M_change_27 : decode m_M_change.2.1 27 = .ok (.iconst 1, 1) := by decide +kernel
theorem d_M_change_28 : decode m_M_change.2.1 28 = .ok (.if_icmp .eq 13, 3) := by decide +kernel
theorem d_M_change_31 : decode m_M_change.2.1 31 = .ok (.iload 6, 2) := by decide +kernel
theorem d_M_change_33 : decode m_M_change.2.1 33 = .ok (.iconst 2, 1) := by decide +kernel
theorem d_M_change_34 : decode m_M_change.2.1 34 = .ok (.if_icmp .eq 7, 3) := by decide +kernel
theorem d_M_change_37 : decode m_M_change.2.1 37 = .ok (.iconst 2, 1) := by decide +kernel
theorem d_M_change_38 : decode m_M_change.2.1 38 = .ok (.goto 4, 3) := by decide +kernel
theorem d_M_change_41 : decode m_M_change.2.1 41 = .ok (.iconst 0, 1) := by decide +kernel
theorem d_M_change_42 : decode m_M_change.2.1 42 = .ok (.putfield 116, 3) := by decide +kernel
theorem d_M_change_45 : decode m_M_change.2.1 45 = .ok (.aload_n 0, 1) := by decide +kernel
theorem d_M_change_46 : decode m_M_change.2.1 46 = .ok (.getfield 116, 3) := by decide +kernel
theorem d_M_change_49 : decode m_M_change.2.1 49 = .ok (.ifCond .le 5, 3) := by decide +kernel
theorem d_M_change_52 : decode m_M_change.2.1 52 = .ok (.iconst 0, 1) := by decide +kernel
theorem d_M_change_53 : decode m_M_change.2.1 53 = .ok (.ireturn, 1) := by decide +kernel
theorem d_M_change_54 : decode m_M_change.2.1 54 = .ok (.aload_n 0, 1) := by decide +kernel
theorem d_M_change_55 : decode m_M_change.2.1 55 = .ok (.iload_n 1, 1) := by decide +kernel
theorem d_M_change_56 : decode m_M_change.2.1 56 = .ok (.iload_n 2, 1) := by decide +kernel
theorem d_M_change_57 : decode m_M_change.2.1 57 = .ok (.iload_n 3, 1) := by decide +kernel
theorem d_M_change_58 : decode m_M_change.2.1 58 = .ok (.iload 4, 2) := by decide +kernel
theorem d_M_change_60 : decode m_M_change.2.1 60 = .ok (.iload 5, 2) := by decide +kernel
theorem d_M_change_62 : decode m_M_change.2.1 62 = .ok (.invokevirtual 157, 3) := by decide +kernel
theorem d_M_change_65 : decode m_M_change.2.1 65 = .ok (.aload_n 0, 1) := by decide +kernel
theorem d_M_change_66 : decode m_M_change.2.1 66 = .ok (.getfield 28, 3) := by decide +kernel
theorem d_M_change_69 : decode m_M_change.2.1 69 = .ok (.iload_n 1, 1) := by decide +kernel
theorem d_M_change_70 : decode m_M_change.2.1 70 = .ok (.iaload, 1) := by decide +kernel
theorem d_M_change_71 : decode m_M_change.2.1 71 = .ok (.istore 7, 2) := by decide +kernel
theorem d_M_change_73 : decode m_M_change.2.1 73 = .ok (.aload_n 0, 1) := by decide +kernel
theorem d_M_change_74 : decode m_M_change.2.1 74 = .ok (.getfield 34, 3) := by decide +kernel
theorem d_M_change_77 : decode m_M_change.2.1 77 = .ok (.iload 7, 2) := by decide +kernel
theorem d_M_change_79 : decode m_M_change.2.1 79 = .ok (.dup2, 1) := by decide +kernel
theorem d_M_change_80 : decode m_M_change.2.1 80 = .ok (.iaload, 1) := by decide +kernel
theorem d_M_change_81 : decode m_M_change.2.1 81 = .ok (.iconst 1, 1) := by decide +kernel
theorem d_M_change_82 : decode m_M_change.2.1 82 = .ok (.iadd, 1) := by decide +kernel
theorem d_M_change_83 : decode m_M_change.2.1 83 = .ok (.iastore, 1) := by decide +kernel
theorem d_M_change_84 : decode m_M_change.2.1 84 = .ok (.aload_n 0, 1) := by decide +kernel
theorem d_M_change_85 : decode m_M_change.2.1 85 = .ok (.iconst 0, 1) := by decide +kernel
theorem d_M_change_86 : decode m_M_change.2.1 86 = .ok (.putfield 205, 3) := by decide +kernel
theorem d_M_change_89 : decode m_M_change.2.1 89 = .ok (.aload_n 0, 1) := by decide +kernel
theorem d_M_change_90 : decode m_M_change.2.1 90 = .ok (.aload_n 0, 1) := by decide +kernel
theorem d_M_change_91 : decode m_M_change.2.1 91 = .ok (.getfield 50, 3) := by decide +kernel
theorem d_M_change_94 : decode m_M_change.2.1 94 = .ok (.iload_n 1, 1) := by decide +kernel
theorem d_M_change_95 : decode m_M_change.2.1 95 = .ok (.iaload, 1) := by decide +kernel
theorem d_M_change_96 : decode m_M_change.2.1 96 = .ok (.iload_n 2, 1) := by decide +kernel
theorem d_M_change_97 : decode m_M_change.2.1 97 = .ok (.invokestatic 120, 3) := by decide +kernel
theorem d_M_change_100 : decode m_M_change.2.1 100 = .ok (.ifCond .eq 7, 3) := by decide +kernel
theorem d_M_change_103 : decode m_M_change.2.1 103 = .ok (.iload_n 1, 1) := by decide +kernel
theorem d_M_change_104 : decode m_M_change.2.1 104 = .ok (.goto 4, 3) := by decide +kernel
theorem d_M_change_107 : decode m_M_change.2.1 107 = .ok (.iload_n 2, 1) := by decide +kernel
theorem d_M_change_108 : decode m_M_change.2.1 108 = .ok (.aload_n 0, 1) := by decide +kernel
theorem d_M_change_109 : decode m_M_change.2.1 109 = .ok (.getfield 34, 3) := by decide +kernel
theorem d_M_change_112 : decode m_M_change.2.1 112 = .ok (.iload 7, 2) := by decide +kernel
theorem d_M_change_114 : decode m_M_change.2.1 114 = .ok (.iaload, 1) := by decide +kernel
theorem d_M_change_115 : decode m_M_change.2.1 115 = .ok (.invokevirtual 186, 3) := by decide +kernel
theorem d_M_change_118 : decode m_M_change.2.1 118 = .ok (.aload_n 0, 1) := by decide +kernel
theorem d_M_change_119 : decode m_M_change.2.1 119 = .ok (.getfield 176, 3) := by decide +kernel
theorem d_M_change_122 : decode m_M_change.2.1 122 = .ok (.ireturn, 1) := by decide +kernel
theorem d_M_state_0 : decode m_M_state.2.1 0 = .ok (.aload_n 0, 1) := by decide +kernel
theorem d_M_state_1 : decode m_M_state.2.1 1 = .ok (.getfield 135, 3) := by decide +kernel
theorem d_M_state_4 : decode m_M_state.2.1 4 = .ok (.ifCond .ne 5, 3) := by decide +kernel
theorem d_M_state_7 : decode m_M_state.2.1 7 = .ok (.iconst 0, 1) := by decide +kernel
theorem d_M_state_8 : decode m_M_state.2.1 8 = .ok (.ireturn, 1) := by decide +kernel
theorem d_M_state_9 : decode m_M_state.2.1 9 = .ok (.iconst 0, 1) := by decide +kernel
theorem d_M_state_10 : decode m_M_state.2.1 10 = .ok (.istore_n 1, 1) := by decide +kernel
theorem d_M_state_11 : decode m_M_state.2.1 11 = .ok (.iconst 0, 1) := by decide +kernel
theorem d_M_state_12 : decode m_M_state.2.1 12 = .ok (.istore_n 2, 1) := by decide +kernel
theorem d_M_state_13 : decode m_M_state.2.1 13 = .ok (.iconst 0, 1) := by decide +kernel
theorem d_M_state_14 : decode m_M_state.2.1 14 = .ok (.istore_n 3, 1) := by decide +kernel
theorem d_M_state_15 : decode m_M_state.2.1 15 = .ok (.iconst 0, 1) := by decide +kernel
theorem d_M_state_16 : decode m_M_state.2.1 16 = .ok (.istore 4, 2) := by decide +kernel
theorem d_M_state_18 : decode m_M_state.2.1 18 = .ok (.iload 4, 2) := by decide +kernel
theorem d_M_state_20 : decode m_M_state.2.1 20 = .ok (.aload_n 0, 1) := by decide +kernel
theorem d_M_state_21 : decode m_M_state.2.1 21 = .ok (.getfield 124, 3) := by decide +kernel
theorem d_M_state_24 : decode m_M_state.2.1 24 = .ok (.if_icmp .ge 76, 3) := by decide +kernel
theorem d_M_state_27 : decode m_M_state.2.1 27 = .ok (.iload_n 1, 1) := by decide +kernel
theorem d_M_state_28 : decode m_M_state.2.1 28 = .ok (.ifCond .ne 13, 3) := by decide +kernel
theorem d_M_state_31 : decode m_M_state.2.1 31 = .ok (.aload_n 0, 1) := by decide +kernel
theorem d_M_state_32 : decode m_M_state.2.1 32 = .ok (.getfield 44, 3) := by decide +kernel
theorem d_M_state_35 : decode m_M_state.2.1 35 = .ok (.iload 4, 2) := by decide +kernel
theorem d_M_state_37 : decode m_M_state.2.1 37 = .ok (.baload, 1) := by decide +kernel
theorem d_M_state_38 : decode m_M_state.2.1 38 = .ok (.ifCond .eq 7, 3) := by decide +kernel
theorem d_M_state_41 : decode m_M_state.2.1 41 = .ok (.iconst 1, 1) := by decide +kernel
theorem d_M_state_42 : decode m_M_state.2.1 42 = .ok (.goto 4, 3) := by decide +kernel
theorem d_M_state_45 : decode m_M_state.2.1 45 = .ok (.iconst 0, 1) := by decide +kernel
theorem d_M_state_46 : decode m_M_state.2.1 46 = .ok (.istore_n 1, 1) := by decide +kernel
theorem d_M_state_47 : decode m_M_state.2.1 47 = .ok (.iload_n 2, 1) := by decide +kernel
theorem d_M_state_48 : decode m_M_state.2.1 48 = .ok (.ifCond .ne 12, 3) := by decide +kernel
theorem d_M_state_51 : decode m_M_state.2.1 51 = .ok (.aload_n 0, 1) := by decide +kernel
theorem d_M_state_52 : decode m_M_state.2.1 52 = .ok (.iload 4, 2) := by decide +kernel
theorem d_M_state_54 : decode m_M_state.2.1 54 = .ok (.invokevirtual 232, 3) := by decide +kernel
theorem d_M_state_57 : decode m_M_state.2.1 57 = .ok (.ifCond .eq 7, 3) := by decide +kernel
theorem d_M_state_60 : decode m_M_state.2.1 60 = .ok (.iconst 1, 1) := by decide +kernel
theorem d_M_state_61 : decode m_M_state.2.1 61 = .ok (.goto 4, 3) := by decide +kernel
theorem d_M_state_64 : decode m_M_state.2.1 64 = .ok (.iconst 0, 1) := by decide +kernel
theorem d_M_state_65 : decode m_M_state.2.1 65 = .ok (.istore_n 2, 1) := by decide +kernel
theorem d_M_state_66 : decode m_M_state.2.1 66 = .ok (.iload_n 3, 1) := by decide +kernel
theorem d_M_state_67 : decode m_M_state.2.1 67 = .ok (.ifCond .ne 21, 3) := by decide +kernel
theorem d_M_state_70 : decode m_M_state.2.1 70 = .ok (.aload_n 0, 1) := by decide +kernel
theorem d_M_state_71 : decode m_M_state.2.1 71 = .ok (.iload 4, 2) := by decide +kernel
theorem d_M_state_73 : decode m_M_state.2.1 73 = .ok (.invokevirtual 235, 3) := by decide +kernel
theorem d_M_state_76 : decode m_M_state.2.1 76 = .ok (.ifCond .ne 16, 3) := by decide +kernel
theorem d_M_state_79 : decode m_M_state.2.1 79 = .ok (.aload_n 0, 1) := by decide +kernel
theorem d_M_state_80 : decode m_M_state.2.1 80 = .ok (.iload 4, 2) := by decide +kernel
theorem d_M_state_82 : decode m_M_state.2.1 82 = .ok (.invokevirtual 232, 3) := by decide +kernel
theorem d_M_state_85 : decode m_M_state.2.1 85 = .ok (.ifCond .ne 7, 3) := by decide +kernel
theorem d_M_state_88 : decode m_M_state.2.1 88 = .ok (.iconst 1, 1) := by decide +kernel
theorem d_M_state_89 : decode m_M_state.2.1 89 = .ok (.goto 4, 3) := by decide +kernel
theorem d_M_state_92 : decode m_M_state.2.1 92 = .ok (.iconst 0, 1) := by decide +kernel
theorem d_M_state_93 : decode m_M_state.2.1 93 = .ok (.istore_n 3, 1) := by decide +kernel
theorem d_M_state_94 : decode m_M_state.2.1 94 = .ok (.iinc 4 1, 3) := by decide +kernel
theorem d_M_state_97 : decode m_M_state.2.1 97 = .ok (.goto (-79), 3) := by decide +kernel
theorem d_M_state_100 : decode m_M_state.2.1 100 = .ok (.iload_n 1, 1) := by decide +kernel
theorem d_M_state_101 : decode m_M_state.2.1 101 = .ok (.ifCond .eq 7, 3) := by decide +kernel
theorem d_M_state_104 : decode m_M_state.2.1 104 = .ok (.iconst 3, 1) := by decide +kernel
theorem d_M_state_105 : decode m_M_state.2.1 105 = .ok (.goto 20, 3) := by decide +kernel
theorem d_M_state_108 : decode m_M_state.2.1 108 = .ok (.iload_n 3, 1) := by decide +kernel
theorem d_M_state_109 : decode m_M_state.2.1 109 = .ok (.ifCond .eq 7, 3) := by decide +kernel
theorem d_M_state_112 : decode m_M_state.2.1 112 = .ok (.iconst 0, 1) := by decide +kernel
theorem d_M_state_113 : decode m_M_state.2.1 113 = .ok (.goto 12, 3) := by decide +kernel
theorem d_M_state_116 : decode m_M_state.2.1 116 = .ok (.iload_n 2, 1) := by decide +kernel
theorem d_M_state_117 : decode m_M_state.2.1 117 = .ok (.ifCond .eq 7, 3) := by decide +kernel
theorem d_M_state_120 : decode m_M_state.2.1 120 = .ok (.iconst 2, 1) := by decide +kernel
theorem d_M_state_121 : decode m_M_state.2.1 121 = .ok (.goto 4, 3) := by decide +kernel
theorem d_M_state_124 : decode m_M_state.2.1 124 = .ok (.iconst 1, 1) := by decide +kernel
theorem d_M_state_125 : decode m_M_state.2.1 125 = .ok (.ireturn, 1) := by decide +kernel
theorem d_M_isLost_0 : decode m_M_isLost.2.1 0 = .ok (.aload_n 0, 1) := by decide +kernel
theorem d_M_isLost_1 : decode m_M_isLost.2.1 1 = .ok (.getfield 83, 3) := by decide +kernel
theorem d_M_isLost_4 : decode m_M_isLost.2.1 4 = .ok (.aload_n 0, 1) := by decide +kernel
theorem d_M_isLost_5 : decode m_M_isLost.2.1 5 = .ok (.getfield 31, 3) := by decide +kernel
theorem d_M_isLost_8 : decode m_M_isLost.2.1 8 = .ok (.aload_n 0, 1) := by decide +kernel
theorem d_M_isLost_9 : decode m_M_isLost.2.1 9 = .ok (.getfield 28, 3) := by decide +kernel
theorem d_M_isLost_12 : decode m_M_isLost.2.1 12 = .ok (.iload_n 1, 1) := by decide +kernel
theorem d_M_isLost_13 : decode m_M_isLost.2.1 13 = .ok (.iaload, 1) := by decide +kernel
theorem d_M_isLost_14 : decode m_M_isLost.2.1 14 = .ok (.iaload, 1) := by decide +kernel
theorem d_M_isLost_15 : decode m_M_isLost.2.1 15 = .ok (.iaload, 1) := by decide +kernel
theorem d_M_isLost_16 : decode m_M_isLost.2.1 16 = .ok (.aload_n 0, 1) := by decide +kernel
theorem d_M_isLost_17 : decode m_M_isLost.2.1 17 = .ok (.getfield 34, 3) := by decide +kernel
theorem d_M_isLost_20 : decode m_M_isLost.2.1 20 = .ok (.aload_n 0, 1) := by decide +kernel
theorem d_M_isLost_21 : decode m_M_isLost.2.1 21 = .ok (.getfield 28, 3) := by decide +kernel
theorem d_M_isLost_24 : decode m_M_isLost.2.1 24 = .ok (.iload_n 1, 1) := by decide +kernel
theorem d_M_isLost_25 : decode m_M_isLost.2.1 25 = .ok (.iaload, 1) := by decide +kernel
theorem d_M_isLost_26 : decode m_M_isLost.2.1 26 = .ok (.iaload, 1) := by decide +kernel
theorem d_M_isLost_27 : decode m_M_isLost.2.1 27 = .ok (.if_icmp .ne 7, 3) := by decide +kernel
theorem d_M_isLost_30 : decode m_M_isLost.2.1 30 = .ok (.iconst 1, 1) := by decide +kernel
theorem d_M_isLost_31 : decode m_M_isLost.2.1 31 = .ok (.goto 4, 3) := by decide +kernel
theorem d_M_isLost_34 : decode m_M_isLost.2.1 34 = .ok (.iconst 0, 1) := by decide +kernel
theorem d_M_isLost_35 : decode m_M_isLost.2.1 35 = .ok (.ireturn, 1) := by decide +kernel
theorem d_M_isSettled_0 : decode m_M_isSettled.2.1 0 = .ok (.aload_n 0, 1) := by decide +kernel
theorem d_M_isSettled_1 : decode m_M_isSettled.2.1 1 = .ok (.getfield 135, 3) := by decide +kernel
theorem d_M_isSettled_4 : decode m_M_isSettled.2.1 4 = .ok (.ifCond .eq 27, 3) := by decide +kernel
theorem d_M_isSettled_7 : decode m_M_isSettled.2.1 7 = .ok (.aload_n 0, 1) := by decide +kernel
theorem d_M_isSettled_8 : decode m_M_isSettled.2.1 8 = .ok (.getfield 80, 3) := by decide +kernel
theorem d_M_isSettled_11 : decode m_M_isSettled.2.1 11 = .ok (.iload_n 1, 1) := by decide +kernel
theorem d_M_isSettled_12 : decode m_M_isSettled.2.1 12 = .ok (.iaload, 1) := by decide +kernel
theorem d_M_isSettled_13 : decode m_M_isSettled.2.1 13 = .ok (.aload_n 0, 1) := by decide +kernel
theorem d_M_isSettled_14 : decode m_M_isSettled.2.1 14 = .ok (.getfield 34, 3) := by decide +kernel
theorem d_M_isSettled_17 : decode m_M_isSettled.2.1 17 = .ok (.aload_n 0, 1) := by decide +kernel
theorem d_M_isSettled_18 : decode m_M_isSettled.2.1 18 = .ok (.getfield 28, 3) := by decide +kernel
theorem d_M_isSettled_21 : decode m_M_isSettled.2.1 21 = .ok (.iload_n 1, 1) := by decide +kernel
theorem d_M_isSettled_22 : decode m_M_isSettled.2.1 22 = .ok (.iaload, 1) := by decide +kernel
theorem d_M_isSettled_23 : decode m_M_isSettled.2.1 23 = .ok (.iaload, 1) := by decide +kernel
theorem d_M_isSettled_24 : decode m_M_isSettled.2.1 24 = .ok (.if_icmp .ne 7, 3) := by decide +kernel
theorem d_M_isSettled_27 : decode m_M_isSettled.2.1 27 = .ok (.iconst 1, 1) := by decide +kernel
theorem d_M_isSettled_28 : decode m_M_isSettled.2.1 28 = .ok (.goto 4, 3) := by decide +kernel
theorem d_M_isSettled_31 : decode m_M_isSettled.2.1 31 = .ok (.iconst 0, 1) := by decide +kernel
theorem d_M_isSettled_32 : decode m_M_isSettled.2.1 32 = .ok (.ireturn, 1) := by decide +kernel
theorem d_M_done_0 : decode m_M_done.2.1 0 = .ok (.aload_n 0, 1) := by decide +kernel
theorem d_M_done_1 : decode m_M_done.2.1 1 = .ok (.iconst 0, 1) := by decide +kernel
theorem d_M_done_2 : decode m_M_done.2.1 2 = .ok (.putfield 116, 3) := by decide +kernel
theorem d_M_done_5 : decode m_M_done.2.1 5 = .ok (.aload_n 0, 1) := by decide +kernel
theorem d_M_done_6 : decode m_M_done.2.1 6 = .ok (.invokevirtual 238, 3) := by decide +kernel
theorem d_M_done_9 : decode m_M_done.2.1 9 = .ok (.ireturn, 1) := by decide +kernel
theorem d_M_value_0 : decode m_M_value.2.1 0 = .ok (.aload_n 0, 1) := by decide +kernel
theorem d_M_value_1 : decode m_M_value.2.1 1 = .ok (.iconst 0, 1) := by decide +kernel
theorem d_M_value_2 : decode m_M_value.2.1 2 = .ok (.putfield 116, 3) := by decide +kernel
theorem d_M_value_5 : decode m_M_value.2.1 5 = .ok (.aload_n 0, 1) := by decide +kernel
theorem d_M_value_6 : decode m_M_value.2.1 6 = .ok (.iload_n 1, 1) := by decide +kernel
theorem d_M_value_7 : decode m_M_value.2.1 7 = .ok (.invokevirtual 131, 3) := by decide +kernel
theorem d_M_value_10 : decode m_M_value.2.1 10 = .ok (.ifCond .eq 20, 3) := by decide +kernel
theorem d_M_value_13 : decode m_M_value.2.1 13 = .ok (.aload_n 0, 1) := by decide +kernel
theorem d_M_value_14 : decode m_M_value.2.1 14 = .ok (.iload_n 1, 1) := by decide +kernel
theorem d_M_value_15 : decode m_M_value.2.1 15 = .ok (.invokevirtual 235, 3) := by decide +kernel
theorem d_M_value_18 : decode m_M_value.2.1 18 = .ok (.ifCond .eq 12, 3) := by decide +kernel
theorem d_M_value_21 : decode m_M_value.2.1 21 = .ok (.aload_n 0, 1) := by decide +kernel
theorem d_M_value_22 : decode m_M_value.2.1 22 = .ok (.getfield 86, 3) := by decide +kernel
theorem d_M_value_25 : decode m_M_value.2.1 25 = .ok (.iload_n 1, 1) := by decide +kernel
theorem d_M_value_26 : decode m_M_value.2.1 26 = .ok (.iaload, 1) := by decide +kernel
theorem d_M_value_27 : decode m_M_value.2.1 27 = .ok (.goto 4, 3) := by decide +kernel
theorem d_M_value_30 : decode m_M_value.2.1 30 = .ok (.iconst (-1), 1) := by decide +kernel
theorem d_M_value_31 : decode m_M_value.2.1 31 = .ok (.ireturn, 1) := by decide +kernel
theorem d_M_total_0 : decode m_M_total.2.1 0 = .ok (.aload_n 0, 1) := by decide +kernel
theorem d_M_total_1 : decode m_M_total.2.1 1 = .ok (.iconst 0, 1) := by decide +kernel
theorem d_M_total_2 : decode m_M_total.2.1 2 = .ok (.putfield 116, 3) := by decide +kernel
theorem d_M_total_5 : decode m_M_total.2.1 5 = .ok (.aload_n 0, 1) := by decide +kernel
theorem d_M_total_6 : decode m_M_total.2.1 6 = .ok (.invokevirtual 238, 3) := by decide +kernel
theorem d_M_total_9 : decode m_M_total.2.1 9 = .ok (.iconst 1, 1) := by decide +kernel
theorem d_M_total_10 : decode m_M_total.2.1 10 = .ok (.if_icmp .eq 5, 3) := by decide +kernel
theorem d_M_total_13 : decode m_M_total.2.1 13 = .ok (.iconst (-1), 1) := by decide +kernel
theorem d_M_total_14 : decode m_M_total.2.1 14 = .ok (.ireturn, 1) := by decide +kernel
theorem d_M_total_15 : decode m_M_total.2.1 15 = .ok (.iconst 0, 1) := by decide +kernel
theorem d_M_total_16 : decode m_M_total.2.1 16 = .ok (.istore_n 1, 1) := by decide +kernel
theorem d_M_total_17 : decode m_M_total.2.1 17 = .ok (.iconst 0, 1) := by decide +kernel
theorem d_M_total_18 : decode m_M_total.2.1 18 = .ok (.istore_n 2, 1) := by decide +kernel
theorem d_M_total_19 : decode m_M_total.2.1 19 = .ok (.iload_n 2, 1) := by decide +kernel
theorem d_M_total_20 : decode m_M_total.2.1 20 = .ok (.aload_n 0, 1) := by decide +kernel
theorem d_M_total_21 : decode m_M_total.2.1 21 = .ok (.getfield 124, 3) := by decide +kernel
theorem d_M_total_24 : decode m_M_total.2.1 24 = .ok (.if_icmp .ge 41, 3) := by decide +kernel
theorem d_M_total_27 : decode m_M_total.2.1 27 = .ok (.aload_n 0, 1) := by decide +kernel
theorem d_M_total_28 : decode m_M_total.2.1 28 = .ok (.getfield 31, 3) := by decide +kernel
theorem d_M_total_31 : decode m_M_total.2.1 31 = .ok (.aload_n 0, 1) := by decide +kernel
theorem d_M_total_32 : decode m_M_total.2.1 32 = .ok (.getfield 28, 3) := by decide +kernel
theorem d_M_total_35 : decode m_M_total.2.1 35 = .ok (.iload_n 2, 1) := by decide +kernel
theorem d_M_total_36 : decode m_M_total.2.1 36 = .ok (.iaload, 1) := by decide +kernel
theorem d_M_total_37 : decode m_M_total.2.1 37 = .ok (.iaload, 1) := by decide +kernel
theorem d_M_total_38 : decode m_M_total.2.1 38 = .ok (.iload_n 2, 1) := by decide +kernel
theorem d_M_total_39 : decode m_M_total.2.1 39 = .ok (.if_icmp .ne 18, 3) := by decide +kernel
theorem d_M_total_42 : decode m_M_total.2.1 42 = .ok (.iload_n 1, 1) := by decide +kernel
theorem d_M_total_43 : decode m_M_total.2.1 43 = .ok (.aload_n 0, 1) := by decide +kernel
theorem d_M_total_44 : decode m_M_total.2.1 44 = .ok (.getfield 77, 3) := by decide +kernel
theorem d_M_total_47 : decode m_M_total.2.1 47 = .ok (.sipush 256, 3) := by decide +kernel
theorem d_M_total_50 : decode m_M_total.2.1 50 = .ok (.iload_n 2, 1) := by decide +kernel
theorem d_M_total_51 : decode m_M_total.2.1 51 = .ok (.imul, 1) := by decide +kernel
theorem d_M_total_52 : decode m_M_total.2.1 52 = .ok (.iaload, 1) := by decide +kernel
theorem d_M_total_53 : decode m_M_total.2.1 53 = .ok (.iadd, 1) := by decide +kernel
theorem d_M_total_54 : decode m_M_total.2.1 54 = .ok (.goto 4, 3) := by decide +kernel
theorem d_M_total_57 : decode m_M_total.2.1 57 = .ok (.iload_n 1, 1) := by decide +kernel
theorem d_M_total_58 : decode m_M_total.2.1 58 = .ok (.istore_n 1, 1) := by decide +kernel
theorem d_M_total_59 : decode m_M_total.2.1 59 = .ok (.iinc 2 1, 3) := by decide +kernel
theorem d_M_total_62 : decode m_M_total.2.1 62 = .ok (.goto (-43), 3) := by decide +kernel
theorem d_M_total_65 : decode m_M_total.2.1 65 = .ok (.iload_n 1, 1) := by decide +kernel
theorem d_M_total_66 : decode m_M_total.2.1 66 = .ok (.ireturn, 1) := by decide +kernel
theorem d_M_parent_0 : decode m_M_parent.2.1 0 = .ok (.aload_n 0, 1) := by decide +kernel
theorem d_M_parent_1 : decode m_M_parent.2.1 1 = .ok (.iconst 0, 1) := by decide +kernel
theorem d_M_parent_2 : decode m_M_parent.2.1 2 = .ok (.putfield 116, 3) := by decide +kernel
theorem d_M_parent_5 : decode m_M_parent.2.1 5 = .ok (.aload_n 0, 1) := by decide +kernel
theorem d_M_parent_6 : decode m_M_parent.2.1 6 = .ok (.iload_n 1, 1) := by decide +kernel
theorem d_M_parent_7 : decode m_M_parent.2.1 7 = .ok (.invokevirtual 131, 3) := by decide +kernel
theorem d_M_parent_10 : decode m_M_parent.2.1 10 = .ok (.ifCond .eq 12, 3) := by decide +kernel
theorem d_M_parent_13 : decode m_M_parent.2.1 13 = .ok (.aload_n 0, 1) := by decide +kernel
theorem d_M_parent_14 : decode m_M_parent.2.1 14 = .ok (.getfield 47, 3) := by decide +kernel
theorem d_M_parent_17 : decode m_M_parent.2.1 17 = .ok (.iload_n 1, 1) := by decide +kernel
theorem d_M_parent_18 : decode m_M_parent.2.1 18 = .ok (.iaload, 1) := by decide +kernel
theorem d_M_parent_19 : decode m_M_parent.2.1 19 = .ok (.goto 4, 3) := by decide +kernel
theorem d_M_parent_22 : decode m_M_parent.2.1 22 = .ok (.iconst (-1), 1) := by decide +kernel
theorem d_M_parent_23 : decode m_M_parent.2.1 23 = .ok (.ireturn, 1) := by decide +kernel

/-! DECODED: written by wip/whole/gen/dec.py -/
theorem d_B_own_0 : decode m_B_own.2.1 0 = .ok (.aload_n 0, 1) := by decide +kernel
theorem d_B_own_1 : decode m_B_own.2.1 1 = .ok (.iload_n 1, 1) := by decide +kernel
theorem d_B_own_2 : decode m_B_own.2.1 2 = .ok (.iload_n 2, 1) := by decide +kernel
theorem d_B_own_3 : decode m_B_own.2.1 3 = .ok (.invokevirtual 54, 3) := by decide +kernel
theorem d_B_own_6 : decode m_B_own.2.1 6 = .ok (.ifCond .eq 10, 3) := by decide +kernel
theorem d_B_own_9 : decode m_B_own.2.1 9 = .ok (.iload_n 3, 1) := by decide +kernel
theorem d_B_own_10 : decode m_B_own.2.1 10 = .ok (.invokestatic 58, 3) := by decide +kernel
theorem d_B_own_13 : decode m_B_own.2.1 13 = .ok (.ifCond .ne 13, 3) := by decide +kernel
theorem d_B_own_16 : decode m_B_own.2.1 16 = .ok (.new 35, 3) := by decide +kernel
theorem d_B_own_19 : decode m_B_own.2.1 19 = .ok (.dup, 1) := by decide +kernel
theorem d_B_own_20 : decode m_B_own.2.1 20 = .ok (.ldc 62, 2) := by decide +kernel
theorem d_B_own_22 : decode m_B_own.2.1 22 = .ok (.invokespecial 39, 3) := by decide +kernel
theorem d_B_own_25 : decode m_B_own.2.1 25 = .ok (.athrow, 1) := by decide +kernel
theorem d_B_own_26 : decode m_B_own.2.1 26 = .ok (.aload_n 0, 1) := by decide +kernel
theorem d_B_own_27 : decode m_B_own.2.1 27 = .ok (.getfield 31, 3) := by decide +kernel
theorem d_B_own_30 : decode m_B_own.2.1 30 = .ok (.ifCond .ne 13, 3) := by decide +kernel
theorem d_B_own_33 : decode m_B_own.2.1 33 = .ok (.new 46, 3) := by decide +kernel
theorem d_B_own_36 : decode m_B_own.2.1 36 = .ok (.dup, 1) := by decide +kernel
theorem d_B_own_37 : decode m_B_own.2.1 37 = .ok (.ldc 64, 2) := by decide +kernel
theorem d_B_own_39 : decode m_B_own.2.1 39 = .ok (.invokespecial 50, 3) := by decide +kernel
theorem d_B_own_42 : decode m_B_own.2.1 42 = .ok (.athrow, 1) := by decide +kernel
theorem d_B_own_43 : decode m_B_own.2.1 43 = .ok (.aload_n 0, 1) := by decide +kernel
theorem d_B_own_44 : decode m_B_own.2.1 44 = .ok (.getfield 11, 3) := by decide +kernel
theorem d_B_own_47 : decode m_B_own.2.1 47 = .ok (.iload_n 1, 1) := by decide +kernel
theorem d_B_own_48 : decode m_B_own.2.1 48 = .ok (.aaload, 1) := by decide +kernel
theorem d_B_own_49 : decode m_B_own.2.1 49 = .ok (.getfield 66, 3) := by decide +kernel
theorem d_B_own_52 : decode m_B_own.2.1 52 = .ok (.iload_n 2, 1) := by decide +kernel
theorem d_B_own_53 : decode m_B_own.2.1 53 = .ok (.iload_n 3, 1) := by decide +kernel
theorem d_B_own_54 : decode m_B_own.2.1 54 = .ok (.iastore, 1) := by decide +kernel
theorem d_B_own_55 : decode m_B_own.2.1 55 = .ok (.return_, 1) := by decide +kernel
theorem d_B_isValue_0 : decode m_B_isValue.2.1 0 = .ok (.aload_n 0, 1) := by decide +kernel
theorem d_B_isValue_1 : decode m_B_isValue.2.1 1 = .ok (.iload_n 1, 1) := by decide +kernel
theorem d_B_isValue_2 : decode m_B_isValue.2.1 2 = .ok (.invokevirtual 69, 3) := by decide +kernel
theorem d_B_isValue_5 : decode m_B_isValue.2.1 5 = .ok (.ifCond .eq 24, 3) := by decide +kernel
theorem d_B_isValue_8 : decode m_B_isValue.2.1 8 = .ok (.iload_n 2, 1) := by decide +kernel
theorem d_B_isValue_9 : decode m_B_isValue.2.1 9 = .ok (.ifCond .lt 20, 3) := by decide +kernel
theorem d_B_isValue_12 : decode m_B_isValue.2.1 12 = .ok (.iload_n 2, 1) := by decide +kernel
theorem d_B_isValue_13 : decode m_B_isValue.2.1 13 = .ok (.aload_n 0, 1) := by decide +kernel
theorem d_B_isValue_14 : decode m_B_isValue.2.1 14 = .ok (.getfield 11, 3) := by decide +kernel
theorem d_B_isValue_17 : decode m_B_isValue.2.1 17 = .ok (.iload_n 1, 1) := by decide +kernel
theorem d_B_isValue_18 : decode m_B_isValue.2.1 18 = .ok (.aaload, 1) := by decide +kernel
theorem d_B_isValue_19 : decode m_B_isValue.2.1 19 = .ok (.getfield 245, 3) := by decide +kernel
theorem d_B_isValue_22 : decode m_B_isValue.2.1 22 = .ok (.if_icmp .ge 7, 3) := by decide +kernel
theorem d_B_isValue_25 : decode m_B_isValue.2.1 25 = .ok (.iconst 1, 1) := by decide +kernel
theorem d_B_isValue_26 : decode m_B_isValue.2.1 26 = .ok (.goto 4, 3) := by decide +kernel
theorem d_B_isValue_29 : decode m_B_isValue.2.1 29 = .ok (.iconst 0, 1) := by decide +kernel
theorem d_B_isValue_30 : decode m_B_isValue.2.1 30 = .ok (.ireturn, 1) := by decide +kernel
theorem d_B_isCost_0 : decode m_B_isCost.2.1 0 = .ok (.iload_n 0, 1) := by decide +kernel
theorem d_B_isCost_1 : decode m_B_isCost.2.1 1 = .ok (.bipush (-2), 2) := by decide +kernel
theorem d_B_isCost_3 : decode m_B_isCost.2.1 3 = .ok (.if_icmp .eq 14, 3) := by decide +kernel
theorem d_B_isCost_6 : decode m_B_isCost.2.1 6 = .ok (.iload_n 0, 1) := by decide +kernel
theorem d_B_isCost_7 : decode m_B_isCost.2.1 7 = .ok (.ifCond .lt 14, 3) := by decide +kernel
theorem d_B_isCost_10 : decode m_B_isCost.2.1 10 = .ok (.iload_n 0, 1) := by decide +kernel
theorem d_B_isCost_11 : decode m_B_isCost.2.1 11 = .ok (.sipush 999, 3) := by decide +kernel
theorem d_B_isCost_14 : decode m_B_isCost.2.1 14 = .ok (.if_icmp .gt 7, 3) := by decide +kernel
theorem d_B_isCost_17 : decode m_B_isCost.2.1 17 = .ok (.iconst 1, 1) := by decide +kernel
theorem d_B_isCost_18 : decode m_B_isCost.2.1 18 = .ok (.goto 4, 3) := by decide +kernel
theorem d_B_isCost_21 : decode m_B_isCost.2.1 21 = .ok (.iconst 0, 1) := by decide +kernel
theorem d_B_isCost_22 : decode m_B_isCost.2.1 22 = .ok (.ireturn, 1) := by decide +kernel
theorem d_B_pair_0 : decode m_B_pair.2.1 0 = .ok (.aload_n 0, 1) := by decide +kernel
theorem d_B_pair_1 : decode m_B_pair.2.1 1 = .ok (.iload_n 1, 1) := by decide +kernel
theorem d_B_pair_2 : decode m_B_pair.2.1 2 = .ok (.invokevirtual 69, 3) := by decide +kernel
theorem d_B_pair_5 : decode m_B_pair.2.1 5 = .ok (.ifCond .eq 16, 3) := by decide +kernel
theorem d_B_pair_8 : decode m_B_pair.2.1 8 = .ok (.aload_n 0, 1) := by decide +kernel
theorem d_B_pair_9 : decode m_B_pair.2.1 9 = .ok (.iload_n 2, 1) := by decide +kernel
theorem d_B_pair_10 : decode m_B_pair.2.1 10 = .ok (.invokevirtual 69, 3) := by decide +kernel
theorem d_B_pair_13 : decode m_B_pair.2.1 13 = .ok (.ifCond .eq 8, 3) := by decide +kernel
theorem d_B_pair_16 : decode m_B_pair.2.1 16 = .ok (.iload_n 1, 1) := by decide +kernel
theorem d_B_pair_17 : decode m_B_pair.2.1 17 = .ok (.iload_n 2, 1) := by decide +kernel
theorem d_B_pair_18 : decode m_B_pair.2.1 18 = .ok (.if_icmp .ne 13, 3) := by decide +kernel
theorem d_B_pair_21 : decode m_B_pair.2.1 21 = .ok (.new 35, 3) := by decide +kernel
theorem d_B_pair_24 : decode m_B_pair.2.1 24 = .ok (.dup, 1) := by decide +kernel
theorem d_B_pair_25 : decode m_B_pair.2.1 25 = .ok (.ldc 72, 2) := by decide +kernel
theorem d_B_pair_27 : decode m_B_pair.2.1 27 = .ok (.invokespecial 39, 3) := by decide +kernel
theorem d_B_pair_30 : decode m_B_pair.2.1 30 = .ok (.athrow, 1) := by decide +kernel
theorem d_B_pair_31 : decode m_B_pair.2.1 31 = .ok (.aload_n 0, 1) := by decide +kernel
theorem d_B_pair_32 : decode m_B_pair.2.1 32 = .ok (.getfield 31, 3) := by decide +kernel
theorem d_B_pair_35 : decode m_B_pair.2.1 35 = .ok (.ifCond .eq 21, 3) := by decide +kernel
theorem d_B_pair_38 : decode m_B_pair.2.1 38 = .ok (.aload_n 0, 1) := by decide +kernel
theorem d_B_pair_39 : decode m_B_pair.2.1 39 = .ok (.getfield 74, 3) := by decide +kernel
theorem d_B_pair_42 : decode m_B_pair.2.1 42 = .ok (.bipush 12, 2) := by decide +kernel
theorem d_B_pair_44 : decode m_B_pair.2.1 44 = .ok (.if_icmp .eq 12, 3) := by decide +kernel
theorem d_B_pair_47 : decode m_B_pair.2.1 47 = .ok (.aload_n 0, 1) := by decide +kernel
theorem d_B_pair_48 : decode m_B_pair.2.1 48 = .ok (.iload_n 1, 1) := by decide +kernel
theorem d_B_pair_49 : decode m_B_pair.2.1 49 = .ok (.iload_n 2, 1) := by decide +kernel
theorem d_B_pair_50 : decode m_B_pair.2.1 50 = .ok (.invokevirtual 77, 3) := by decide +kernel
theorem d_B_pair_53 : decode m_B_pair.2.1 53 = .ok (.ifnull 13, 3) := by decide +kernel
theorem d_B_pair_56 : decode m_B_pair.2.1 56 = .ok (.new 46, 3) := by decide +kernel
theorem d_B_pair_59 : decode m_B_pair.2.1 59 = .ok (.dup, 1) := by decide +kernel
theorem d_B_pair_60 : decode m_B_pair.2.1 60 = .ok (.ldc 81, 2) := by decide +kernel
theorem d_B_pair_62 : decode m_B_pair.2.1 62 = .ok (.invokespecial 50, 3) := by decide +kernel
theorem d_B_pair_65 : decode m_B_pair.2.1 65 = .ok (.athrow, 1) := by decide +kernel
theorem d_B_pair_66 : decode m_B_pair.2.1 66 = .ok (.aload_n 0, 1) := by decide +kernel
theorem d_B_pair_67 : decode m_B_pair.2.1 67 = .ok (.getfield 17, 3) := by decide +kernel
theorem d_B_pair_70 : decode m_B_pair.2.1 70 = .ok (.aload_n 0, 1) := by decide +kernel
theorem d_B_pair_71 : decode m_B_pair.2.1 71 = .ok (.getfield 74, 3) := by decide +kernel
theorem d_B_pair_74 : decode m_B_pair.2.1 74 = .ok (.new 15, 3) := by decide +kernel
theorem d_B_pair_77 : decode m_B_pair.2.1 77 = .ok (.dup, 1) := by decide +kernel
theorem d_B_pair_78 : decode m_B_pair.2.1 78 = .ok (.iload_n 1, 1) := by decide +kernel
theorem d_B_pair_79 : decode m_B_pair.2.1 79 = .ok (.iload_n 2, 1) := by decide +kernel
theorem d_B_pair_80 : decode m_B_pair.2.1 80 = .ok (.invokestatic 83, 3) := by decide +kernel
theorem d_B_pair_83 : decode m_B_pair.2.1 83 = .ok (.iload_n 1, 1) := by decide +kernel
theorem d_B_pair_84 : decode m_B_pair.2.1 84 = .ok (.iload_n 2, 1) := by decide +kernel
theorem d_B_pair_85 : decode m_B_pair.2.1 85 = .ok (.invokestatic 89, 3) := by decide +kernel
theorem d_B_pair_88 : decode m_B_pair.2.1 88 = .ok (.invokespecial 92, 3) := by decide +kernel
theorem d_B_pair_91 : decode m_B_pair.2.1 91 = .ok (.aastore, 1) := by decide +kernel
theorem d_B_pair_92 : decode m_B_pair.2.1 92 = .ok (.aload_n 0, 1) := by decide +kernel
theorem d_B_pair_93 : decode m_B_pair.2.1 93 = .ok (.dup, 1) := by decide +kernel
theorem d_B_pair_94 : decode m_B_pair.2.1 94 = .ok (.getfield 74, 3) := by decide +kernel
theorem d_B_pair_97 : decode m_B_pair.2.1 97 = .ok (.iconst 1, 1) := by decide +kernel
theorem d_B_pair_98 : decode m_B_pair.2.1 98 = .ok (.iadd, 1) := by decide +kernel
theorem d_B_pair_99 : decode m_B_pair.2.1 99 = .ok (.putfield 74, 3) := by decide +kernel
theorem d_B_pair_102 : decode m_B_pair.2.1 102 = .ok (.aload_n 0, 1) := by decide +kernel
theorem d_B_pair_103 : decode m_B_pair.2.1 103 = .ok (.getfield 11, 3) := by decide +kernel
theorem d_B_pair_106 : decode m_B_pair.2.1 106 = .ok (.iload_n 1, 1) := by decide +kernel
theorem d_B_pair_107 : decode m_B_pair.2.1 107 = .ok (.aaload, 1) := by decide +kernel
theorem d_B_pair_108 : decode m_B_pair.2.1 108 = .ok (.dup, 1) := by decide +kernel
theorem d_B_pair_109 : decode m_B_pair.2.1 109 = .ok (.getfield 93, 3) := by decide +kernel
theorem d_B_pair_112 : decode m_B_pair.2.1 112 = .ok (.iconst 1, 1) := by decide +kernel
theorem d_B_pair_113 : decode m_B_pair.2.1 113 = .ok (.iload_n 2, 1) := by decide +kernel
theorem d_B_pair_114 : decode m_B_pair.2.1 114 = .ok (.ishl, 1) := by decide +kernel
theorem d_B_pair_115 : decode m_B_pair.2.1 115 = .ok (.ior, 1) := by decide +kernel
theorem d_B_pair_116 : decode m_B_pair.2.1 116 = .ok (.putfield 93, 3) := by decide +kernel
theorem d_B_pair_119 : decode m_B_pair.2.1 119 = .ok (.aload_n 0, 1) := by decide +kernel
theorem d_B_pair_120 : decode m_B_pair.2.1 120 = .ok (.getfield 11, 3) := by decide +kernel
theorem d_B_pair_123 : decode m_B_pair.2.1 123 = .ok (.iload_n 2, 1) := by decide +kernel
theorem d_B_pair_124 : decode m_B_pair.2.1 124 = .ok (.aaload, 1) := by decide +kernel
theorem d_B_pair_125 : decode m_B_pair.2.1 125 = .ok (.dup, 1) := by decide +kernel
theorem d_B_pair_126 : decode m_B_pair.2.1 126 = .ok (.getfield 93, 3) := by decide +kernel
theorem d_B_pair_129 : decode m_B_pair.2.1 129 = .ok (.iconst 1, 1) := by decide +kernel
theorem d_B_pair_130 : decode m_B_pair.2.1 130 = .ok (.iload_n 1, 1) := by decide +kernel
theorem d_B_pair_131 : decode m_B_pair.2.1 131 = .ok (.ishl, 1) := by decide +kernel
theorem d_B_pair_132 : decode m_B_pair.2.1 132 = .ok (.ior, 1) := by decide +kernel
theorem d_B_pair_133 : decode m_B_pair.2.1 133 = .ok (.putfield 93, 3) := by decide +kernel
theorem d_B_pair_136 : decode m_B_pair.2.1 136 = .ok (.aload_n 0, 1) := by decide +kernel
theorem d_B_pair_137 : decode m_B_pair.2.1 137 = .ok (.getfield 74, 3) := by decide +kernel
theorem d_B_pair_140 : decode m_B_pair.2.1 140 = .ok (.ireturn, 1) := by decide +kernel
theorem d_B_pairOf_0 : decode m_B_pairOf.2.1 0 = .ok (.iconst 0, 1) := by decide +kernel
theorem d_B_pairOf_1 : decode m_B_pairOf.2.1 1 = .ok (.istore_n 3, 1) := by decide +kernel
theorem d_B_pairOf_2 : decode m_B_pairOf.2.1 2 = .ok (.iload_n 3, 1) := by decide +kernel
theorem d_B_pairOf_3 : decode m_B_pairOf.2.1 3 = .ok (.aload_n 0, 1) := by decide +kernel
theorem d_B_pairOf_4 : decode m_B_pairOf.2.1 4 = .ok (.getfield 74, 3) := by decide +kernel
theorem d_B_pairOf_7 : decode m_B_pairOf.2.1 7 = .ok (.if_icmp .ge 50, 3) := by decide +kernel
theorem d_B_pairOf_10 : decode m_B_pairOf.2.1 10 = .ok (.aload_n 0, 1) := by decide +kernel
theorem d_B_pairOf_11 : decode m_B_pairOf.2.1 11 = .ok (.getfield 17, 3) := by decide +kernel
theorem d_B_pairOf_14 : decode m_B_pairOf.2.1 14 = .ok (.iload_n 3, 1) := by decide +kernel
theorem d_B_pairOf_15 : decode m_B_pairOf.2.1 15 = .ok (.aaload, 1) := by decide +kernel
theorem d_B_pairOf_16 : decode m_B_pairOf.2.1 16 = .ok (.getfield 248, 3) := by decide +kernel
theorem d_B_pairOf_19 : decode m_B_pairOf.2.1 19 = .ok (.iload_n 1, 1) := by decide +kernel
theorem d_B_pairOf_20 : decode m_B_pairOf.2.1 20 = .ok (.iload_n 2, 1) := by decide +kernel
theorem d_B_pairOf_21 : decode m_B_pairOf.2.1 21 = .ok (.invokestatic 83, 3) := by decide +kernel
theorem d_B_pairOf_24 : decode m_B_pairOf.2.1 24 = .ok (.if_icmp .ne 27, 3) := by decide +kernel
theorem d_B_pairOf_27 : decode m_B_pairOf.2.1 27 = .ok (.aload_n 0, 1) := by decide +kernel
theorem d_B_pairOf_28 : decode m_B_pairOf.2.1 28 = .ok (.getfield 17, 3) := by decide +kernel
theorem d_B_pairOf_31 : decode m_B_pairOf.2.1 31 = .ok (.iload_n 3, 1) := by decide +kernel
theorem d_B_pairOf_32 : decode m_B_pairOf.2.1 32 = .ok (.aaload, 1) := by decide +kernel
theorem d_B_pairOf_33 : decode m_B_pairOf.2.1 33 = .ok (.getfield 251, 3) := by decide +kernel
theorem d_B_pairOf_36 : decode m_B_pairOf.2.1 36 = .ok (.iload_n 1, 1) := by decide +kernel
theorem d_B_pairOf_37 : decode m_B_pairOf.2.1 37 = .ok (.iload_n 2, 1) := by decide +kernel
theorem d_B_pairOf_38 : decode m_B_pairOf.2.1 38 = .ok (.invokestatic 89, 3) := by decide +kernel
theorem d_B_pairOf_41 : decode m_B_pairOf.2.1 41 = .ok (.if_icmp .ne 10, 3) := by decide +kernel
theorem d_B_pairOf_44 : decode m_B_pairOf.2.1 44 = .ok (.aload_n 0, 1) := by decide +kernel
theorem d_B_pairOf_45 : decode m_B_pairOf.2.1 45 = .ok (.getfield 17, 3) := by decide +kernel
theorem d_B_pairOf_48 : decode m_B_pairOf.2.1 48 = .ok (.iload_n 3, 1) := by decide +kernel
theorem d_B_pairOf_49 : decode m_B_pairOf.2.1 49 = .ok (.aaload, 1) := by decide +kernel
theorem d_B_pairOf_50 : decode m_B_pairOf.2.1 50 = .ok (.areturn, 1) := by decide +kernel
theorem d_B_pairOf_51 : decode m_B_pairOf.2.1 51 = .ok (.iinc 3 1, 3) := by decide +kernel
theorem d_B_pairOf_54 : decode m_B_pairOf.2.1 54 = .ok (.goto (-52), 3) := by decide +kernel
theorem d_B_pairOf_57 : decode m_B_pairOf.2.1 57 = .ok (.aconst_null, 1) := by decide +kernel
theorem d_B_pairOf_58 : decode m_B_pairOf.2.1 58 = .ok (.areturn, 1) := by decide +kernel
theorem d_J_min_0 : decode m_J_min.2.1 0 = .ok (.iload_n 0, 1) := by decide +kernel
theorem d_J_min_1 : decode m_J_min.2.1 1 = .ok (.iload_n 1, 1) := by decide +kernel
theorem d_J_min_2 : decode m_J_min.2.1 2 = .ok (.if_icmp .gt 7, 3) := by decide +kernel
theorem d_J_min_5 : decode m_J_min.2.1 5 = .ok (.iload_n 0, 1) := by decide +kernel
theorem d_J_min_6 : decode m_J_min.2.1 6 = .ok (.goto 4, 3) := by decide +kernel
theorem d_J_min_9 : decode m_J_min.2.1 9 = .ok (.iload_n 1, 1) := by decide +kernel
theorem d_J_min_10 : decode m_J_min.2.1 10 = .ok (.ireturn, 1) := by decide +kernel
theorem d_J_max_0 : decode m_J_max.2.1 0 = .ok (.iload_n 0, 1) := by decide +kernel
theorem d_J_max_1 : decode m_J_max.2.1 1 = .ok (.iload_n 1, 1) := by decide +kernel
theorem d_J_max_2 : decode m_J_max.2.1 2 = .ok (.if_icmp .lt 7, 3) := by decide +kernel
theorem d_J_max_5 : decode m_J_max.2.1 5 = .ok (.iload_n 0, 1) := by decide +kernel
theorem d_J_max_6 : decode m_J_max.2.1 6 = .ok (.goto 4, 3) := by decide +kernel
theorem d_J_max_9 : decode m_J_max.2.1 9 = .ok (.iload_n 1, 1) := by decide +kernel
theorem d_J_max_10 : decode m_J_max.2.1 10 = .ok (.ireturn, 1) := by decide +kernel
theorem d_Q_init_0 : decode m_Q_init.2.1 0 = .ok (.aload_n 0, 1) := by decide +kernel
theorem d_Q_init_1 : decode m_Q_init.2.1 1 = .ok (.invokespecial 3, 3) := by decide +kernel
theorem d_Q_init_4 : decode m_Q_init.2.1 4 = .ok (.aload_n 0, 1) := by decide +kernel
theorem d_Q_init_5 : decode m_Q_init.2.1 5 = .ok (.bipush 16, 2) := by decide +kernel
theorem d_Q_init_7 : decode m_Q_init.2.1 7 = .ok (.newarray .int, 2) := by decide +kernel
theorem d_Q_init_9 : decode m_Q_init.2.1 9 = .ok (.putfield 9, 3) := by decide +kernel
theorem d_Q_init_12 : decode m_Q_init.2.1 12 = .ok (.aload_n 0, 1) := by decide +kernel
theorem d_Q_init_13 : decode m_Q_init.2.1 13 = .ok (.iload_n 1, 1) := by decide +kernel
theorem d_Q_init_14 : decode m_Q_init.2.1 14 = .ok (.putfield 15, 3) := by decide +kernel
theorem d_Q_init_17 : decode m_Q_init.2.1 17 = .ok (.aload_n 0, 1) := by decide +kernel
theorem d_Q_init_18 : decode m_Q_init.2.1 18 = .ok (.iload_n 2, 1) := by decide +kernel
theorem d_Q_init_19 : decode m_Q_init.2.1 19 = .ok (.putfield 19, 3) := by decide +kernel
theorem d_Q_init_22 : decode m_Q_init.2.1 22 = .ok (.return_, 1) := by decide +kernel
theorem d_B_cost_0 : decode m_B_cost.2.1 0 = .ok (.aload_n 0, 1) := by decide +kernel
theorem d_B_cost_1 : decode m_B_cost.2.1 1 = .ok (.iload_n 1, 1) := by decide +kernel
theorem d_B_cost_2 : decode m_B_cost.2.1 2 = .ok (.iload_n 2, 1) := by decide +kernel
theorem d_B_cost_3 : decode m_B_cost.2.1 3 = .ok (.iload_n 3, 1) := by decide +kernel
theorem d_B_cost_4 : decode m_B_cost.2.1 4 = .ok (.iload 4, 2) := by decide +kernel
theorem d_B_cost_6 : decode m_B_cost.2.1 6 = .ok (.invokevirtual 96, 3) := by decide +kernel
theorem d_B_cost_9 : decode m_B_cost.2.1 9 = .ok (.astore 6, 2) := by decide +kernel
theorem d_B_cost_11 : decode m_B_cost.2.1 11 = .ok (.aload 6, 2) := by decide +kernel
theorem d_B_cost_13 : decode m_B_cost.2.1 13 = .ok (.ifnull 11, 3) := by decide +kernel
theorem d_B_cost_16 : decode m_B_cost.2.1 16 = .ok (.iload 5, 2) := by decide +kernel
theorem d_B_cost_18 : decode m_B_cost.2.1 18 = .ok (.invokestatic 58, 3) := by decide +kernel
theorem d_B_cost_21 : decode m_B_cost.2.1 21 = .ok (.ifCond .ne 13, 3) := by decide +kernel
theorem d_B_cost_24 : decode m_B_cost.2.1 24 = .ok (.new 35, 3) := by decide +kernel
theorem d_B_cost_27 : decode m_B_cost.2.1 27 = .ok (.dup, 1) := by decide +kernel
theorem d_B_cost_28 : decode m_B_cost.2.1 28 = .ok (.ldc 100, 2) := by decide +kernel
theorem d_B_cost_30 : decode m_B_cost.2.1 30 = .ok (.invokespecial 39, 3) := by decide +kernel
theorem d_B_cost_33 : decode m_B_cost.2.1 33 = .ok (.athrow, 1) := by decide +kernel
theorem d_B_cost_34 : decode m_B_cost.2.1 34 = .ok (.aload_n 0, 1) := by decide +kernel
theorem d_B_cost_35 : decode m_B_cost.2.1 35 = .ok (.getfield 31, 3) := by decide +kernel
theorem d_B_cost_38 : decode m_B_cost.2.1 38 = .ok (.ifCond .ne 13, 3) := by decide +kernel
theorem d_B_cost_41 : decode m_B_cost.2.1 41 = .ok (.new 46, 3) := by decide +kernel
theorem d_B_cost_44 : decode m_B_cost.2.1 44 = .ok (.dup, 1) := by decide +kernel
theorem d_B_cost_45 : decode m_B_cost.2.1 45 = .ok (.ldc 64, 2) := by decide +kernel
theorem d_B_cost_47 : decode m_B_cost.2.1 47 = .ok (.invokespecial 50, 3) := by decide +kernel
theorem d_B_cost_50 : decode m_B_cost.2.1 50 = .ok (.athrow, 1) := by decide +kernel
theorem d_B_cost_51 : decode m_B_cost.2.1 51 = .ok (.aload 6, 2) := by decide +kernel
theorem d_B_cost_53 : decode m_B_cost.2.1 53 = .ok (.getfield 102, 3) := by decide +kernel
theorem d_B_cost_56 : decode m_B_cost.2.1 56 = .ok (.aload 6, 2) := by decide +kernel
theorem d_B_cost_58 : decode m_B_cost.2.1 58 = .ok (.iload_n 1, 1) := by decide +kernel
theorem d_B_cost_59 : decode m_B_cost.2.1 59 = .ok (.iload_n 3, 1) := by decide +kernel
theorem d_B_cost_60 : decode m_B_cost.2.1 60 = .ok (.iload 4, 2) := by decide +kernel
theorem d_B_cost_62 : decode m_B_cost.2.1 62 = .ok (.invokevirtual 105, 3) := by decide +kernel
theorem d_B_cost_65 : decode m_B_cost.2.1 65 = .ok (.iload 5, 2) := by decide +kernel
theorem d_B_cost_67 : decode m_B_cost.2.1 67 = .ok (.iastore, 1) := by decide +kernel
theorem d_B_cost_68 : decode m_B_cost.2.1 68 = .ok (.return_, 1) := by decide +kernel
theorem d_B_pairWith_0 : decode m_B_pairWith.2.1 0 = .ok (.aload_n 0, 1) := by decide +kernel
theorem d_B_pairWith_1 : decode m_B_pairWith.2.1 1 = .ok (.iload_n 1, 1) := by decide +kernel
theorem d_B_pairWith_2 : decode m_B_pairWith.2.1 2 = .ok (.iload_n 3, 1) := by decide +kernel
theorem d_B_pairWith_3 : decode m_B_pairWith.2.1 3 = .ok (.invokevirtual 54, 3) := by decide +kernel
theorem d_B_pairWith_6 : decode m_B_pairWith.2.1 6 = .ok (.ifCond .eq 22, 3) := by decide +kernel
theorem d_B_pairWith_9 : decode m_B_pairWith.2.1 9 = .ok (.aload_n 0, 1) := by decide +kernel
theorem d_B_pairWith_10 : decode m_B_pairWith.2.1 10 = .ok (.iload_n 2, 1) := by decide +kernel
theorem d_B_pairWith_11 : decode m_B_pairWith.2.1 11 = .ok (.iload 4, 2) := by decide +kernel
theorem d_B_pairWith_13 : decode m_B_pairWith.2.1 13 = .ok (.invokevirtual 54, 3) := by decide +kernel
theorem d_B_pairWith_16 : decode m_B_pairWith.2.1 16 = .ok (.ifCond .eq 12, 3) := by decide +kernel
theorem d_B_pairWith_19 : decode m_B_pairWith.2.1 19 = .ok (.aload_n 0, 1) := by decide +kernel
theorem d_B_pairWith_20 : decode m_B_pairWith.2.1 20 = .ok (.iload_n 1, 1) := by decide +kernel
theorem d_B_pairWith_21 : decode m_B_pairWith.2.1 21 = .ok (.iload_n 2, 1) := by decide +kernel
theorem d_B_pairWith_22 : decode m_B_pairWith.2.1 22 = .ok (.invokevirtual 77, 3) := by decide +kernel
theorem d_B_pairWith_25 : decode m_B_pairWith.2.1 25 = .ok (.goto 4, 3) := by decide +kernel
theorem d_B_pairWith_28 : decode m_B_pairWith.2.1 28 = .ok (.aconst_null, 1) := by decide +kernel
theorem d_B_pairWith_29 : decode m_B_pairWith.2.1 29 = .ok (.areturn, 1) := by decide +kernel
theorem d_Q_place_0 : decode m_Q_place.2.1 0 = .ok (.iload_n 1, 1) := by decide +kernel
theorem d_Q_place_1 : decode m_Q_place.2.1 1 = .ok (.aload_n 0, 1) := by decide +kernel
theorem d_Q_place_2 : decode m_Q_place.2.1 2 = .ok (.getfield 15, 3) := by decide +kernel
theorem d_Q_place_5 : decode m_Q_place.2.1 5 = .ok (.if_icmp .ne 11, 3) := by decide +kernel
theorem d_Q_place_8 : decode m_Q_place.2.1 8 = .ok (.iload_n 2, 1) := by decide +kernel
theorem d_Q_place_9 : decode m_Q_place.2.1 9 = .ok (.iconst 4, 1) := by decide +kernel
theorem d_Q_place_10 : decode m_Q_place.2.1 10 = .ok (.imul, 1) := by decide +kernel
theorem d_Q_place_11 : decode m_Q_place.2.1 11 = .ok (.iload_n 3, 1) := by decide +kernel
theorem d_Q_place_12 : decode m_Q_place.2.1 12 = .ok (.iadd, 1) := by decide +kernel
theorem d_Q_place_13 : decode m_Q_place.2.1 13 = .ok (.goto 8, 3) := by decide +kernel
theorem d_Q_place_16 : decode m_Q_place.2.1 16 = .ok (.iload_n 3, 1) := by decide +kernel
theorem d_Q_place_17 : decode m_Q_place.2.1 17 = .ok (.iconst 4, 1) := by decide +kernel
theorem d_Q_place_18 : decode m_Q_place.2.1 18 = .ok (.imul, 1) := by decide +kernel
theorem d_Q_place_19 : decode m_Q_place.2.1 19 = .ok (.iload_n 2, 1) := by decide +kernel
theorem d_Q_place_20 : decode m_Q_place.2.1 20 = .ok (.iadd, 1) := by decide +kernel
theorem d_Q_place_21 : decode m_Q_place.2.1 21 = .ok (.ireturn, 1) := by decide +kernel
theorem d_B_start_0 : decode m_B_start.2.1 0 = .ok (.aload_n 0, 1) := by decide +kernel
theorem d_B_start_1 : decode m_B_start.2.1 1 = .ok (.getfield 31, 3) := by decide +kernel
theorem d_B_start_4 : decode m_B_start.2.1 4 = .ok (.ifCond .eq 10, 3) := by decide +kernel
theorem d_B_start_7 : decode m_B_start.2.1 7 = .ok (.aload_n 0, 1) := by decide +kernel
theorem d_B_start_8 : decode m_B_start.2.1 8 = .ok (.getfield 42, 3) := by decide +kernel
theorem d_B_start_11 : decode m_B_start.2.1 11 = .ok (.ifCond .ne 13, 3) := by decide +kernel
theorem d_B_start_14 : decode m_B_start.2.1 14 = .ok (.new 46, 3) := by decide +kernel
theorem d_B_start_17 : decode m_B_start.2.1 17 = .ok (.dup, 1) := by decide +kernel
theorem d_B_start_18 : decode m_B_start.2.1 18 = .ok (.ldc 109, 2) := by decide +kernel
theorem d_B_start_20 : decode m_B_start.2.1 20 = .ok (.invokespecial 50, 3) := by decide +kernel
theorem d_B_start_23 : decode m_B_start.2.1 23 = .ok (.athrow, 1) := by decide +kernel
theorem d_B_start_24 : decode m_B_start.2.1 24 = .ok (.aload_n 0, 1) := by decide +kernel
theorem d_B_start_25 : decode m_B_start.2.1 25 = .ok (.iconst 0, 1) := by decide +kernel
theorem d_B_start_26 : decode m_B_start.2.1 26 = .ok (.putfield 31, 3) := by decide +kernel
theorem d_B_start_29 : decode m_B_start.2.1 29 = .ok (.aload_n 0, 1) := by decide +kernel
theorem d_B_start_30 : decode m_B_start.2.1 30 = .ok (.invokevirtual 111, 3) := by decide +kernel
theorem d_B_start_33 : decode m_B_start.2.1 33 = .ok (.iconst 0, 1) := by decide +kernel
theorem d_B_start_34 : decode m_B_start.2.1 34 = .ok (.istore_n 1, 1) := by decide +kernel
theorem d_B_start_35 : decode m_B_start.2.1 35 = .ok (.iconst 0, 1) := by decide +kernel
theorem d_B_start_36 : decode m_B_start.2.1 36 = .ok (.istore_n 2, 1) := by decide +kernel
theorem d_B_start_37 : decode m_B_start.2.1 37 = .ok (.iload_n 2, 1) := by decide +kernel
theorem d_B_start_38 : decode m_B_start.2.1 38 = .ok (.aload_n 0, 1) := by decide +kernel
theorem d_B_start_39 : decode m_B_start.2.1 39 = .ok (.getfield 42, 3) := by decide +kernel
theorem d_B_start_42 : decode m_B_start.2.1 42 = .ok (.if_icmp .ge 60, 3) := by decide +kernel
theorem d_B_start_45 : decode m_B_start.2.1 45 = .ok (.aload_n 0, 1) := by decide +kernel
theorem d_B_start_46 : decode m_B_start.2.1 46 = .ok (.getfield 11, 3) := by decide +kernel
theorem d_B_start_49 : decode m_B_start.2.1 49 = .ok (.iload_n 2, 1) := by decide +kernel
theorem d_B_start_50 : decode m_B_start.2.1 50 = .ok (.aaload, 1) := by decide +kernel
theorem d_B_start_51 : decode m_B_start.2.1 51 = .ok (.invokevirtual 114, 3) := by decide +kernel
theorem d_B_start_54 : decode m_B_start.2.1 54 = .ok (.ifCond .eq 42, 3) := by decide +kernel
theorem d_B_start_57 : decode m_B_start.2.1 57 = .ok (.iinc 1 1, 3) := by decide +kernel
theorem d_B_start_60 : decode m_B_start.2.1 60 = .ok (.aload_n 0, 1) := by decide +kernel
theorem d_B_start_61 : decode m_B_start.2.1 61 = .ok (.getfield 11, 3) := by decide +kernel
theorem d_B_start_64 : decode m_B_start.2.1 64 = .ok (.iload_n 2, 1) := by decide +kernel
theorem d_B_start_65 : decode m_B_start.2.1 65 = .ok (.aaload, 1) := by decide +kernel
theorem d_B_start_66 : decode m_B_start.2.1 66 = .ok (.iconst 1, 1) := by decide +kernel
theorem d_B_start_67 : decode m_B_start.2.1 67 = .ok (.iload_n 2, 1) := by decide +kernel
theorem d_B_start_68 : decode m_B_start.2.1 68 = .ok (.ishl, 1) := by decide +kernel
theorem d_B_start_69 : decode m_B_start.2.1 69 = .ok (.putfield 118, 3) := by decide +kernel
theorem d_B_start_72 : decode m_B_start.2.1 72 = .ok (.aload_n 0, 1) := by decide +kernel
theorem d_B_start_73 : decode m_B_start.2.1 73 = .ok (.aload_n 0, 1) := by decide +kernel
theorem d_B_start_74 : decode m_B_start.2.1 74 = .ok (.getfield 11, 3) := by decide +kernel
theorem d_B_start_77 : decode m_B_start.2.1 77 = .ok (.iload_n 2, 1) := by decide +kernel
theorem d_B_start_78 : decode m_B_start.2.1 78 = .ok (.aaload, 1) := by decide +kernel
theorem d_B_start_79 : decode m_B_start.2.1 79 = .ok (.invokevirtual 121, 3) := by decide +kernel
theorem d_B_start_82 : decode m_B_start.2.1 82 = .ok (.ifCond .eq 14, 3) := by decide +kernel
theorem d_B_start_85 : decode m_B_start.2.1 85 = .ok (.aload_n 0, 1) := by decide +kernel
theorem d_B_start_86 : decode m_B_start.2.1 86 = .ok (.aload_n 0, 1) := by decide +kernel
theorem d_B_start_87 : decode m_B_start.2.1 87 = .ok (.getfield 11, 3) := by decide +kernel
theorem d_B_start_90 : decode m_B_start.2.1 90 = .ok (.iload_n 2, 1) := by decide +kernel
theorem d_B_start_91 : decode m_B_start.2.1 91 = .ok (.aaload, 1) := by decide +kernel
theorem d_B_start_92 : decode m_B_start.2.1 92 = .ok (.iconst 1, 1) := by decide +kernel
theorem d_B_start_93 : decode m_B_start.2.1 93 = .ok (.invokevirtual 125, 3) := by decide +kernel
theorem d_B_start_96 : decode m_B_start.2.1 96 = .ok (.iinc 2 1, 3) := by decide +kernel
theorem d_B_start_99 : decode m_B_start.2.1 99 = .ok (.goto (-62), 3) := by decide +kernel
theorem d_B_start_102 : decode m_B_start.2.1 102 = .ok (.iload_n 1, 1) := by decide +kernel
theorem d_B_start_103 : decode m_B_start.2.1 103 = .ok (.ireturn, 1) := by decide +kernel
theorem d_B_findParts_0 : decode m_B_findParts.2.1 0 = .ok (.iconst 0, 1) := by decide +kernel
theorem d_B_findParts_1 : decode m_B_findParts.2.1 1 = .ok (.istore_n 1, 1) := by decide +kernel
theorem d_B_findParts_2 : decode m_B_findParts.2.1 2 = .ok (.iload_n 1, 1) := by decide +kernel
theorem d_B_findParts_3 : decode m_B_findParts.2.1 3 = .ok (.aload_n 0, 1) := by decide +kernel
theorem d_B_findParts_4 : decode m_B_findParts.2.1 4 = .ok (.getfield 42, 3) := by decide +kernel
theorem d_B_findParts_7 : decode m_B_findParts.2.1 7 = .ok (.if_icmp .ge 49, 3) := by decide +kernel
theorem d_B_findParts_10 : decode m_B_findParts.2.1 10 = .ok (.aload_n 0, 1) := by decide +kernel
theorem d_B_findParts_11 : decode m_B_findParts.2.1 11 = .ok (.getfield 11, 3) := by decide +kernel
theorem d_B_findParts_14 : decode m_B_findParts.2.1 14 = .ok (.iload_n 1, 1) := by decide +kernel
theorem d_B_findParts_15 : decode m_B_findParts.2.1 15 = .ok (.aaload, 1) := by decide +kernel
theorem d_B_findParts_16 : decode m_B_findParts.2.1 16 = .ok (.getfield 212, 3) := by decide +kernel
theorem d_B_findParts_19 : decode m_B_findParts.2.1 19 = .ok (.ifnonnull 31, 3) := by decide +kernel
theorem d_B_findParts_22 : decode m_B_findParts.2.1 22 = .ok (.aload_n 0, 1) := by decide +kernel
theorem d_B_findParts_23 : decode m_B_findParts.2.1 23 = .ok (.iload_n 1, 1) := by decide +kernel
theorem d_B_findParts_24 : decode m_B_findParts.2.1 24 = .ok (.invokevirtual 254, 3) := by decide +kernel
theorem d_B_findParts_27 : decode m_B_findParts.2.1 27 = .ok (.istore_n 2, 1) := by decide +kernel
theorem d_B_findParts_28 : decode m_B_findParts.2.1 28 = .ok (.aload_n 0, 1) := by decide +kernel
theorem d_B_findParts_29 : decode m_B_findParts.2.1 29 = .ok (.iload_n 2, 1) := by decide +kernel
theorem d_B_findParts_30 : decode m_B_findParts.2.1 30 = .ok (.new 217, 3) := by decide +kernel
theorem d_B_findParts_33 : decode m_B_findParts.2.1 33 = .ok (.dup, 1) := by decide +kernel
theorem d_B_findParts_34 : decode m_B_findParts.2.1 34 = .ok (.aload_n 0, 1) := by decide +kernel
theorem d_B_findParts_35 : decode m_B_findParts.2.1 35 = .ok (.getfield 11, 3) := by decide +kernel
theorem d_B_findParts_38 : decode m_B_findParts.2.1 38 = .ok (.aload_n 0, 1) := by decide +kernel
theorem d_B_findParts_39 : decode m_B_findParts.2.1 39 = .ok (.iload_n 2, 1) := by decide +kernel
theorem d_B_findParts_40 : decode m_B_findParts.2.1 40 = .ok (.invokevirtual 257, 3) := by decide +kernel
theorem d_B_findParts_43 : decode m_B_findParts.2.1 43 = .ok (.aaload, 1) := by decide +kernel
theorem d_B_findParts_44 : decode m_B_findParts.2.1 44 = .ok (.invokespecial 260, 3) := by decide +kernel
theorem d_B_findParts_47 : decode m_B_findParts.2.1 47 = .ok (.invokevirtual 262, 3) := by decide +kernel
theorem d_B_findParts_50 : decode m_B_findParts.2.1 50 = .ok (.iinc 1 1, 3) := by decide +kernel
theorem d_B_findParts_53 : decode m_B_findParts.2.1 53 = .ok (.goto (-51), 3) := by decide +kernel
theorem d_B_findParts_56 : decode m_B_findParts.2.1 56 = .ok (.return_, 1) := by decide +kernel
theorem d_B_partOf_0 : decode m_B_partOf.2.1 0 = .ok (.iconst 1, 1) := by decide +kernel
theorem d_B_partOf_1 : decode m_B_partOf.2.1 1 = .ok (.iload_n 1, 1) := by decide +kernel
theorem d_B_partOf_2 : decode m_B_partOf.2.1 2 = .ok (.ishl, 1) := by decide +kernel
theorem d_B_partOf_3 : decode m_B_partOf.2.1 3 = .ok (.istore_n 2, 1) := by decide +kernel
theorem d_B_partOf_4 : decode m_B_partOf.2.1 4 = .ok (.iconst 0, 1) := by decide +kernel
theorem d_B_partOf_5 : decode m_B_partOf.2.1 5 = .ok (.istore_n 3, 1) := by decide +kernel
theorem d_B_partOf_6 : decode m_B_partOf.2.1 6 = .ok (.iload_n 3, 1) := by decide +kernel
theorem d_B_partOf_7 : decode m_B_partOf.2.1 7 = .ok (.aload_n 0, 1) := by decide +kernel
theorem d_B_partOf_8 : decode m_B_partOf.2.1 8 = .ok (.getfield 42, 3) := by decide +kernel
theorem d_B_partOf_11 : decode m_B_partOf.2.1 11 = .ok (.if_icmp .ge 49, 3) := by decide +kernel
theorem d_B_partOf_14 : decode m_B_partOf.2.1 14 = .ok (.iconst 0, 1) := by decide +kernel
theorem d_B_partOf_15 : decode m_B_partOf.2.1 15 = .ok (.istore 4, 2) := by decide +kernel
theorem d_B_partOf_17 : decode m_B_partOf.2.1 17 = .ok (.iload 4, 2) := by decide +kernel
theorem d_B_partOf_19 : decode m_B_partOf.2.1 19 = .ok (.aload_n 0, 1) := by decide +kernel
theorem d_B_partOf_20 : decode m_B_partOf.2.1 20 = .ok (.getfield 42, 3) := by decide +kernel
theorem d_B_partOf_23 : decode m_B_partOf.2.1 23 = .ok (.if_icmp .ge 31, 3) := by decide +kernel
theorem d_B_partOf_26 : decode m_B_partOf.2.1 26 = .ok (.iload_n 2, 1) := by decide +kernel
theorem d_B_partOf_27 : decode m_B_partOf.2.1 27 = .ok (.iload 4, 2) := by decide +kernel
theorem d_B_partOf_29 : decode m_B_partOf.2.1 29 = .ok (.invokestatic 227, 3) := by decide +kernel
theorem d_B_partOf_32 : decode m_B_partOf.2.1 32 = .ok (.ifCond .eq 16, 3) := by decide +kernel
theorem d_B_partOf_35 : decode m_B_partOf.2.1 35 = .ok (.iload_n 2, 1) := by decide +kernel
theorem d_B_partOf_36 : decode m_B_partOf.2.1 36 = .ok (.aload_n 0, 1) := by decide +kernel
theorem d_B_partOf_37 : decode m_B_partOf.2.1 37 = .ok (.getfield 11, 3) := by decide +kernel
theorem d_B_partOf_40 : decode m_B_partOf.2.1 40 = .ok (.iload 4, 2) := by decide +kernel
theorem d_B_partOf_42 : decode m_B_partOf.2.1 42 = .ok (.aaload, 1) := by decide +kernel
theorem d_B_partOf_43 : decode m_B_partOf.2.1 43 = .ok (.getfield 93, 3) := by decide +kernel
theorem d_B_partOf_46 : decode m_B_partOf.2.1 46 = .ok (.ior, 1) := by decide +kernel
theorem d_B_partOf_47 : decode m_B_partOf.2.1 47 = .ok (.istore_n 2, 1) := by decide +kernel
theorem d_B_partOf_48 : decode m_B_partOf.2.1 48 = .ok (.iinc 4 1, 3) := by decide +kernel
theorem d_B_partOf_51 : decode m_B_partOf.2.1 51 = .ok (.goto (-34), 3) := by decide +kernel
theorem d_B_partOf_54 : decode m_B_partOf.2.1 54 = .ok (.iinc 3 1, 3) := by decide +kernel
theorem d_B_partOf_57 : decode m_B_partOf.2.1 57 = .ok (.goto (-51), 3) := by decide +kernel
theorem d_B_partOf_60 : decode m_B_partOf.2.1 60 = .ok (.iload_n 2, 1) := by decide +kernel
theorem d_B_partOf_61 : decode m_B_partOf.2.1 61 = .ok (.ireturn, 1) := by decide +kernel
theorem d_B_contains_0 : decode m_B_contains.2.1 0 = .ok (.iload_n 0, 1) := by decide +kernel
theorem d_B_contains_1 : decode m_B_contains.2.1 1 = .ok (.iload_n 1, 1) := by decide +kernel
theorem d_B_contains_2 : decode m_B_contains.2.1 2 = .ok (.ishr, 1) := by decide +kernel
theorem d_B_contains_3 : decode m_B_contains.2.1 3 = .ok (.iconst 1, 1) := by decide +kernel
theorem d_B_contains_4 : decode m_B_contains.2.1 4 = .ok (.iand, 1) := by decide +kernel
theorem d_B_contains_5 : decode m_B_contains.2.1 5 = .ok (.iconst 1, 1) := by decide +kernel
theorem d_B_contains_6 : decode m_B_contains.2.1 6 = .ok (.if_icmp .ne 7, 3) := by decide +kernel
theorem d_B_contains_9 : decode m_B_contains.2.1 9 = .ok (.iconst 1, 1) := by decide +kernel
theorem d_B_contains_10 : decode m_B_contains.2.1 10 = .ok (.goto 4, 3) := by decide +kernel
theorem d_B_contains_13 : decode m_B_contains.2.1 13 = .ok (.iconst 0, 1) := by decide +kernel
theorem d_B_contains_14 : decode m_B_contains.2.1 14 = .ok (.ireturn, 1) := by decide +kernel

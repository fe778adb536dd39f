/-! DECODED: written by wip/whole/gen/dec.py -/
theorem d_B_leastCost_0 : decode m_B_leastCost.2.1 0 = .ok (.bipush (-2), 2) := by decide +kernel
theorem d_B_leastCost_2 : decode m_B_leastCost.2.1 2 = .ok (.istore_n 2, 1) := by decide +kernel
theorem d_B_leastCost_3 : decode m_B_leastCost.2.1 3 = .ok (.iconst 0, 1) := by decide +kernel
theorem d_B_leastCost_4 : decode m_B_leastCost.2.1 4 = .ok (.istore_n 3, 1) := by decide +kernel
theorem d_B_leastCost_5 : decode m_B_leastCost.2.1 5 = .ok (.iload_n 3, 1) := by decide +kernel
theorem d_B_leastCost_6 : decode m_B_leastCost.2.1 6 = .ok (.aload_n 1, 1) := by decide +kernel
theorem d_B_leastCost_7 : decode m_B_leastCost.2.1 7 = .ok (.getfield 245, 3) := by decide +kernel
theorem d_B_leastCost_10 : decode m_B_leastCost.2.1 10 = .ok (.if_icmp .ge 33, 3) := by decide +kernel
theorem d_B_leastCost_13 : decode m_B_leastCost.2.1 13 = .ok (.aload_n 0, 1) := by decide +kernel
theorem d_B_leastCost_14 : decode m_B_leastCost.2.1 14 = .ok (.getfield 27, 3) := by decide +kernel
theorem d_B_leastCost_17 : decode m_B_leastCost.2.1 17 = .ok (.aload_n 1, 1) := by decide +kernel
theorem d_B_leastCost_18 : decode m_B_leastCost.2.1 18 = .ok (.getfield 294, 3) := by decide +kernel
theorem d_B_leastCost_21 : decode m_B_leastCost.2.1 21 = .ok (.iload_n 3, 1) := by decide +kernel
theorem d_B_leastCost_22 : decode m_B_leastCost.2.1 22 = .ok (.iastore, 1) := by decide +kernel
theorem d_B_leastCost_23 : decode m_B_leastCost.2.1 23 = .ok (.iload_n 2, 1) := by decide +kernel
theorem d_B_leastCost_24 : decode m_B_leastCost.2.1 24 = .ok (.aload_n 0, 1) := by decide +kernel
theorem d_B_leastCost_25 : decode m_B_leastCost.2.1 25 = .ok (.aload_n 1, 1) := by decide +kernel
theorem d_B_leastCost_26 : decode m_B_leastCost.2.1 26 = .ok (.aload_n 0, 1) := by decide +kernel
theorem d_B_leastCost_27 : decode m_B_leastCost.2.1 27 = .ok (.getfield 27, 3) := by decide +kernel
theorem d_B_leastCost_30 : decode m_B_leastCost.2.1 30 = .ok (.invokevirtual 334, 3) := by decide +kernel
theorem d_B_leastCost_33 : decode m_B_leastCost.2.1 33 = .ok (.invokestatic 338, 3) := by decide +kernel
theorem d_B_leastCost_36 : decode m_B_leastCost.2.1 36 = .ok (.istore_n 2, 1) := by decide +kernel
theorem d_B_leastCost_37 : decode m_B_leastCost.2.1 37 = .ok (.iinc 3 1, 3) := by decide +kernel
theorem d_B_leastCost_40 : decode m_B_leastCost.2.1 40 = .ok (.goto (-35), 3) := by decide +kernel
theorem d_B_leastCost_43 : decode m_B_leastCost.2.1 43 = .ok (.iload_n 2, 1) := by decide +kernel
theorem d_B_leastCost_44 : decode m_B_leastCost.2.1 44 = .ok (.ireturn, 1) := by decide +kernel
theorem d_B_costWith_0 : decode m_B_costWith.2.1 0 = .ok (.aload_n 1, 1) := by decide +kernel
theorem d_B_costWith_1 : decode m_B_costWith.2.1 1 = .ok (.getfield 66, 3) := by decide +kernel
theorem d_B_costWith_4 : decode m_B_costWith.2.1 4 = .ok (.aload_n 2, 1) := by decide +kernel
theorem d_B_costWith_5 : decode m_B_costWith.2.1 5 = .ok (.aload_n 1, 1) := by decide +kernel
theorem d_B_costWith_6 : decode m_B_costWith.2.1 6 = .ok (.getfield 294, 3) := by decide +kernel
theorem d_B_costWith_9 : decode m_B_costWith.2.1 9 = .ok (.iaload, 1) := by decide +kernel
theorem d_B_costWith_10 : decode m_B_costWith.2.1 10 = .ok (.iaload, 1) := by decide +kernel
theorem d_B_costWith_11 : decode m_B_costWith.2.1 11 = .ok (.istore_n 3, 1) := by decide +kernel
theorem d_B_costWith_12 : decode m_B_costWith.2.1 12 = .ok (.iconst 0, 1) := by decide +kernel
theorem d_B_costWith_13 : decode m_B_costWith.2.1 13 = .ok (.istore 4, 2) := by decide +kernel
theorem d_B_costWith_15 : decode m_B_costWith.2.1 15 = .ok (.iload 4, 2) := by decide +kernel
theorem d_B_costWith_17 : decode m_B_costWith.2.1 17 = .ok (.aload_n 0, 1) := by decide +kernel
theorem d_B_costWith_18 : decode m_B_costWith.2.1 18 = .ok (.getfield 74, 3) := by decide +kernel
theorem d_B_costWith_21 : decode m_B_costWith.2.1 21 = .ok (.if_icmp .ge 62, 3) := by decide +kernel
theorem d_B_costWith_24 : decode m_B_costWith.2.1 24 = .ok (.aload_n 0, 1) := by decide +kernel
theorem d_B_costWith_25 : decode m_B_costWith.2.1 25 = .ok (.getfield 17, 3) := by decide +kernel
theorem d_B_costWith_28 : decode m_B_costWith.2.1 28 = .ok (.iload 4, 2) := by decide +kernel
theorem d_B_costWith_30 : decode m_B_costWith.2.1 30 = .ok (.aaload, 1) := by decide +kernel
theorem d_B_costWith_31 : decode m_B_costWith.2.1 31 = .ok (.astore 5, 2) := by decide +kernel
theorem d_B_costWith_33 : decode m_B_costWith.2.1 33 = .ok (.aload 5, 2) := by decide +kernel
theorem d_B_costWith_35 : decode m_B_costWith.2.1 35 = .ok (.aload_n 1, 1) := by decide +kernel
theorem d_B_costWith_36 : decode m_B_costWith.2.1 36 = .ok (.invokevirtual 341, 3) := by decide +kernel
theorem d_B_costWith_39 : decode m_B_costWith.2.1 39 = .ok (.ifCond .eq 38, 3) := by decide +kernel
theorem d_B_costWith_42 : decode m_B_costWith.2.1 42 = .ok (.iload_n 3, 1) := by decide +kernel
theorem d_B_costWith_43 : decode m_B_costWith.2.1 43 = .ok (.aload 5, 2) := by decide +kernel
theorem d_B_costWith_45 : decode m_B_costWith.2.1 45 = .ok (.getfield 102, 3) := by decide +kernel
theorem d_B_costWith_48 : decode m_B_costWith.2.1 48 = .ok (.aload 5, 2) := by decide +kernel
theorem d_B_costWith_50 : decode m_B_costWith.2.1 50 = .ok (.aload 5, 2) := by decide +kernel
theorem d_B_costWith_52 : decode m_B_costWith.2.1 52 = .ok (.getfield 248, 3) := by decide +kernel
theorem d_B_costWith_55 : decode m_B_costWith.2.1 55 = .ok (.aload_n 2, 1) := by decide +kernel
theorem d_B_costWith_56 : decode m_B_costWith.2.1 56 = .ok (.aload 5, 2) := by decide +kernel
theorem d_B_costWith_58 : decode m_B_costWith.2.1 58 = .ok (.getfield 248, 3) := by decide +kernel
theorem d_B_costWith_61 : decode m_B_costWith.2.1 61 = .ok (.iaload, 1) := by decide +kernel
theorem d_B_costWith_62 : decode m_B_costWith.2.1 62 = .ok (.aload_n 2, 1) := by decide +kernel
theorem d_B_costWith_63 : decode m_B_costWith.2.1 63 = .ok (.aload 5, 2) := by decide +kernel
theorem d_B_costWith_65 : decode m_B_costWith.2.1 65 = .ok (.getfield 251, 3) := by decide +kernel
theorem d_B_costWith_68 : decode m_B_costWith.2.1 68 = .ok (.iaload, 1) := by decide +kernel
theorem d_B_costWith_69 : decode m_B_costWith.2.1 69 = .ok (.invokevirtual 105, 3) := by decide +kernel
theorem d_B_costWith_72 : decode m_B_costWith.2.1 72 = .ok (.iaload, 1) := by decide +kernel
theorem d_B_costWith_73 : decode m_B_costWith.2.1 73 = .ok (.invokestatic 344, 3) := by decide +kernel
theorem d_B_costWith_76 : decode m_B_costWith.2.1 76 = .ok (.istore_n 3, 1) := by decide +kernel
theorem d_B_costWith_77 : decode m_B_costWith.2.1 77 = .ok (.iinc 4 1, 3) := by decide +kernel
theorem d_B_costWith_80 : decode m_B_costWith.2.1 80 = .ok (.goto (-65), 3) := by decide +kernel
theorem d_B_costWith_83 : decode m_B_costWith.2.1 83 = .ok (.iconst 0, 1) := by decide +kernel
theorem d_B_costWith_84 : decode m_B_costWith.2.1 84 = .ok (.istore 4, 2) := by decide +kernel
theorem d_B_costWith_86 : decode m_B_costWith.2.1 86 = .ok (.iload 4, 2) := by decide +kernel
theorem d_B_costWith_88 : decode m_B_costWith.2.1 88 = .ok (.aload_n 1, 1) := by decide +kernel
theorem d_B_costWith_89 : decode m_B_costWith.2.1 89 = .ok (.getfield 347, 3) := by decide +kernel
theorem d_B_costWith_92 : decode m_B_costWith.2.1 92 = .ok (.if_icmp .ge 41, 3) := by decide +kernel
theorem d_B_costWith_95 : decode m_B_costWith.2.1 95 = .ok (.aload_n 1, 1) := by decide +kernel
theorem d_B_costWith_96 : decode m_B_costWith.2.1 96 = .ok (.getfield 350, 3) := by decide +kernel
theorem d_B_costWith_99 : decode m_B_costWith.2.1 99 = .ok (.iload 4, 2) := by decide +kernel
theorem d_B_costWith_101 : decode m_B_costWith.2.1 101 = .ok (.aaload, 1) := by decide +kernel
theorem d_B_costWith_102 : decode m_B_costWith.2.1 102 = .ok (.astore 5, 2) := by decide +kernel
theorem d_B_costWith_104 : decode m_B_costWith.2.1 104 = .ok (.iload_n 3, 1) := by decide +kernel
theorem d_B_costWith_105 : decode m_B_costWith.2.1 105 = .ok (.aload_n 0, 1) := by decide +kernel
theorem d_B_costWith_106 : decode m_B_costWith.2.1 106 = .ok (.aload 5, 2) := by decide +kernel
theorem d_B_costWith_108 : decode m_B_costWith.2.1 108 = .ok (.getfield 307, 3) := by decide +kernel
theorem d_B_costWith_111 : decode m_B_costWith.2.1 111 = .ok (.aload 5, 2) := by decide +kernel
theorem d_B_costWith_113 : decode m_B_costWith.2.1 113 = .ok (.getfield 354, 3) := by decide +kernel
theorem d_B_costWith_116 : decode m_B_costWith.2.1 116 = .ok (.getfield 242, 3) := by decide +kernel
theorem d_B_costWith_119 : decode m_B_costWith.2.1 119 = .ok (.aload_n 2, 1) := by decide +kernel
theorem d_B_costWith_120 : decode m_B_costWith.2.1 120 = .ok (.invokevirtual 358, 3) := by decide +kernel
theorem d_B_costWith_123 : decode m_B_costWith.2.1 123 = .ok (.invokestatic 344, 3) := by decide +kernel
theorem d_B_costWith_126 : decode m_B_costWith.2.1 126 = .ok (.istore_n 3, 1) := by decide +kernel
theorem d_B_costWith_127 : decode m_B_costWith.2.1 127 = .ok (.iinc 4 1, 3) := by decide +kernel
theorem d_B_costWith_130 : decode m_B_costWith.2.1 130 = .ok (.goto (-44), 3) := by decide +kernel
theorem d_B_costWith_133 : decode m_B_costWith.2.1 133 = .ok (.iload_n 3, 1) := by decide +kernel
theorem d_B_costWith_134 : decode m_B_costWith.2.1 134 = .ok (.ireturn, 1) := by decide +kernel
theorem d_Q_joinsUpwards_0 : decode m_Q_joinsUpwards.2.1 0 = .ok (.aload_n 0, 1) := by decide +kernel
theorem d_Q_joinsUpwards_1 : decode m_Q_joinsUpwards.2.1 1 = .ok (.getfield 15, 3) := by decide +kernel
theorem d_Q_joinsUpwards_4 : decode m_Q_joinsUpwards.2.1 4 = .ok (.aload_n 1, 1) := by decide +kernel
theorem d_Q_joinsUpwards_5 : decode m_Q_joinsUpwards.2.1 5 = .ok (.getfield 22, 3) := by decide +kernel
theorem d_Q_joinsUpwards_8 : decode m_Q_joinsUpwards.2.1 8 = .ok (.if_icmp .ne 17, 3) := by decide +kernel
theorem d_Q_joinsUpwards_11 : decode m_Q_joinsUpwards.2.1 11 = .ok (.aload_n 1, 1) := by decide +kernel
theorem d_Q_joinsUpwards_12 : decode m_Q_joinsUpwards.2.1 12 = .ok (.getfield 27, 3) := by decide +kernel
theorem d_Q_joinsUpwards_15 : decode m_Q_joinsUpwards.2.1 15 = .ok (.aload_n 0, 1) := by decide +kernel
theorem d_Q_joinsUpwards_16 : decode m_Q_joinsUpwards.2.1 16 = .ok (.getfield 19, 3) := by decide +kernel
theorem d_Q_joinsUpwards_19 : decode m_Q_joinsUpwards.2.1 19 = .ok (.invokestatic 30, 3) := by decide +kernel
theorem d_Q_joinsUpwards_22 : decode m_Q_joinsUpwards.2.1 22 = .ok (.ifCond .ne 28, 3) := by decide +kernel
theorem d_Q_joinsUpwards_25 : decode m_Q_joinsUpwards.2.1 25 = .ok (.aload_n 0, 1) := by decide +kernel
theorem d_Q_joinsUpwards_26 : decode m_Q_joinsUpwards.2.1 26 = .ok (.getfield 19, 3) := by decide +kernel
theorem d_Q_joinsUpwards_29 : decode m_Q_joinsUpwards.2.1 29 = .ok (.aload_n 1, 1) := by decide +kernel
theorem d_Q_joinsUpwards_30 : decode m_Q_joinsUpwards.2.1 30 = .ok (.getfield 22, 3) := by decide +kernel
theorem d_Q_joinsUpwards_33 : decode m_Q_joinsUpwards.2.1 33 = .ok (.if_icmp .ne 21, 3) := by decide +kernel
theorem d_Q_joinsUpwards_36 : decode m_Q_joinsUpwards.2.1 36 = .ok (.aload_n 1, 1) := by decide +kernel
theorem d_Q_joinsUpwards_37 : decode m_Q_joinsUpwards.2.1 37 = .ok (.getfield 27, 3) := by decide +kernel
theorem d_Q_joinsUpwards_40 : decode m_Q_joinsUpwards.2.1 40 = .ok (.aload_n 0, 1) := by decide +kernel
theorem d_Q_joinsUpwards_41 : decode m_Q_joinsUpwards.2.1 41 = .ok (.getfield 15, 3) := by decide +kernel
theorem d_Q_joinsUpwards_44 : decode m_Q_joinsUpwards.2.1 44 = .ok (.invokestatic 30, 3) := by decide +kernel
theorem d_Q_joinsUpwards_47 : decode m_Q_joinsUpwards.2.1 47 = .ok (.ifCond .eq 7, 3) := by decide +kernel
theorem d_Q_joinsUpwards_50 : decode m_Q_joinsUpwards.2.1 50 = .ok (.iconst 1, 1) := by decide +kernel
theorem d_Q_joinsUpwards_51 : decode m_Q_joinsUpwards.2.1 51 = .ok (.goto 4, 3) := by decide +kernel
theorem d_Q_joinsUpwards_54 : decode m_Q_joinsUpwards.2.1 54 = .ok (.iconst 0, 1) := by decide +kernel
theorem d_Q_joinsUpwards_55 : decode m_Q_joinsUpwards.2.1 55 = .ok (.ireturn, 1) := by decide +kernel
theorem d_B_plus_0 : decode m_B_plus.2.1 0 = .ok (.iload_n 0, 1) := by decide +kernel
theorem d_B_plus_1 : decode m_B_plus.2.1 1 = .ok (.bipush (-2), 2) := by decide +kernel
theorem d_B_plus_3 : decode m_B_plus.2.1 3 = .ok (.if_icmp .eq 9, 3) := by decide +kernel
theorem d_B_plus_6 : decode m_B_plus.2.1 6 = .ok (.iload_n 1, 1) := by decide +kernel
theorem d_B_plus_7 : decode m_B_plus.2.1 7 = .ok (.bipush (-2), 2) := by decide +kernel
theorem d_B_plus_9 : decode m_B_plus.2.1 9 = .ok (.if_icmp .ne 8, 3) := by decide +kernel
theorem d_B_plus_12 : decode m_B_plus.2.1 12 = .ok (.bipush (-2), 2) := by decide +kernel
theorem d_B_plus_14 : decode m_B_plus.2.1 14 = .ok (.goto 6, 3) := by decide +kernel
theorem d_B_plus_17 : decode m_B_plus.2.1 17 = .ok (.iload_n 0, 1) := by decide +kernel
theorem d_B_plus_18 : decode m_B_plus.2.1 18 = .ok (.iload_n 1, 1) := by decide +kernel
theorem d_B_plus_19 : decode m_B_plus.2.1 19 = .ok (.iadd, 1) := by decide +kernel
theorem d_B_plus_20 : decode m_B_plus.2.1 20 = .ok (.ireturn, 1) := by decide +kernel
theorem d_B_entryAt_0 : decode m_B_entryAt.2.1 0 = .ok (.iconst 0, 1) := by decide +kernel
theorem d_B_entryAt_1 : decode m_B_entryAt.2.1 1 = .ok (.istore 4, 2) := by decide +kernel
theorem d_B_entryAt_3 : decode m_B_entryAt.2.1 3 = .ok (.iconst 1, 1) := by decide +kernel
theorem d_B_entryAt_4 : decode m_B_entryAt.2.1 4 = .ok (.istore 5, 2) := by decide +kernel
theorem d_B_entryAt_6 : decode m_B_entryAt.2.1 6 = .ok (.iconst 0, 1) := by decide +kernel
theorem d_B_entryAt_7 : decode m_B_entryAt.2.1 7 = .ok (.istore 6, 2) := by decide +kernel
theorem d_B_entryAt_9 : decode m_B_entryAt.2.1 9 = .ok (.iload 6, 2) := by decide +kernel
theorem d_B_entryAt_11 : decode m_B_entryAt.2.1 11 = .ok (.aload_n 0, 1) := by decide +kernel
theorem d_B_entryAt_12 : decode m_B_entryAt.2.1 12 = .ok (.getfield 42, 3) := by decide +kernel
theorem d_B_entryAt_15 : decode m_B_entryAt.2.1 15 = .ok (.if_icmp .ge 45, 3) := by decide +kernel
theorem d_B_entryAt_18 : decode m_B_entryAt.2.1 18 = .ok (.iload_n 2, 1) := by decide +kernel
theorem d_B_entryAt_19 : decode m_B_entryAt.2.1 19 = .ok (.iload 6, 2) := by decide +kernel
theorem d_B_entryAt_21 : decode m_B_entryAt.2.1 21 = .ok (.invokestatic 227, 3) := by decide +kernel
theorem d_B_entryAt_24 : decode m_B_entryAt.2.1 24 = .ok (.ifCond .eq 30, 3) := by decide +kernel
theorem d_B_entryAt_27 : decode m_B_entryAt.2.1 27 = .ok (.iload 4, 2) := by decide +kernel
theorem d_B_entryAt_29 : decode m_B_entryAt.2.1 29 = .ok (.aload_n 3, 1) := by decide +kernel
theorem d_B_entryAt_30 : decode m_B_entryAt.2.1 30 = .ok (.iload 6, 2) := by decide +kernel
theorem d_B_entryAt_32 : decode m_B_entryAt.2.1 32 = .ok (.iaload, 1) := by decide +kernel
theorem d_B_entryAt_33 : decode m_B_entryAt.2.1 33 = .ok (.iload 5, 2) := by decide +kernel
theorem d_B_entryAt_35 : decode m_B_entryAt.2.1 35 = .ok (.imul, 1) := by decide +kernel
theorem d_B_entryAt_36 : decode m_B_entryAt.2.1 36 = .ok (.iadd, 1) := by decide +kernel
theorem d_B_entryAt_37 : decode m_B_entryAt.2.1 37 = .ok (.istore 4, 2) := by decide +kernel
theorem d_B_entryAt_39 : decode m_B_entryAt.2.1 39 = .ok (.iload 5, 2) := by decide +kernel
theorem d_B_entryAt_41 : decode m_B_entryAt.2.1 41 = .ok (.aload_n 0, 1) := by decide +kernel
theorem d_B_entryAt_42 : decode m_B_entryAt.2.1 42 = .ok (.getfield 11, 3) := by decide +kernel
theorem d_B_entryAt_45 : decode m_B_entryAt.2.1 45 = .ok (.iload 6, 2) := by decide +kernel
theorem d_B_entryAt_47 : decode m_B_entryAt.2.1 47 = .ok (.aaload, 1) := by decide +kernel
theorem d_B_entryAt_48 : decode m_B_entryAt.2.1 48 = .ok (.getfield 245, 3) := by decide +kernel
theorem d_B_entryAt_51 : decode m_B_entryAt.2.1 51 = .ok (.imul, 1) := by decide +kernel
theorem d_B_entryAt_52 : decode m_B_entryAt.2.1 52 = .ok (.istore 5, 2) := by decide +kernel
theorem d_B_entryAt_54 : decode m_B_entryAt.2.1 54 = .ok (.iinc 6 1, 3) := by decide +kernel
theorem d_B_entryAt_57 : decode m_B_entryAt.2.1 57 = .ok (.goto (-48), 3) := by decide +kernel
theorem d_B_entryAt_60 : decode m_B_entryAt.2.1 60 = .ok (.aload_n 1, 1) := by decide +kernel
theorem d_B_entryAt_61 : decode m_B_entryAt.2.1 61 = .ok (.ifnull 22, 3) := by decide +kernel
theorem d_B_entryAt_64 : decode m_B_entryAt.2.1 64 = .ok (.iload 4, 2) := by decide +kernel
theorem d_B_entryAt_66 : decode m_B_entryAt.2.1 66 = .ok (.ifCond .lt 17, 3) := by decide +kernel
theorem d_B_entryAt_69 : decode m_B_entryAt.2.1 69 = .ok (.iload 4, 2) := by decide +kernel
theorem d_B_entryAt_71 : decode m_B_entryAt.2.1 71 = .ok (.aload_n 1, 1) := by decide +kernel
theorem d_B_entryAt_72 : decode m_B_entryAt.2.1 72 = .ok (.arraylength, 1) := by decide +kernel
theorem d_B_entryAt_73 : decode m_B_entryAt.2.1 73 = .ok (.if_icmp .ge 10, 3) := by decide +kernel
theorem d_B_entryAt_76 : decode m_B_entryAt.2.1 76 = .ok (.aload_n 1, 1) := by decide +kernel
theorem d_B_entryAt_77 : decode m_B_entryAt.2.1 77 = .ok (.iload 4, 2) := by decide +kernel
theorem d_B_entryAt_79 : decode m_B_entryAt.2.1 79 = .ok (.iaload, 1) := by decide +kernel
theorem d_B_entryAt_80 : decode m_B_entryAt.2.1 80 = .ok (.goto 5, 3) := by decide +kernel
theorem d_B_entryAt_83 : decode m_B_entryAt.2.1 83 = .ok (.bipush (-2), 2) := by decide +kernel
theorem d_B_entryAt_85 : decode m_B_entryAt.2.1 85 = .ok (.ireturn, 1) := by decide +kernel
theorem d_B_lesser_0 : decode m_B_lesser.2.1 0 = .ok (.iload_n 0, 1) := by decide +kernel
theorem d_B_lesser_1 : decode m_B_lesser.2.1 1 = .ok (.bipush (-2), 2) := by decide +kernel
theorem d_B_lesser_3 : decode m_B_lesser.2.1 3 = .ok (.if_icmp .ne 5, 3) := by decide +kernel
theorem d_B_lesser_6 : decode m_B_lesser.2.1 6 = .ok (.iload_n 1, 1) := by decide +kernel
theorem d_B_lesser_7 : decode m_B_lesser.2.1 7 = .ok (.ireturn, 1) := by decide +kernel
theorem d_B_lesser_8 : decode m_B_lesser.2.1 8 = .ok (.iload_n 1, 1) := by decide +kernel
theorem d_B_lesser_9 : decode m_B_lesser.2.1 9 = .ok (.bipush (-2), 2) := by decide +kernel
theorem d_B_lesser_11 : decode m_B_lesser.2.1 11 = .ok (.if_icmp .ne 7, 3) := by decide +kernel
theorem d_B_lesser_14 : decode m_B_lesser.2.1 14 = .ok (.iload_n 0, 1) := by decide +kernel
theorem d_B_lesser_15 : decode m_B_lesser.2.1 15 = .ok (.goto 8, 3) := by decide +kernel
theorem d_B_lesser_18 : decode m_B_lesser.2.1 18 = .ok (.iload_n 0, 1) := by decide +kernel
theorem d_B_lesser_19 : decode m_B_lesser.2.1 19 = .ok (.iload_n 1, 1) := by decide +kernel
theorem d_B_lesser_20 : decode m_B_lesser.2.1 20 = .ok (.invokestatic 83, 3) := by decide +kernel
theorem d_B_lesser_23 : decode m_B_lesser.2.1 23 = .ok (.ireturn, 1) := by decide +kernel
theorem d_B_nothingTold_0 : decode m_B_nothingTold.2.1 0 = .ok (.bipush 8, 2) := by decide +kernel
theorem d_B_nothingTold_2 : decode m_B_nothingTold.2.1 2 = .ok (.newarray .int, 2) := by decide +kernel
theorem d_B_nothingTold_4 : decode m_B_nothingTold.2.1 4 = .ok (.astore_n 0, 1) := by decide +kernel
theorem d_B_nothingTold_5 : decode m_B_nothingTold.2.1 5 = .ok (.aload_n 0, 1) := by decide +kernel
theorem d_B_nothingTold_6 : decode m_B_nothingTold.2.1 6 = .ok (.iconst (-1), 1) := by decide +kernel
theorem d_B_nothingTold_7 : decode m_B_nothingTold.2.1 7 = .ok (.invokestatic 362, 3) := by decide +kernel
theorem d_B_nothingTold_10 : decode m_B_nothingTold.2.1 10 = .ok (.aload_n 0, 1) := by decide +kernel
theorem d_B_nothingTold_11 : decode m_B_nothingTold.2.1 11 = .ok (.areturn, 1) := by decide +kernel
theorem d_J_fill_0 : decode m_J_fill.2.1 0 = .ok (.iconst 0, 1) := by decide +kernel
theorem d_J_fill_1 : decode m_J_fill.2.1 1 = .ok (.istore_n 2, 1) := by decide +kernel
theorem d_J_fill_2 : decode m_J_fill.2.1 2 = .ok (.aload_n 0, 1) := by decide +kernel
theorem d_J_fill_3 : decode m_J_fill.2.1 3 = .ok (.arraylength, 1) := by decide +kernel
theorem d_J_fill_4 : decode m_J_fill.2.1 4 = .ok (.istore_n 3, 1) := by decide +kernel
theorem d_J_fill_5 : decode m_J_fill.2.1 5 = .ok (.iload_n 2, 1) := by decide +kernel
theorem d_J_fill_6 : decode m_J_fill.2.1 6 = .ok (.iload_n 3, 1) := by decide +kernel
theorem d_J_fill_7 : decode m_J_fill.2.1 7 = .ok (.if_icmp .ge 13, 3) := by decide +kernel
theorem d_J_fill_10 : decode m_J_fill.2.1 10 = .ok (.aload_n 0, 1) := by decide +kernel
theorem d_J_fill_11 : decode m_J_fill.2.1 11 = .ok (.iload_n 2, 1) := by decide +kernel
theorem d_J_fill_12 : decode m_J_fill.2.1 12 = .ok (.iload_n 1, 1) := by decide +kernel
theorem d_J_fill_13 : decode m_J_fill.2.1 13 = .ok (.iastore, 1) := by decide +kernel
theorem d_J_fill_14 : decode m_J_fill.2.1 14 = .ok (.iinc 2 1, 3) := by decide +kernel
theorem d_J_fill_17 : decode m_J_fill.2.1 17 = .ok (.goto (-12), 3) := by decide +kernel
theorem d_J_fill_20 : decode m_J_fill.2.1 20 = .ok (.return_, 1) := by decide +kernel
theorem d_B_choose_0 : decode m_B_choose.2.1 0 = .ok (.aload_n 0, 1) := by decide +kernel
theorem d_B_choose_1 : decode m_B_choose.2.1 1 = .ok (.aload_n 1, 1) := by decide +kernel
theorem d_B_choose_2 : decode m_B_choose.2.1 2 = .ok (.getfield 195, 3) := by decide +kernel
theorem d_B_choose_5 : decode m_B_choose.2.1 5 = .ok (.aload_n 1, 1) := by decide +kernel
theorem d_B_choose_6 : decode m_B_choose.2.1 6 = .ok (.getfield 242, 3) := by decide +kernel
theorem d_B_choose_9 : decode m_B_choose.2.1 9 = .ok (.aload_n 3, 1) := by decide +kernel
theorem d_B_choose_10 : decode m_B_choose.2.1 10 = .ok (.invokevirtual 358, 3) := by decide +kernel
theorem d_B_choose_13 : decode m_B_choose.2.1 13 = .ok (.istore 4, 2) := by decide +kernel
theorem d_B_choose_15 : decode m_B_choose.2.1 15 = .ok (.iload 4, 2) := by decide +kernel
theorem d_B_choose_17 : decode m_B_choose.2.1 17 = .ok (.bipush (-2), 2) := by decide +kernel
theorem d_B_choose_19 : decode m_B_choose.2.1 19 = .ok (.if_icmp .ne 12, 3) := by decide +kernel
theorem d_B_choose_22 : decode m_B_choose.2.1 22 = .ok (.aload_n 1, 1) := by decide +kernel
theorem d_B_choose_23 : decode m_B_choose.2.1 23 = .ok (.getfield 212, 3) := by decide +kernel
theorem d_B_choose_26 : decode m_B_choose.2.1 26 = .ok (.iload_n 2, 1) := by decide +kernel
theorem d_B_choose_27 : decode m_B_choose.2.1 27 = .ok (.putfield 368, 3) := by decide +kernel
theorem d_B_choose_30 : decode m_B_choose.2.1 30 = .ok (.return_, 1) := by decide +kernel
theorem d_B_choose_31 : decode m_B_choose.2.1 31 = .ok (.aload_n 3, 1) := by decide +kernel
theorem d_B_choose_32 : decode m_B_choose.2.1 32 = .ok (.invokevirtual 371, 3) := by decide +kernel
theorem d_B_choose_35 : decode m_B_choose.2.1 35 = .ok (.checkcast 372, 3) := by decide +kernel
theorem d_B_choose_38 : decode m_B_choose.2.1 38 = .ok (.astore 5, 2) := by decide +kernel
theorem d_B_choose_40 : decode m_B_choose.2.1 40 = .ok (.aload 5, 2) := by decide +kernel
theorem d_B_choose_42 : decode m_B_choose.2.1 42 = .ok (.aload_n 1, 1) := by decide +kernel
theorem d_B_choose_43 : decode m_B_choose.2.1 43 = .ok (.getfield 294, 3) := by decide +kernel
theorem d_B_choose_46 : decode m_B_choose.2.1 46 = .ok (.iconst 0, 1) := by decide +kernel
theorem d_B_choose_47 : decode m_B_choose.2.1 47 = .ok (.iastore, 1) := by decide +kernel
theorem d_B_choose_48 : decode m_B_choose.2.1 48 = .ok (.iconst 1, 1) := by decide +kernel
theorem d_B_choose_49 : decode m_B_choose.2.1 49 = .ok (.istore 6, 2) := by decide +kernel
theorem d_B_choose_51 : decode m_B_choose.2.1 51 = .ok (.iload 6, 2) := by decide +kernel
theorem d_B_choose_53 : decode m_B_choose.2.1 53 = .ok (.aload_n 1, 1) := by decide +kernel
theorem d_B_choose_54 : decode m_B_choose.2.1 54 = .ok (.getfield 245, 3) := by decide +kernel
theorem d_B_choose_57 : decode m_B_choose.2.1 57 = .ok (.if_icmp .ge 30, 3) := by decide +kernel
theorem d_B_choose_60 : decode m_B_choose.2.1 60 = .ok (.aload_n 0, 1) := by decide +kernel
theorem d_B_choose_61 : decode m_B_choose.2.1 61 = .ok (.aload_n 1, 1) := by decide +kernel
theorem d_B_choose_62 : decode m_B_choose.2.1 62 = .ok (.aload 5, 2) := by decide +kernel
theorem d_B_choose_64 : decode m_B_choose.2.1 64 = .ok (.invokevirtual 334, 3) := by decide +kernel
theorem d_B_choose_67 : decode m_B_choose.2.1 67 = .ok (.iload 4, 2) := by decide +kernel
theorem d_B_choose_69 : decode m_B_choose.2.1 69 = .ok (.if_icmp .eq 18, 3) := by decide +kernel
theorem d_B_choose_72 : decode m_B_choose.2.1 72 = .ok (.aload 5, 2) := by decide +kernel
theorem d_B_choose_74 : decode m_B_choose.2.1 74 = .ok (.aload_n 1, 1) := by decide +kernel
theorem d_B_choose_75 : decode m_B_choose.2.1 75 = .ok (.getfield 294, 3) := by decide +kernel
theorem d_B_choose_78 : decode m_B_choose.2.1 78 = .ok (.iload 6, 2) := by decide +kernel
theorem d_B_choose_80 : decode m_B_choose.2.1 80 = .ok (.iastore, 1) := by decide +kernel
theorem d_B_choose_81 : decode m_B_choose.2.1 81 = .ok (.iinc 6 1, 3) := by decide +kernel
theorem d_B_choose_84 : decode m_B_choose.2.1 84 = .ok (.goto (-33), 3) := by decide +kernel
theorem d_B_choose_87 : decode m_B_choose.2.1 87 = .ok (.aload_n 1, 1) := by decide +kernel
theorem d_B_choose_88 : decode m_B_choose.2.1 88 = .ok (.aload 5, 2) := by decide +kernel
theorem d_B_choose_90 : decode m_B_choose.2.1 90 = .ok (.putfield 201, 3) := by decide +kernel
theorem d_B_choose_93 : decode m_B_choose.2.1 93 = .ok (.aload_n 1, 1) := by decide +kernel
theorem d_B_choose_94 : decode m_B_choose.2.1 94 = .ok (.iload_n 2, 1) := by decide +kernel
theorem d_B_choose_95 : decode m_B_choose.2.1 95 = .ok (.putfield 281, 3) := by decide +kernel
theorem d_B_choose_98 : decode m_B_choose.2.1 98 = .ok (.aload_n 0, 1) := by decide +kernel
theorem d_B_choose_99 : decode m_B_choose.2.1 99 = .ok (.aload_n 1, 1) := by decide +kernel
theorem d_B_choose_100 : decode m_B_choose.2.1 100 = .ok (.invokevirtual 204, 3) := by decide +kernel
theorem d_B_choose_103 : decode m_B_choose.2.1 103 = .ok (.return_, 1) := by decide +kernel
theorem d_B_sendChoices_0 : decode m_B_sendChoices.2.1 0 = .ok (.iconst 0, 1) := by decide +kernel
theorem d_B_sendChoices_1 : decode m_B_sendChoices.2.1 1 = .ok (.istore_n 2, 1) := by decide +kernel
theorem d_B_sendChoices_2 : decode m_B_sendChoices.2.1 2 = .ok (.iload_n 2, 1) := by decide +kernel
theorem d_B_sendChoices_3 : decode m_B_sendChoices.2.1 3 = .ok (.aload_n 1, 1) := by decide +kernel
theorem d_B_sendChoices_4 : decode m_B_sendChoices.2.1 4 = .ok (.getfield 347, 3) := by decide +kernel
theorem d_B_sendChoices_7 : decode m_B_sendChoices.2.1 7 = .ok (.if_icmp .ge 45, 3) := by decide +kernel
theorem d_B_sendChoices_10 : decode m_B_sendChoices.2.1 10 = .ok (.aload_n 0, 1) := by decide +kernel
theorem d_B_sendChoices_11 : decode m_B_sendChoices.2.1 11 = .ok (.new 21, 3) := by decide +kernel
theorem d_B_sendChoices_14 : decode m_B_sendChoices.2.1 14 = .ok (.dup, 1) := by decide +kernel
theorem d_B_sendChoices_15 : decode m_B_sendChoices.2.1 15 = .ok (.iconst 3, 1) := by decide +kernel
theorem d_B_sendChoices_16 : decode m_B_sendChoices.2.1 16 = .ok (.aload_n 1, 1) := by decide +kernel
theorem d_B_sendChoices_17 : decode m_B_sendChoices.2.1 17 = .ok (.getfield 294, 3) := by decide +kernel
theorem d_B_sendChoices_20 : decode m_B_sendChoices.2.1 20 = .ok (.aload_n 1, 1) := by decide +kernel
theorem d_B_sendChoices_21 : decode m_B_sendChoices.2.1 21 = .ok (.getfield 350, 3) := by decide +kernel
theorem d_B_sendChoices_24 : decode m_B_sendChoices.2.1 24 = .ok (.iload_n 2, 1) := by decide +kernel
theorem d_B_sendChoices_25 : decode m_B_sendChoices.2.1 25 = .ok (.aaload, 1) := by decide +kernel
theorem d_B_sendChoices_26 : decode m_B_sendChoices.2.1 26 = .ok (.getfield 354, 3) := by decide +kernel
theorem d_B_sendChoices_29 : decode m_B_sendChoices.2.1 29 = .ok (.getfield 294, 3) := by decide +kernel
theorem d_B_sendChoices_32 : decode m_B_sendChoices.2.1 32 = .ok (.aload_n 1, 1) := by decide +kernel
theorem d_B_sendChoices_33 : decode m_B_sendChoices.2.1 33 = .ok (.getfield 281, 3) := by decide +kernel
theorem d_B_sendChoices_36 : decode m_B_sendChoices.2.1 36 = .ok (.aload_n 1, 1) := by decide +kernel
theorem d_B_sendChoices_37 : decode m_B_sendChoices.2.1 37 = .ok (.getfield 201, 3) := by decide +kernel
theorem d_B_sendChoices_40 : decode m_B_sendChoices.2.1 40 = .ok (.invokespecial 376, 3) := by decide +kernel
theorem d_B_sendChoices_43 : decode m_B_sendChoices.2.1 43 = .ok (.invokevirtual 379, 3) := by decide +kernel
theorem d_B_sendChoices_46 : decode m_B_sendChoices.2.1 46 = .ok (.iinc 2 1, 3) := by decide +kernel
theorem d_B_sendChoices_49 : decode m_B_sendChoices.2.1 49 = .ok (.goto (-47), 3) := by decide +kernel
theorem d_B_sendChoices_52 : decode m_B_sendChoices.2.1 52 = .ok (.return_, 1) := by decide +kernel
theorem d_B_sendTable_0 : decode m_B_sendTable.2.1 0 = .ok (.aload_n 1, 1) := by decide +kernel
theorem d_B_sendTable_1 : decode m_B_sendTable.2.1 1 = .ok (.getfield 239, 3) := by decide +kernel
theorem d_B_sendTable_4 : decode m_B_sendTable.2.1 4 = .ok (.iconst (-1), 1) := by decide +kernel
theorem d_B_sendTable_5 : decode m_B_sendTable.2.1 5 = .ok (.if_icmp .eq 31, 3) := by decide +kernel
theorem d_B_sendTable_8 : decode m_B_sendTable.2.1 8 = .ok (.aload_n 0, 1) := by decide +kernel
theorem d_B_sendTable_9 : decode m_B_sendTable.2.1 9 = .ok (.new 21, 3) := by decide +kernel
theorem d_B_sendTable_12 : decode m_B_sendTable.2.1 12 = .ok (.dup, 1) := by decide +kernel
theorem d_B_sendTable_13 : decode m_B_sendTable.2.1 13 = .ok (.iconst 2, 1) := by decide +kernel
theorem d_B_sendTable_14 : decode m_B_sendTable.2.1 14 = .ok (.aload_n 1, 1) := by decide +kernel
theorem d_B_sendTable_15 : decode m_B_sendTable.2.1 15 = .ok (.getfield 294, 3) := by decide +kernel
theorem d_B_sendTable_18 : decode m_B_sendTable.2.1 18 = .ok (.aload_n 1, 1) := by decide +kernel
theorem d_B_sendTable_19 : decode m_B_sendTable.2.1 19 = .ok (.getfield 239, 3) := by decide +kernel
theorem d_B_sendTable_22 : decode m_B_sendTable.2.1 22 = .ok (.aload_n 1, 1) := by decide +kernel
theorem d_B_sendTable_23 : decode m_B_sendTable.2.1 23 = .ok (.getfield 327, 3) := by decide +kernel
theorem d_B_sendTable_26 : decode m_B_sendTable.2.1 26 = .ok (.aload_n 1, 1) := by decide +kernel
theorem d_B_sendTable_27 : decode m_B_sendTable.2.1 27 = .ok (.getfield 195, 3) := by decide +kernel
theorem d_B_sendTable_30 : decode m_B_sendTable.2.1 30 = .ok (.invokespecial 376, 3) := by decide +kernel
theorem d_B_sendTable_33 : decode m_B_sendTable.2.1 33 = .ok (.invokevirtual 379, 3) := by decide +kernel
theorem d_B_sendTable_36 : decode m_B_sendTable.2.1 36 = .ok (.return_, 1) := by decide +kernel
theorem d_B_letter_0 : decode m_B_letter.2.1 0 = .ok (.iload_n 2, 1) := by decide +kernel
theorem d_B_letter_1 : decode m_B_letter.2.1 1 = .ok (.ifCond .lt 8, 3) := by decide +kernel
theorem d_B_letter_4 : decode m_B_letter.2.1 4 = .ok (.iload_n 2, 1) := by decide +kernel
theorem d_B_letter_5 : decode m_B_letter.2.1 5 = .ok (.iconst 2, 1) := by decide +kernel
theorem d_B_letter_6 : decode m_B_letter.2.1 6 = .ok (.if_icmp .le 13, 3) := by decide +kernel
theorem d_B_letter_9 : decode m_B_letter.2.1 9 = .ok (.new 35, 3) := by decide +kernel
theorem d_B_letter_12 : decode m_B_letter.2.1 12 = .ok (.dup, 1) := by decide +kernel
theorem d_B_letter_13 : decode m_B_letter.2.1 13 = .ok (.ldc 129, 2) := by decide +kernel
theorem d_B_letter_15 : decode m_B_letter.2.1 15 = .ok (.invokespecial 39, 3) := by decide +kernel
theorem d_B_letter_18 : decode m_B_letter.2.1 18 = .ok (.athrow, 1) := by decide +kernel
theorem d_B_letter_19 : decode m_B_letter.2.1 19 = .ok (.aload_n 0, 1) := by decide +kernel
theorem d_B_letter_20 : decode m_B_letter.2.1 20 = .ok (.iload_n 1, 1) := by decide +kernel
theorem d_B_letter_21 : decode m_B_letter.2.1 21 = .ok (.invokevirtual 131, 3) := by decide +kernel
theorem d_B_letter_24 : decode m_B_letter.2.1 24 = .ok (.ifCond .ne 13, 3) := by decide +kernel
theorem d_B_letter_27 : decode m_B_letter.2.1 27 = .ok (.new 134, 3) := by decide +kernel
theorem d_B_letter_30 : decode m_B_letter.2.1 30 = .ok (.dup, 1) := by decide +kernel
theorem d_B_letter_31 : decode m_B_letter.2.1 31 = .ok (.ldc 136, 2) := by decide +kernel
theorem d_B_letter_33 : decode m_B_letter.2.1 33 = .ok (.invokespecial 138, 3) := by decide +kernel
theorem d_B_letter_36 : decode m_B_letter.2.1 36 = .ok (.athrow, 1) := by decide +kernel
theorem d_B_letter_37 : decode m_B_letter.2.1 37 = .ok (.iload_n 2, 1) := by decide +kernel
theorem d_B_letter_38 : decode m_B_letter.2.1 38 = .ok (.iconst 2, 1) := by decide +kernel
theorem d_B_letter_39 : decode m_B_letter.2.1 39 = .ok (.if_icmp .ne 22, 3) := by decide +kernel
theorem d_B_letter_42 : decode m_B_letter.2.1 42 = .ok (.aload_n 0, 1) := by decide +kernel
theorem d_B_letter_43 : decode m_B_letter.2.1 43 = .ok (.getfield 139, 3) := by decide +kernel
theorem d_B_letter_46 : decode m_B_letter.2.1 46 = .ok (.bipush 20, 2) := by decide +kernel
theorem d_B_letter_48 : decode m_B_letter.2.1 48 = .ok (.if_icmp .ne 13, 3) := by decide +kernel
theorem d_B_letter_51 : decode m_B_letter.2.1 51 = .ok (.new 46, 3) := by decide +kernel
theorem d_B_letter_54 : decode m_B_letter.2.1 54 = .ok (.dup, 1) := by decide +kernel
theorem d_B_letter_55 : decode m_B_letter.2.1 55 = .ok (.ldc 142, 2) := by decide +kernel
theorem d_B_letter_57 : decode m_B_letter.2.1 57 = .ok (.invokespecial 50, 3) := by decide +kernel
theorem d_B_letter_60 : decode m_B_letter.2.1 60 = .ok (.athrow, 1) := by decide +kernel
theorem d_B_letter_61 : decode m_B_letter.2.1 61 = .ok (.aload_n 0, 1) := by decide +kernel
theorem d_B_letter_62 : decode m_B_letter.2.1 62 = .ok (.getfield 23, 3) := by decide +kernel
theorem d_B_letter_65 : decode m_B_letter.2.1 65 = .ok (.iload_n 1, 1) := by decide +kernel
theorem d_B_letter_66 : decode m_B_letter.2.1 66 = .ok (.aaload, 1) := by decide +kernel
theorem d_B_letter_67 : decode m_B_letter.2.1 67 = .ok (.astore_n 3, 1) := by decide +kernel
theorem d_B_letter_68 : decode m_B_letter.2.1 68 = .ok (.iload_n 2, 1) := by decide +kernel
theorem d_B_letter_69 : decode m_B_letter.2.1 69 = .ok (.iconst 2, 1) := by decide +kernel
theorem d_B_letter_70 : decode m_B_letter.2.1 70 = .ok (.if_icmp .ne 28, 3) := by decide +kernel
theorem d_B_letter_73 : decode m_B_letter.2.1 73 = .ok (.aload_n 0, 1) := by decide +kernel
theorem d_B_letter_74 : decode m_B_letter.2.1 74 = .ok (.getfield 23, 3) := by decide +kernel
theorem d_B_letter_77 : decode m_B_letter.2.1 77 = .ok (.aload_n 0, 1) := by decide +kernel
theorem d_B_letter_78 : decode m_B_letter.2.1 78 = .ok (.getfield 139, 3) := by decide +kernel
theorem d_B_letter_81 : decode m_B_letter.2.1 81 = .ok (.aload_n 3, 1) := by decide +kernel
theorem d_B_letter_82 : decode m_B_letter.2.1 82 = .ok (.aastore, 1) := by decide +kernel
theorem d_B_letter_83 : decode m_B_letter.2.1 83 = .ok (.aload_n 0, 1) := by decide +kernel
theorem d_B_letter_84 : decode m_B_letter.2.1 84 = .ok (.dup, 1) := by decide +kernel
theorem d_B_letter_85 : decode m_B_letter.2.1 85 = .ok (.getfield 139, 3) := by decide +kernel
theorem d_B_letter_88 : decode m_B_letter.2.1 88 = .ok (.iconst 1, 1) := by decide +kernel
theorem d_B_letter_89 : decode m_B_letter.2.1 89 = .ok (.iadd, 1) := by decide +kernel
theorem d_B_letter_90 : decode m_B_letter.2.1 90 = .ok (.putfield 139, 3) := by decide +kernel
theorem d_B_letter_93 : decode m_B_letter.2.1 93 = .ok (.aload_n 0, 1) := by decide +kernel
theorem d_B_letter_94 : decode m_B_letter.2.1 94 = .ok (.getfield 139, 3) := by decide +kernel
theorem d_B_letter_97 : decode m_B_letter.2.1 97 = .ok (.ireturn, 1) := by decide +kernel
theorem d_B_letter_98 : decode m_B_letter.2.1 98 = .ok (.aload_n 0, 1) := by decide +kernel
theorem d_B_letter_99 : decode m_B_letter.2.1 99 = .ok (.iload_n 1, 1) := by decide +kernel
theorem d_B_letter_100 : decode m_B_letter.2.1 100 = .ok (.invokevirtual 144, 3) := by decide +kernel
theorem d_B_letter_103 : decode m_B_letter.2.1 103 = .ok (.iload_n 2, 1) := by decide +kernel
theorem d_B_letter_104 : decode m_B_letter.2.1 104 = .ok (.iconst 1, 1) := by decide +kernel
theorem d_B_letter_105 : decode m_B_letter.2.1 105 = .ok (.if_icmp .eq 8, 3) := by decide +kernel
theorem d_B_letter_108 : decode m_B_letter.2.1 108 = .ok (.aload_n 0, 1) := by decide +kernel
theorem d_B_letter_109 : decode m_B_letter.2.1 109 = .ok (.aload_n 3, 1) := by decide +kernel
theorem d_B_letter_110 : decode m_B_letter.2.1 110 = .ok (.invokevirtual 148, 3) := by decide +kernel
theorem d_B_letter_113 : decode m_B_letter.2.1 113 = .ok (.aload_n 0, 1) := by decide +kernel
theorem d_B_letter_114 : decode m_B_letter.2.1 114 = .ok (.getfield 139, 3) := by decide +kernel
theorem d_B_letter_117 : decode m_B_letter.2.1 117 = .ok (.ireturn, 1) := by decide +kernel
theorem d_B_takeOut_0 : decode m_B_takeOut.2.1 0 = .ok (.aload_n 0, 1) := by decide +kernel
theorem d_B_takeOut_1 : decode m_B_takeOut.2.1 1 = .ok (.dup, 1) := by decide +kernel
theorem d_B_takeOut_2 : decode m_B_takeOut.2.1 2 = .ok (.getfield 139, 3) := by decide +kernel
theorem d_B_takeOut_5 : decode m_B_takeOut.2.1 5 = .ok (.iconst 1, 1) := by decide +kernel
theorem d_B_takeOut_6 : decode m_B_takeOut.2.1 6 = .ok (.isub, 1) := by decide +kernel
theorem d_B_takeOut_7 : decode m_B_takeOut.2.1 7 = .ok (.putfield 139, 3) := by decide +kernel
theorem d_B_takeOut_10 : decode m_B_takeOut.2.1 10 = .ok (.iload_n 1, 1) := by decide +kernel
theorem d_B_takeOut_11 : decode m_B_takeOut.2.1 11 = .ok (.istore_n 2, 1) := by decide +kernel
theorem d_B_takeOut_12 : decode m_B_takeOut.2.1 12 = .ok (.iload_n 2, 1) := by decide +kernel
theorem d_B_takeOut_13 : decode m_B_takeOut.2.1 13 = .ok (.aload_n 0, 1) := by decide +kernel
theorem d_B_takeOut_14 : decode m_B_takeOut.2.1 14 = .ok (.getfield 139, 3) := by decide +kernel
theorem d_B_takeOut_17 : decode m_B_takeOut.2.1 17 = .ok (.if_icmp .ge 23, 3) := by decide +kernel
theorem d_B_takeOut_20 : decode m_B_takeOut.2.1 20 = .ok (.aload_n 0, 1) := by decide +kernel
theorem d_B_takeOut_21 : decode m_B_takeOut.2.1 21 = .ok (.getfield 23, 3) := by decide +kernel
theorem d_B_takeOut_24 : decode m_B_takeOut.2.1 24 = .ok (.iload_n 2, 1) := by decide +kernel
theorem d_B_takeOut_25 : decode m_B_takeOut.2.1 25 = .ok (.aload_n 0, 1) := by decide +kernel
theorem d_B_takeOut_26 : decode m_B_takeOut.2.1 26 = .ok (.getfield 23, 3) := by decide +kernel
theorem d_B_takeOut_29 : decode m_B_takeOut.2.1 29 = .ok (.iload_n 2, 1) := by decide +kernel
theorem d_B_takeOut_30 : decode m_B_takeOut.2.1 30 = .ok (.iconst 1, 1) := by decide +kernel
theorem d_B_takeOut_31 : decode m_B_takeOut.2.1 31 = .ok (.iadd, 1) := by decide +kernel
theorem d_B_takeOut_32 : decode m_B_takeOut.2.1 32 = .ok (.aaload, 1) := by decide +kernel
theorem d_B_takeOut_33 : decode m_B_takeOut.2.1 33 = .ok (.aastore, 1) := by decide +kernel
theorem d_B_takeOut_34 : decode m_B_takeOut.2.1 34 = .ok (.iinc 2 1, 3) := by decide +kernel
theorem d_B_takeOut_37 : decode m_B_takeOut.2.1 37 = .ok (.goto (-25), 3) := by decide +kernel
theorem d_B_takeOut_40 : decode m_B_takeOut.2.1 40 = .ok (.aload_n 0, 1) := by decide +kernel
theorem d_B_takeOut_41 : decode m_B_takeOut.2.1 41 = .ok (.getfield 23, 3) := by decide +kernel
theorem d_B_takeOut_44 : decode m_B_takeOut.2.1 44 = .ok (.aload_n 0, 1) := by decide +kernel
theorem d_B_takeOut_45 : decode m_B_takeOut.2.1 45 = .ok (.getfield 139, 3) := by decide +kernel
theorem d_B_takeOut_48 : decode m_B_takeOut.2.1 48 = .ok (.aconst_null, 1) := by decide +kernel
theorem d_B_takeOut_49 : decode m_B_takeOut.2.1 49 = .ok (.aastore, 1) := by decide +kernel
theorem d_B_takeOut_50 : decode m_B_takeOut.2.1 50 = .ok (.return_, 1) := by decide +kernel

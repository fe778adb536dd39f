/-! DECODED: written by wip/whole/gen/dec.py -/
theorem d_M_pairOf_0 : decode m_M_pairOf.2.1 0 = .ok (.iconst 0, 1) := by decide +kernel
theorem d_M_pairOf_1 : decode m_M_pairOf.2.1 1 = .ok (.istore_n 3, 1) := by decide +kernel
theorem d_M_pairOf_2 : decode m_M_pairOf.2.1 2 = .ok (.iload_n 3, 1) := by decide +kernel
theorem d_M_pairOf_3 : decode m_M_pairOf.2.1 3 = .ok (.aload_n 0, 1) := by decide +kernel
theorem d_M_pairOf_4 : decode m_M_pairOf.2.1 4 = .ok (.getfield 146, 3) := by decide +kernel
theorem d_M_pairOf_7 : decode m_M_pairOf.2.1 7 = .ok (.if_icmp .ge 51, 3) := by decide +kernel
theorem d_M_pairOf_10 : decode m_M_pairOf.2.1 10 = .ok (.aload_n 0, 1) := by decide +kernel
theorem d_M_pairOf_11 : decode m_M_pairOf.2.1 11 = .ok (.getfield 16, 3) := by decide +kernel
theorem d_M_pairOf_14 : decode m_M_pairOf.2.1 14 = .ok (.iload_n 3, 1) := by decide +kernel
theorem d_M_pairOf_15 : decode m_M_pairOf.2.1 15 = .ok (.iaload, 1) := by decide +kernel
theorem d_M_pairOf_16 : decode m_M_pairOf.2.1 16 = .ok (.iload_n 1, 1) := by decide +kernel
theorem d_M_pairOf_17 : decode m_M_pairOf.2.1 17 = .ok (.if_icmp .ne 13, 3) := by decide +kernel
theorem d_M_pairOf_20 : decode m_M_pairOf.2.1 20 = .ok (.aload_n 0, 1) := by decide +kernel
theorem d_M_pairOf_21 : decode m_M_pairOf.2.1 21 = .ok (.getfield 19, 3) := by decide +kernel
theorem d_M_pairOf_24 : decode m_M_pairOf.2.1 24 = .ok (.iload_n 3, 1) := by decide +kernel
theorem d_M_pairOf_25 : decode m_M_pairOf.2.1 25 = .ok (.iaload, 1) := by decide +kernel
theorem d_M_pairOf_26 : decode m_M_pairOf.2.1 26 = .ok (.iload_n 2, 1) := by decide +kernel
theorem d_M_pairOf_27 : decode m_M_pairOf.2.1 27 = .ok (.if_icmp .eq 23, 3) := by decide +kernel
theorem d_M_pairOf_30 : decode m_M_pairOf.2.1 30 = .ok (.aload_n 0, 1) := by decide +kernel
theorem d_M_pairOf_31 : decode m_M_pairOf.2.1 31 = .ok (.getfield 16, 3) := by decide +kernel
theorem d_M_pairOf_34 : decode m_M_pairOf.2.1 34 = .ok (.iload_n 3, 1) := by decide +kernel
theorem d_M_pairOf_35 : decode m_M_pairOf.2.1 35 = .ok (.iaload, 1) := by decide +kernel
theorem d_M_pairOf_36 : decode m_M_pairOf.2.1 36 = .ok (.iload_n 2, 1) := by decide +kernel
theorem d_M_pairOf_37 : decode m_M_pairOf.2.1 37 = .ok (.if_icmp .ne 15, 3) := by decide +kernel
theorem d_M_pairOf_40 : decode m_M_pairOf.2.1 40 = .ok (.aload_n 0, 1) := by decide +kernel
theorem d_M_pairOf_41 : decode m_M_pairOf.2.1 41 = .ok (.getfield 19, 3) := by decide +kernel
theorem d_M_pairOf_44 : decode m_M_pairOf.2.1 44 = .ok (.iload_n 3, 1) := by decide +kernel
theorem d_M_pairOf_45 : decode m_M_pairOf.2.1 45 = .ok (.iaload, 1) := by decide +kernel
theorem d_M_pairOf_46 : decode m_M_pairOf.2.1 46 = .ok (.iload_n 1, 1) := by decide +kernel
theorem d_M_pairOf_47 : decode m_M_pairOf.2.1 47 = .ok (.if_icmp .ne 5, 3) := by decide +kernel
theorem d_M_pairOf_50 : decode m_M_pairOf.2.1 50 = .ok (.iload_n 3, 1) := by decide +kernel
theorem d_M_pairOf_51 : decode m_M_pairOf.2.1 51 = .ok (.ireturn, 1) := by decide +kernel
theorem d_M_pairOf_52 : decode m_M_pairOf.2.1 52 = .ok (.iinc 3 1, 3) := by decide +kernel
theorem d_M_pairOf_55 : decode m_M_pairOf.2.1 55 = .ok (.goto (-53), 3) := by decide +kernel
theorem d_M_pairOf_58 : decode m_M_pairOf.2.1 58 = .ok (.iconst (-1), 1) := by decide +kernel
theorem d_M_pairOf_59 : decode m_M_pairOf.2.1 59 = .ok (.ireturn, 1) := by decide +kernel
theorem d_M_cost_0 : decode m_M_cost.2.1 0 = .ok (.aload_n 0, 1) := by decide +kernel
theorem d_M_cost_1 : decode m_M_cost.2.1 1 = .ok (.aload_n 0, 1) := by decide +kernel
theorem d_M_cost_2 : decode m_M_cost.2.1 2 = .ok (.iload_n 1, 1) := by decide +kernel
theorem d_M_cost_3 : decode m_M_cost.2.1 3 = .ok (.iload_n 2, 1) := by decide +kernel
theorem d_M_cost_4 : decode m_M_cost.2.1 4 = .ok (.iload_n 3, 1) := by decide +kernel
theorem d_M_cost_5 : decode m_M_cost.2.1 5 = .ok (.iload 4, 2) := by decide +kernel
theorem d_M_cost_7 : decode m_M_cost.2.1 7 = .ok (.iload 5, 2) := by decide +kernel
theorem d_M_cost_9 : decode m_M_cost.2.1 9 = .ok (.invokevirtual 153, 3) := by decide +kernel
theorem d_M_cost_12 : decode m_M_cost.2.1 12 = .ok (.ifCond .ne 7, 3) := by decide +kernel
theorem d_M_cost_15 : decode m_M_cost.2.1 15 = .ok (.iconst 1, 1) := by decide +kernel
theorem d_M_cost_16 : decode m_M_cost.2.1 16 = .ok (.goto 15, 3) := by decide +kernel
theorem d_M_cost_19 : decode m_M_cost.2.1 19 = .ok (.aload_n 0, 1) := by decide +kernel
theorem d_M_cost_20 : decode m_M_cost.2.1 20 = .ok (.getfield 135, 3) := by decide +kernel
theorem d_M_cost_23 : decode m_M_cost.2.1 23 = .ok (.ifCond .eq 7, 3) := by decide +kernel
theorem d_M_cost_26 : decode m_M_cost.2.1 26 = .ok (.iconst 2, 1) := by decide +kernel
theorem d_M_cost_27 : decode m_M_cost.2.1 27 = .ok (.goto 4, 3) := by decide +kernel
theorem d_M_cost_30 : decode m_M_cost.2.1 30 = .ok (.iconst 0, 1) := by decide +kernel
theorem d_M_cost_31 : decode m_M_cost.2.1 31 = .ok (.putfield 116, 3) := by decide +kernel
theorem d_M_cost_34 : decode m_M_cost.2.1 34 = .ok (.aload_n 0, 1) := by decide +kernel
theorem d_M_cost_35 : decode m_M_cost.2.1 35 = .ok (.getfield 116, 3) := by decide +kernel
theorem d_M_cost_38 : decode m_M_cost.2.1 38 = .ok (.ifCond .ne 14, 3) := by decide +kernel
theorem d_M_cost_41 : decode m_M_cost.2.1 41 = .ok (.aload_n 0, 1) := by decide +kernel
theorem d_M_cost_42 : decode m_M_cost.2.1 42 = .ok (.iload_n 1, 1) := by decide +kernel
theorem d_M_cost_43 : decode m_M_cost.2.1 43 = .ok (.iload_n 2, 1) := by decide +kernel
theorem d_M_cost_44 : decode m_M_cost.2.1 44 = .ok (.iload_n 3, 1) := by decide +kernel
theorem d_M_cost_45 : decode m_M_cost.2.1 45 = .ok (.iload 4, 2) := by decide +kernel
theorem d_M_cost_47 : decode m_M_cost.2.1 47 = .ok (.iload 5, 2) := by decide +kernel
theorem d_M_cost_49 : decode m_M_cost.2.1 49 = .ok (.invokevirtual 157, 3) := by decide +kernel
theorem d_M_cost_52 : decode m_M_cost.2.1 52 = .ok (.return_, 1) := by decide +kernel
theorem d_M_isPairCost_0 : decode m_M_isPairCost.2.1 0 = .ok (.aload_n 0, 1) := by decide +kernel
theorem d_M_isPairCost_1 : decode m_M_isPairCost.2.1 1 = .ok (.iload_n 1, 1) := by decide +kernel
theorem d_M_isPairCost_2 : decode m_M_isPairCost.2.1 2 = .ok (.iload_n 2, 1) := by decide +kernel
theorem d_M_isPairCost_3 : decode m_M_isPairCost.2.1 3 = .ok (.invokevirtual 149, 3) := by decide +kernel
theorem d_M_isPairCost_6 : decode m_M_isPairCost.2.1 6 = .ok (.ifCond .lt 34, 3) := by decide +kernel
theorem d_M_isPairCost_9 : decode m_M_isPairCost.2.1 9 = .ok (.aload_n 0, 1) := by decide +kernel
theorem d_M_isPairCost_10 : decode m_M_isPairCost.2.1 10 = .ok (.iload_n 1, 1) := by decide +kernel
theorem d_M_isPairCost_11 : decode m_M_isPairCost.2.1 11 = .ok (.iload_n 3, 1) := by decide +kernel
theorem d_M_isPairCost_12 : decode m_M_isPairCost.2.1 12 = .ok (.invokevirtual 139, 3) := by decide +kernel
theorem d_M_isPairCost_15 : decode m_M_isPairCost.2.1 15 = .ok (.ifCond .eq 25, 3) := by decide +kernel
theorem d_M_isPairCost_18 : decode m_M_isPairCost.2.1 18 = .ok (.aload_n 0, 1) := by decide +kernel
theorem d_M_isPairCost_19 : decode m_M_isPairCost.2.1 19 = .ok (.iload_n 2, 1) := by decide +kernel
theorem d_M_isPairCost_20 : decode m_M_isPairCost.2.1 20 = .ok (.iload 4, 2) := by decide +kernel
theorem d_M_isPairCost_22 : decode m_M_isPairCost.2.1 22 = .ok (.invokevirtual 139, 3) := by decide +kernel
theorem d_M_isPairCost_25 : decode m_M_isPairCost.2.1 25 = .ok (.ifCond .eq 15, 3) := by decide +kernel
theorem d_M_isPairCost_28 : decode m_M_isPairCost.2.1 28 = .ok (.iload 5, 2) := by decide +kernel
theorem d_M_isPairCost_30 : decode m_M_isPairCost.2.1 30 = .ok (.invokestatic 142, 3) := by decide +kernel
theorem d_M_isPairCost_33 : decode m_M_isPairCost.2.1 33 = .ok (.ifCond .eq 7, 3) := by decide +kernel
theorem d_M_isPairCost_36 : decode m_M_isPairCost.2.1 36 = .ok (.iconst 1, 1) := by decide +kernel
theorem d_M_isPairCost_37 : decode m_M_isPairCost.2.1 37 = .ok (.goto 4, 3) := by decide +kernel
theorem d_M_isPairCost_40 : decode m_M_isPairCost.2.1 40 = .ok (.iconst 0, 1) := by decide +kernel
theorem d_M_isPairCost_41 : decode m_M_isPairCost.2.1 41 = .ok (.ireturn, 1) := by decide +kernel
theorem d_M_setCost_0 : decode m_M_setCost.2.1 0 = .ok (.aload_n 0, 1) := by decide +kernel
theorem d_M_setCost_1 : decode m_M_setCost.2.1 1 = .ok (.iload_n 1, 1) := by decide +kernel
theorem d_M_setCost_2 : decode m_M_setCost.2.1 2 = .ok (.iload_n 2, 1) := by decide +kernel
theorem d_M_setCost_3 : decode m_M_setCost.2.1 3 = .ok (.invokevirtual 149, 3) := by decide +kernel
theorem d_M_setCost_6 : decode m_M_setCost.2.1 6 = .ok (.istore 6, 2) := by decide +kernel
theorem d_M_setCost_8 : decode m_M_setCost.2.1 8 = .ok (.aload_n 0, 1) := by decide +kernel
theorem d_M_setCost_9 : decode m_M_setCost.2.1 9 = .ok (.getfield 16, 3) := by decide +kernel
theorem d_M_setCost_12 : decode m_M_setCost.2.1 12 = .ok (.iload 6, 2) := by decide +kernel
theorem d_M_setCost_14 : decode m_M_setCost.2.1 14 = .ok (.iaload, 1) := by decide +kernel
theorem d_M_setCost_15 : decode m_M_setCost.2.1 15 = .ok (.iload_n 1, 1) := by decide +kernel
theorem d_M_setCost_16 : decode m_M_setCost.2.1 16 = .ok (.if_icmp .ne 12, 3) := by decide +kernel
theorem d_M_setCost_19 : decode m_M_setCost.2.1 19 = .ok (.iconst 4, 1) := by decide +kernel
theorem d_M_setCost_20 : decode m_M_setCost.2.1 20 = .ok (.iload_n 3, 1) := by decide +kernel
theorem d_M_setCost_21 : decode m_M_setCost.2.1 21 = .ok (.imul, 1) := by decide +kernel
theorem d_M_setCost_22 : decode m_M_setCost.2.1 22 = .ok (.iload 4, 2) := by decide +kernel
theorem d_M_setCost_24 : decode m_M_setCost.2.1 24 = .ok (.iadd, 1) := by decide +kernel
theorem d_M_setCost_25 : decode m_M_setCost.2.1 25 = .ok (.goto 9, 3) := by decide +kernel
theorem d_M_setCost_28 : decode m_M_setCost.2.1 28 = .ok (.iconst 4, 1) := by decide +kernel
theorem d_M_setCost_29 : decode m_M_setCost.2.1 29 = .ok (.iload 4, 2) := by decide +kernel
theorem d_M_setCost_31 : decode m_M_setCost.2.1 31 = .ok (.imul, 1) := by decide +kernel
theorem d_M_setCost_32 : decode m_M_setCost.2.1 32 = .ok (.iload_n 3, 1) := by decide +kernel
theorem d_M_setCost_33 : decode m_M_setCost.2.1 33 = .ok (.iadd, 1) := by decide +kernel
theorem d_M_setCost_34 : decode m_M_setCost.2.1 34 = .ok (.istore 7, 2) := by decide +kernel
theorem d_M_setCost_36 : decode m_M_setCost.2.1 36 = .ok (.aload_n 0, 1) := by decide +kernel
theorem d_M_setCost_37 : decode m_M_setCost.2.1 37 = .ok (.getfield 22, 3) := by decide +kernel
theorem d_M_setCost_40 : decode m_M_setCost.2.1 40 = .ok (.bipush 16, 2) := by decide +kernel
theorem d_M_setCost_42 : decode m_M_setCost.2.1 42 = .ok (.iload 6, 2) := by decide +kernel
theorem d_M_setCost_44 : decode m_M_setCost.2.1 44 = .ok (.imul, 1) := by decide +kernel
theorem d_M_setCost_45 : decode m_M_setCost.2.1 45 = .ok (.iload 7, 2) := by decide +kernel
theorem d_M_setCost_47 : decode m_M_setCost.2.1 47 = .ok (.iadd, 1) := by decide +kernel
theorem d_M_setCost_48 : decode m_M_setCost.2.1 48 = .ok (.iload 5, 2) := by decide +kernel
theorem d_M_setCost_50 : decode m_M_setCost.2.1 50 = .ok (.bipush (-2), 2) := by decide +kernel
theorem d_M_setCost_52 : decode m_M_setCost.2.1 52 = .ok (.if_icmp .ne 8, 3) := by decide +kernel
theorem d_M_setCost_55 : decode m_M_setCost.2.1 55 = .ok (.ldc 145, 2) := by decide +kernel
theorem d_M_setCost_57 : decode m_M_setCost.2.1 57 = .ok (.goto 5, 3) := by decide +kernel
theorem d_M_setCost_60 : decode m_M_setCost.2.1 60 = .ok (.iload 5, 2) := by decide +kernel
theorem d_M_setCost_62 : decode m_M_setCost.2.1 62 = .ok (.iastore, 1) := by decide +kernel
theorem d_M_setCost_63 : decode m_M_setCost.2.1 63 = .ok (.return_, 1) := by decide +kernel
theorem d_M_start_0 : decode m_M_start.2.1 0 = .ok (.aload_n 0, 1) := by decide +kernel
theorem d_M_start_1 : decode m_M_start.2.1 1 = .ok (.aload_n 0, 1) := by decide +kernel
theorem d_M_start_2 : decode m_M_start.2.1 2 = .ok (.getfield 135, 3) := by decide +kernel
theorem d_M_start_5 : decode m_M_start.2.1 5 = .ok (.ifCond .ne 10, 3) := by decide +kernel
theorem d_M_start_8 : decode m_M_start.2.1 8 = .ok (.aload_n 0, 1) := by decide +kernel
theorem d_M_start_9 : decode m_M_start.2.1 9 = .ok (.getfield 124, 3) := by decide +kernel
theorem d_M_start_12 : decode m_M_start.2.1 12 = .ok (.ifCond .ne 7, 3) := by decide +kernel
theorem d_M_start_15 : decode m_M_start.2.1 15 = .ok (.iconst 1, 1) := by decide +kernel
theorem d_M_start_16 : decode m_M_start.2.1 16 = .ok (.goto 4, 3) := by decide +kernel
theorem d_M_start_19 : decode m_M_start.2.1 19 = .ok (.iconst 0, 1) := by decide +kernel
theorem d_M_start_20 : decode m_M_start.2.1 20 = .ok (.putfield 116, 3) := by decide +kernel
theorem d_M_start_23 : decode m_M_start.2.1 23 = .ok (.aload_n 0, 1) := by decide +kernel
theorem d_M_start_24 : decode m_M_start.2.1 24 = .ok (.getfield 116, 3) := by decide +kernel
theorem d_M_start_27 : decode m_M_start.2.1 27 = .ok (.ifCond .le 5, 3) := by decide +kernel
theorem d_M_start_30 : decode m_M_start.2.1 30 = .ok (.iconst 0, 1) := by decide +kernel
theorem d_M_start_31 : decode m_M_start.2.1 31 = .ok (.ireturn, 1) := by decide +kernel
theorem d_M_start_32 : decode m_M_start.2.1 32 = .ok (.aload_n 0, 1) := by decide +kernel
theorem d_M_start_33 : decode m_M_start.2.1 33 = .ok (.iconst 1, 1) := by decide +kernel
theorem d_M_start_34 : decode m_M_start.2.1 34 = .ok (.putfield 135, 3) := by decide +kernel
theorem d_M_start_37 : decode m_M_start.2.1 37 = .ok (.iconst 0, 1) := by decide +kernel
theorem d_M_start_38 : decode m_M_start.2.1 38 = .ok (.istore_n 1, 1) := by decide +kernel
theorem d_M_start_39 : decode m_M_start.2.1 39 = .ok (.iconst 0, 1) := by decide +kernel
theorem d_M_start_40 : decode m_M_start.2.1 40 = .ok (.istore_n 2, 1) := by decide +kernel
theorem d_M_start_41 : decode m_M_start.2.1 41 = .ok (.iload_n 2, 1) := by decide +kernel
theorem d_M_start_42 : decode m_M_start.2.1 42 = .ok (.aload_n 0, 1) := by decide +kernel
theorem d_M_start_43 : decode m_M_start.2.1 43 = .ok (.getfield 124, 3) := by decide +kernel
theorem d_M_start_46 : decode m_M_start.2.1 46 = .ok (.if_icmp .ge 26, 3) := by decide +kernel
theorem d_M_start_49 : decode m_M_start.2.1 49 = .ok (.aload_n 0, 1) := by decide +kernel
theorem d_M_start_50 : decode m_M_start.2.1 50 = .ok (.getfield 28, 3) := by decide +kernel
theorem d_M_start_53 : decode m_M_start.2.1 53 = .ok (.iload_n 2, 1) := by decide +kernel
theorem d_M_start_54 : decode m_M_start.2.1 54 = .ok (.iaload, 1) := by decide +kernel
theorem d_M_start_55 : decode m_M_start.2.1 55 = .ok (.ifCond .ge 11, 3) := by decide +kernel
theorem d_M_start_58 : decode m_M_start.2.1 58 = .ok (.aload_n 0, 1) := by decide +kernel
theorem d_M_start_59 : decode m_M_start.2.1 59 = .ok (.iload_n 2, 1) := by decide +kernel
theorem d_M_start_60 : decode m_M_start.2.1 60 = .ok (.invokevirtual 168, 3) := by decide +kernel
theorem d_M_start_63 : decode m_M_start.2.1 63 = .ok (.iinc 1 1, 3) := by decide +kernel
theorem d_M_start_66 : decode m_M_start.2.1 66 = .ok (.iinc 2 1, 3) := by decide +kernel
theorem d_M_start_69 : decode m_M_start.2.1 69 = .ok (.goto (-28), 3) := by decide +kernel
theorem d_M_start_72 : decode m_M_start.2.1 72 = .ok (.iconst 0, 1) := by decide +kernel
theorem d_M_start_73 : decode m_M_start.2.1 73 = .ok (.istore_n 2, 1) := by decide +kernel
theorem d_M_start_74 : decode m_M_start.2.1 74 = .ok (.iload_n 2, 1) := by decide +kernel
theorem d_M_start_75 : decode m_M_start.2.1 75 = .ok (.aload_n 0, 1) := by decide +kernel
theorem d_M_start_76 : decode m_M_start.2.1 76 = .ok (.getfield 124, 3) := by decide +kernel
theorem d_M_start_79 : decode m_M_start.2.1 79 = .ok (.if_icmp .ge 31, 3) := by decide +kernel
theorem d_M_start_82 : decode m_M_start.2.1 82 = .ok (.aload_n 0, 1) := by decide +kernel
theorem d_M_start_83 : decode m_M_start.2.1 83 = .ok (.getfield 31, 3) := by decide +kernel
theorem d_M_start_86 : decode m_M_start.2.1 86 = .ok (.aload_n 0, 1) := by decide +kernel
theorem d_M_start_87 : decode m_M_start.2.1 87 = .ok (.getfield 28, 3) := by decide +kernel
theorem d_M_start_90 : decode m_M_start.2.1 90 = .ok (.iload_n 2, 1) := by decide +kernel
theorem d_M_start_91 : decode m_M_start.2.1 91 = .ok (.iaload, 1) := by decide +kernel
theorem d_M_start_92 : decode m_M_start.2.1 92 = .ok (.iaload, 1) := by decide +kernel
theorem d_M_start_93 : decode m_M_start.2.1 93 = .ok (.iload_n 2, 1) := by decide +kernel
theorem d_M_start_94 : decode m_M_start.2.1 94 = .ok (.if_icmp .ne 10, 3) := by decide +kernel
theorem d_M_start_97 : decode m_M_start.2.1 97 = .ok (.aload_n 0, 1) := by decide +kernel
theorem d_M_start_98 : decode m_M_start.2.1 98 = .ok (.iload_n 2, 1) := by decide +kernel
theorem d_M_start_99 : decode m_M_start.2.1 99 = .ok (.iconst (-1), 1) := by decide +kernel
theorem d_M_start_100 : decode m_M_start.2.1 100 = .ok (.iconst 0, 1) := by decide +kernel
theorem d_M_start_101 : decode m_M_start.2.1 101 = .ok (.invokevirtual 172, 3) := by decide +kernel
theorem d_M_start_104 : decode m_M_start.2.1 104 = .ok (.iinc 2 1, 3) := by decide +kernel
theorem d_M_start_107 : decode m_M_start.2.1 107 = .ok (.goto (-33), 3) := by decide +kernel
theorem d_M_start_110 : decode m_M_start.2.1 110 = .ok (.iload_n 1, 1) := by decide +kernel
theorem d_M_start_111 : decode m_M_start.2.1 111 = .ok (.ireturn, 1) := by decide +kernel
theorem d_M_findPart_0 : decode m_M_findPart.2.1 0 = .ok (.iconst 1, 1) := by decide +kernel
theorem d_M_findPart_1 : decode m_M_findPart.2.1 1 = .ok (.iload_n 1, 1) := by decide +kernel
theorem d_M_findPart_2 : decode m_M_findPart.2.1 2 = .ok (.ishl, 1) := by decide +kernel
theorem d_M_findPart_3 : decode m_M_findPart.2.1 3 = .ok (.istore_n 2, 1) := by decide +kernel
theorem d_M_findPart_4 : decode m_M_findPart.2.1 4 = .ok (.iconst 0, 1) := by decide +kernel
theorem d_M_findPart_5 : decode m_M_findPart.2.1 5 = .ok (.istore_n 3, 1) := by decide +kernel
theorem d_M_findPart_6 : decode m_M_findPart.2.1 6 = .ok (.iload_n 3, 1) := by decide +kernel
theorem d_M_findPart_7 : decode m_M_findPart.2.1 7 = .ok (.iload_n 2, 1) := by decide +kernel
theorem d_M_findPart_8 : decode m_M_findPart.2.1 8 = .ok (.if_icmp .eq 49, 3) := by decide +kernel
theorem d_M_findPart_11 : decode m_M_findPart.2.1 11 = .ok (.iload_n 2, 1) := by decide +kernel
theorem d_M_findPart_12 : decode m_M_findPart.2.1 12 = .ok (.istore_n 3, 1) := by decide +kernel
theorem d_M_findPart_13 : decode m_M_findPart.2.1 13 = .ok (.iconst 0, 1) := by decide +kernel
theorem d_M_findPart_14 : decode m_M_findPart.2.1 14 = .ok (.istore 4, 2) := by decide +kernel
theorem d_M_findPart_16 : decode m_M_findPart.2.1 16 = .ok (.iload 4, 2) := by decide +kernel
theorem d_M_findPart_18 : decode m_M_findPart.2.1 18 = .ok (.aload_n 0, 1) := by decide +kernel
theorem d_M_findPart_19 : decode m_M_findPart.2.1 19 = .ok (.getfield 124, 3) := by decide +kernel
theorem d_M_findPart_22 : decode m_M_findPart.2.1 22 = .ok (.if_icmp .ge 32, 3) := by decide +kernel
theorem d_M_findPart_25 : decode m_M_findPart.2.1 25 = .ok (.iload_n 2, 1) := by decide +kernel
theorem d_M_findPart_26 : decode m_M_findPart.2.1 26 = .ok (.iload 4, 2) := by decide +kernel
theorem d_M_findPart_28 : decode m_M_findPart.2.1 28 = .ok (.invokestatic 120, 3) := by decide +kernel
theorem d_M_findPart_31 : decode m_M_findPart.2.1 31 = .ok (.ifCond .eq 15, 3) := by decide +kernel
theorem d_M_findPart_34 : decode m_M_findPart.2.1 34 = .ok (.iload_n 2, 1) := by decide +kernel
theorem d_M_findPart_35 : decode m_M_findPart.2.1 35 = .ok (.aload_n 0, 1) := by decide +kernel
theorem d_M_findPart_36 : decode m_M_findPart.2.1 36 = .ok (.getfield 25, 3) := by decide +kernel
theorem d_M_findPart_39 : decode m_M_findPart.2.1 39 = .ok (.iload 4, 2) := by decide +kernel
theorem d_M_findPart_41 : decode m_M_findPart.2.1 41 = .ok (.iaload, 1) := by decide +kernel
theorem d_M_findPart_42 : decode m_M_findPart.2.1 42 = .ok (.ior, 1) := by decide +kernel
theorem d_M_findPart_43 : decode m_M_findPart.2.1 43 = .ok (.goto 4, 3) := by decide +kernel
theorem d_M_findPart_46 : decode m_M_findPart.2.1 46 = .ok (.iload_n 2, 1) := by decide +kernel
theorem d_M_findPart_47 : decode m_M_findPart.2.1 47 = .ok (.istore_n 2, 1) := by decide +kernel
theorem d_M_findPart_48 : decode m_M_findPart.2.1 48 = .ok (.iinc 4 1, 3) := by decide +kernel
theorem d_M_findPart_51 : decode m_M_findPart.2.1 51 = .ok (.goto (-35), 3) := by decide +kernel
theorem d_M_findPart_54 : decode m_M_findPart.2.1 54 = .ok (.goto (-48), 3) := by decide +kernel
theorem d_M_findPart_57 : decode m_M_findPart.2.1 57 = .ok (.aload_n 0, 1) := by decide +kernel
theorem d_M_findPart_58 : decode m_M_findPart.2.1 58 = .ok (.getfield 31, 3) := by decide +kernel
theorem d_M_findPart_61 : decode m_M_findPart.2.1 61 = .ok (.iload_n 1, 1) := by decide +kernel
theorem d_M_findPart_62 : decode m_M_findPart.2.1 62 = .ok (.iconst (-1), 1) := by decide +kernel
theorem d_M_findPart_63 : decode m_M_findPart.2.1 63 = .ok (.iastore, 1) := by decide +kernel
theorem d_M_findPart_64 : decode m_M_findPart.2.1 64 = .ok (.aload_n 0, 1) := by decide +kernel
theorem d_M_findPart_65 : decode m_M_findPart.2.1 65 = .ok (.getfield 34, 3) := by decide +kernel
theorem d_M_findPart_68 : decode m_M_findPart.2.1 68 = .ok (.iload_n 1, 1) := by decide +kernel
theorem d_M_findPart_69 : decode m_M_findPart.2.1 69 = .ok (.iconst 1, 1) := by decide +kernel
theorem d_M_findPart_70 : decode m_M_findPart.2.1 70 = .ok (.iastore, 1) := by decide +kernel
theorem d_M_findPart_71 : decode m_M_findPart.2.1 71 = .ok (.iconst 0, 1) := by decide +kernel
theorem d_M_findPart_72 : decode m_M_findPart.2.1 72 = .ok (.istore 4, 2) := by decide +kernel
theorem d_M_findPart_74 : decode m_M_findPart.2.1 74 = .ok (.iload 4, 2) := by decide +kernel
theorem d_M_findPart_76 : decode m_M_findPart.2.1 76 = .ok (.aload_n 0, 1) := by decide +kernel
theorem d_M_findPart_77 : decode m_M_findPart.2.1 77 = .ok (.getfield 124, 3) := by decide +kernel
theorem d_M_findPart_80 : decode m_M_findPart.2.1 80 = .ok (.if_icmp .ge 58, 3) := by decide +kernel
theorem d_M_findPart_83 : decode m_M_findPart.2.1 83 = .ok (.iload_n 2, 1) := by decide +kernel
theorem d_M_findPart_84 : decode m_M_findPart.2.1 84 = .ok (.iload 4, 2) := by decide +kernel
theorem d_M_findPart_86 : decode m_M_findPart.2.1 86 = .ok (.invokestatic 120, 3) := by decide +kernel
theorem d_M_findPart_89 : decode m_M_findPart.2.1 89 = .ok (.ifCond .eq 43, 3) := by decide +kernel
theorem d_M_findPart_92 : decode m_M_findPart.2.1 92 = .ok (.aload_n 0, 1) := by decide +kernel
theorem d_M_findPart_93 : decode m_M_findPart.2.1 93 = .ok (.getfield 28, 3) := by decide +kernel
theorem d_M_findPart_96 : decode m_M_findPart.2.1 96 = .ok (.iload 4, 2) := by decide +kernel
theorem d_M_findPart_98 : decode m_M_findPart.2.1 98 = .ok (.iload_n 1, 1) := by decide +kernel
theorem d_M_findPart_99 : decode m_M_findPart.2.1 99 = .ok (.iastore, 1) := by decide +kernel
theorem d_M_findPart_100 : decode m_M_findPart.2.1 100 = .ok (.aload_n 0, 1) := by decide +kernel
theorem d_M_findPart_101 : decode m_M_findPart.2.1 101 = .ok (.getfield 31, 3) := by decide +kernel
theorem d_M_findPart_104 : decode m_M_findPart.2.1 104 = .ok (.iload_n 1, 1) := by decide +kernel
theorem d_M_findPart_105 : decode m_M_findPart.2.1 105 = .ok (.aload_n 0, 1) := by decide +kernel
theorem d_M_findPart_106 : decode m_M_findPart.2.1 106 = .ok (.iload 4, 2) := by decide +kernel
theorem d_M_findPart_108 : decode m_M_findPart.2.1 108 = .ok (.aload_n 0, 1) := by decide +kernel
theorem d_M_findPart_109 : decode m_M_findPart.2.1 109 = .ok (.getfield 31, 3) := by decide +kernel
theorem d_M_findPart_112 : decode m_M_findPart.2.1 112 = .ok (.iload_n 1, 1) := by decide +kernel
theorem d_M_findPart_113 : decode m_M_findPart.2.1 113 = .ok (.iaload, 1) := by decide +kernel
theorem d_M_findPart_114 : decode m_M_findPart.2.1 114 = .ok (.invokevirtual 165, 3) := by decide +kernel
theorem d_M_findPart_117 : decode m_M_findPart.2.1 117 = .ok (.ifCond .eq 8, 3) := by decide +kernel
theorem d_M_findPart_120 : decode m_M_findPart.2.1 120 = .ok (.iload 4, 2) := by decide +kernel
theorem d_M_findPart_122 : decode m_M_findPart.2.1 122 = .ok (.goto 9, 3) := by decide +kernel
theorem d_M_findPart_125 : decode m_M_findPart.2.1 125 = .ok (.aload_n 0, 1) := by decide +kernel
theorem d_M_findPart_126 : decode m_M_findPart.2.1 126 = .ok (.getfield 31, 3) := by decide +kernel
theorem d_M_findPart_129 : decode m_M_findPart.2.1 129 = .ok (.iload_n 1, 1) := by decide +kernel
theorem d_M_findPart_130 : decode m_M_findPart.2.1 130 = .ok (.iaload, 1) := by decide +kernel
theorem d_M_findPart_131 : decode m_M_findPart.2.1 131 = .ok (.iastore, 1) := by decide +kernel
theorem d_M_findPart_132 : decode m_M_findPart.2.1 132 = .ok (.iinc 4 1, 3) := by decide +kernel
theorem d_M_findPart_135 : decode m_M_findPart.2.1 135 = .ok (.goto (-61), 3) := by decide +kernel
theorem d_M_findPart_138 : decode m_M_findPart.2.1 138 = .ok (.return_, 1) := by decide +kernel
theorem d_M_has_0 : decode m_M_has.2.1 0 = .ok (.iload_n 0, 1) := by decide +kernel
theorem d_M_has_1 : decode m_M_has.2.1 1 = .ok (.iload_n 1, 1) := by decide +kernel
theorem d_M_has_2 : decode m_M_has.2.1 2 = .ok (.ishr, 1) := by decide +kernel
theorem d_M_has_3 : decode m_M_has.2.1 3 = .ok (.iconst 1, 1) := by decide +kernel
theorem d_M_has_4 : decode m_M_has.2.1 4 = .ok (.iand, 1) := by decide +kernel
theorem d_M_has_5 : decode m_M_has.2.1 5 = .ok (.iconst 1, 1) := by decide +kernel
theorem d_M_has_6 : decode m_M_has.2.1 6 = .ok (.if_icmp .ne 7, 3) := by decide +kernel
theorem d_M_has_9 : decode m_M_has.2.1 9 = .ok (.iconst 1, 1) := by decide +kernel
theorem d_M_has_10 : decode m_M_has.2.1 10 = .ok (.goto 4, 3) := by decide +kernel
theorem d_M_has_13 : decode m_M_has.2.1 13 = .ok (.iconst 0, 1) := by decide +kernel
theorem d_M_has_14 : decode m_M_has.2.1 14 = .ok (.ireturn, 1) := by decide +kernel
theorem d_M_goesBefore_0 : decode m_M_goesBefore.2.1 0 = .ok (.iload_n 2, 1) := by decide +kernel
theorem d_M_goesBefore_1 : decode m_M_goesBefore.2.1 1 = .ok (.ifCond .ge 5, 3) := by decide +kernel
theorem d_M_goesBefore_4 : decode m_M_goesBefore.2.1 4 = .ok (.iconst 1, 1) := by decide +kernel
theorem d_M_goesBefore_5 : decode m_M_goesBefore.2.1 5 = .ok (.ireturn, 1) := by decide +kernel
theorem d_M_goesBefore_6 : decode m_M_goesBefore.2.1 6 = .ok (.aload_n 0, 1) := by decide +kernel
theorem d_M_goesBefore_7 : decode m_M_goesBefore.2.1 7 = .ok (.getfield 25, 3) := by decide +kernel
theorem d_M_goesBefore_10 : decode m_M_goesBefore.2.1 10 = .ok (.iload_n 1, 1) := by decide +kernel
theorem d_M_goesBefore_11 : decode m_M_goesBefore.2.1 11 = .ok (.iaload, 1) := by decide +kernel
theorem d_M_goesBefore_12 : decode m_M_goesBefore.2.1 12 = .ok (.invokestatic 161, 3) := by decide +kernel
theorem d_M_goesBefore_15 : decode m_M_goesBefore.2.1 15 = .ok (.istore_n 3, 1) := by decide +kernel
theorem d_M_goesBefore_16 : decode m_M_goesBefore.2.1 16 = .ok (.aload_n 0, 1) := by decide +kernel
theorem d_M_goesBefore_17 : decode m_M_goesBefore.2.1 17 = .ok (.getfield 25, 3) := by decide +kernel
theorem d_M_goesBefore_20 : decode m_M_goesBefore.2.1 20 = .ok (.iload_n 2, 1) := by decide +kernel
theorem d_M_goesBefore_21 : decode m_M_goesBefore.2.1 21 = .ok (.iaload, 1) := by decide +kernel
theorem d_M_goesBefore_22 : decode m_M_goesBefore.2.1 22 = .ok (.invokestatic 161, 3) := by decide +kernel
theorem d_M_goesBefore_25 : decode m_M_goesBefore.2.1 25 = .ok (.istore 4, 2) := by decide +kernel
theorem d_M_goesBefore_27 : decode m_M_goesBefore.2.1 27 = .ok (.iload_n 3, 1) := by decide +kernel
theorem d_M_goesBefore_28 : decode m_M_goesBefore.2.1 28 = .ok (.iload 4, 2) := by decide +kernel
theorem d_M_goesBefore_30 : decode m_M_goesBefore.2.1 30 = .ok (.if_icmp .gt 14, 3) := by decide +kernel
theorem d_M_goesBefore_33 : decode m_M_goesBefore.2.1 33 = .ok (.iload_n 3, 1) := by decide +kernel
theorem d_M_goesBefore_34 : decode m_M_goesBefore.2.1 34 = .ok (.iload 4, 2) := by decide +kernel
theorem d_M_goesBefore_36 : decode m_M_goesBefore.2.1 36 = .ok (.if_icmp .ne 12, 3) := by decide +kernel
theorem d_M_goesBefore_39 : decode m_M_goesBefore.2.1 39 = .ok (.iload_n 1, 1) := by decide +kernel
theorem d_M_goesBefore_40 : decode m_M_goesBefore.2.1 40 = .ok (.iload_n 2, 1) := by decide +kernel
theorem d_M_goesBefore_41 : decode m_M_goesBefore.2.1 41 = .ok (.if_icmp .ge 7, 3) := by decide +kernel
theorem d_M_goesBefore_44 : decode m_M_goesBefore.2.1 44 = .ok (.iconst 1, 1) := by decide +kernel
theorem d_M_goesBefore_45 : decode m_M_goesBefore.2.1 45 = .ok (.goto 4, 3) := by decide +kernel
theorem d_M_goesBefore_48 : decode m_M_goesBefore.2.1 48 = .ok (.iconst 0, 1) := by decide +kernel
theorem d_M_goesBefore_49 : decode m_M_goesBefore.2.1 49 = .ok (.ireturn, 1) := by decide +kernel
theorem d_M_bits_0 : decode m_M_bits.2.1 0 = .ok (.iconst 0, 1) := by decide +kernel
theorem d_M_bits_1 : decode m_M_bits.2.1 1 = .ok (.istore_n 1, 1) := by decide +kernel
theorem d_M_bits_2 : decode m_M_bits.2.1 2 = .ok (.iconst 0, 1) := by decide +kernel
theorem d_M_bits_3 : decode m_M_bits.2.1 3 = .ok (.istore_n 2, 1) := by decide +kernel
theorem d_M_bits_4 : decode m_M_bits.2.1 4 = .ok (.iload_n 2, 1) := by decide +kernel
theorem d_M_bits_5 : decode m_M_bits.2.1 5 = .ok (.bipush 8, 2) := by decide +kernel
theorem d_M_bits_7 : decode m_M_bits.2.1 7 = .ok (.if_icmp .ge 25, 3) := by decide +kernel
theorem d_M_bits_10 : decode m_M_bits.2.1 10 = .ok (.iload_n 0, 1) := by decide +kernel
theorem d_M_bits_11 : decode m_M_bits.2.1 11 = .ok (.iload_n 2, 1) := by decide +kernel
theorem d_M_bits_12 : decode m_M_bits.2.1 12 = .ok (.invokestatic 120, 3) := by decide +kernel
theorem d_M_bits_15 : decode m_M_bits.2.1 15 = .ok (.ifCond .eq 9, 3) := by decide +kernel
theorem d_M_bits_18 : decode m_M_bits.2.1 18 = .ok (.iload_n 1, 1) := by decide +kernel
theorem d_M_bits_19 : decode m_M_bits.2.1 19 = .ok (.iconst 1, 1) := by decide +kernel
theorem d_M_bits_20 : decode m_M_bits.2.1 20 = .ok (.iadd, 1) := by decide +kernel
theorem d_M_bits_21 : decode m_M_bits.2.1 21 = .ok (.goto 4, 3) := by decide +kernel
theorem d_M_bits_24 : decode m_M_bits.2.1 24 = .ok (.iload_n 1, 1) := by decide +kernel
theorem d_M_bits_25 : decode m_M_bits.2.1 25 = .ok (.istore_n 1, 1) := by decide +kernel
theorem d_M_bits_26 : decode m_M_bits.2.1 26 = .ok (.iinc 2 1, 3) := by decide +kernel
theorem d_M_bits_29 : decode m_M_bits.2.1 29 = .ok (.goto (-25), 3) := by decide +kernel
theorem d_M_bits_32 : decode m_M_bits.2.1 32 = .ok (.iload_n 1, 1) := by decide +kernel
theorem d_M_bits_33 : decode m_M_bits.2.1 33 = .ok (.ireturn, 1) := by decide +kernel
theorem d_M_receiveToken_0 : decode m_M_receiveToken.2.1 0 = .ok (.aload_n 0, 1) := by decide +kernel
theorem d_M_receiveToken_1 : decode m_M_receiveToken.2.1 1 = .ok (.getfield 37, 3) := by decide +kernel
theorem d_M_receiveToken_4 : decode m_M_receiveToken.2.1 4 = .ok (.iload_n 1, 1) := by decide +kernel
theorem d_M_receiveToken_5 : decode m_M_receiveToken.2.1 5 = .ok (.iconst 1, 1) := by decide +kernel
theorem d_M_receiveToken_6 : decode m_M_receiveToken.2.1 6 = .ok (.bastore, 1) := by decide +kernel
theorem d_M_receiveToken_7 : decode m_M_receiveToken.2.1 7 = .ok (.aload_n 0, 1) := by decide +kernel
theorem d_M_receiveToken_8 : decode m_M_receiveToken.2.1 8 = .ok (.getfield 47, 3) := by decide +kernel
theorem d_M_receiveToken_11 : decode m_M_receiveToken.2.1 11 = .ok (.iload_n 1, 1) := by decide +kernel
theorem d_M_receiveToken_12 : decode m_M_receiveToken.2.1 12 = .ok (.iload_n 2, 1) := by decide +kernel
theorem d_M_receiveToken_13 : decode m_M_receiveToken.2.1 13 = .ok (.iastore, 1) := by decide +kernel
theorem d_M_receiveToken_14 : decode m_M_receiveToken.2.1 14 = .ok (.aload_n 0, 1) := by decide +kernel
theorem d_M_receiveToken_15 : decode m_M_receiveToken.2.1 15 = .ok (.getfield 50, 3) := by decide +kernel
theorem d_M_receiveToken_18 : decode m_M_receiveToken.2.1 18 = .ok (.iload_n 1, 1) := by decide +kernel
theorem d_M_receiveToken_19 : decode m_M_receiveToken.2.1 19 = .ok (.aload_n 0, 1) := by decide +kernel
theorem d_M_receiveToken_20 : decode m_M_receiveToken.2.1 20 = .ok (.getfield 25, 3) := by decide +kernel
theorem d_M_receiveToken_23 : decode m_M_receiveToken.2.1 23 = .ok (.iload_n 1, 1) := by decide +kernel
theorem d_M_receiveToken_24 : decode m_M_receiveToken.2.1 24 = .ok (.iaload, 1) := by decide +kernel
theorem d_M_receiveToken_25 : decode m_M_receiveToken.2.1 25 = .ok (.iload_n 3, 1) := by decide +kernel
theorem d_M_receiveToken_26 : decode m_M_receiveToken.2.1 26 = .ok (.iand, 1) := by decide +kernel
theorem d_M_receiveToken_27 : decode m_M_receiveToken.2.1 27 = .ok (.iastore, 1) := by decide +kernel
theorem d_M_receiveToken_28 : decode m_M_receiveToken.2.1 28 = .ok (.aload_n 0, 1) := by decide +kernel
theorem d_M_receiveToken_29 : decode m_M_receiveToken.2.1 29 = .ok (.getfield 53, 3) := by decide +kernel
theorem d_M_receiveToken_32 : decode m_M_receiveToken.2.1 32 = .ok (.iload_n 1, 1) := by decide +kernel
theorem d_M_receiveToken_33 : decode m_M_receiveToken.2.1 33 = .ok (.iload_n 3, 1) := by decide +kernel
theorem d_M_receiveToken_34 : decode m_M_receiveToken.2.1 34 = .ok (.iconst 1, 1) := by decide +kernel
theorem d_M_receiveToken_35 : decode m_M_receiveToken.2.1 35 = .ok (.iload_n 1, 1) := by decide +kernel
theorem d_M_receiveToken_36 : decode m_M_receiveToken.2.1 36 = .ok (.ishl, 1) := by decide +kernel
theorem d_M_receiveToken_37 : decode m_M_receiveToken.2.1 37 = .ok (.ior, 1) := by decide +kernel
theorem d_M_receiveToken_38 : decode m_M_receiveToken.2.1 38 = .ok (.iastore, 1) := by decide +kernel
theorem d_M_receiveToken_39 : decode m_M_receiveToken.2.1 39 = .ok (.aload_n 0, 1) := by decide +kernel
theorem d_M_receiveToken_40 : decode m_M_receiveToken.2.1 40 = .ok (.iload_n 1, 1) := by decide +kernel
theorem d_M_receiveToken_41 : decode m_M_receiveToken.2.1 41 = .ok (.invokevirtual 183, 3) := by decide +kernel
theorem d_M_receiveToken_44 : decode m_M_receiveToken.2.1 44 = .ok (.return_, 1) := by decide +kernel

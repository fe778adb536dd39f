/-! DECODED: written by wip/whole/gen/dec.py -/
theorem d_B_init_0 : decode m_B_init.2.1 0 = .ok (.aload_n 0, 1) := by decide +kernel
theorem d_B_init_1 : decode m_B_init.2.1 1 = .ok (.invokespecial 1, 3) := by decide +kernel
theorem d_B_init_4 : decode m_B_init.2.1 4 = .ok (.aload_n 0, 1) := by decide +kernel
theorem d_B_init_5 : decode m_B_init.2.1 5 = .ok (.bipush 8, 2) := by decide +kernel
theorem d_B_init_7 : decode m_B_init.2.1 7 = .ok (.anewarray 9, 3) := by decide +kernel
theorem d_B_init_10 : decode m_B_init.2.1 10 = .ok (.putfield 11, 3) := by decide +kernel
theorem d_B_init_13 : decode m_B_init.2.1 13 = .ok (.aload_n 0, 1) := by decide +kernel
theorem d_B_init_14 : decode m_B_init.2.1 14 = .ok (.bipush 12, 2) := by decide +kernel
theorem d_B_init_16 : decode m_B_init.2.1 16 = .ok (.anewarray 15, 3) := by decide +kernel
theorem d_B_init_19 : decode m_B_init.2.1 19 = .ok (.putfield 17, 3) := by decide +kernel
theorem d_B_init_22 : decode m_B_init.2.1 22 = .ok (.aload_n 0, 1) := by decide +kernel
theorem d_B_init_23 : decode m_B_init.2.1 23 = .ok (.bipush 20, 2) := by decide +kernel
theorem d_B_init_25 : decode m_B_init.2.1 25 = .ok (.anewarray 21, 3) := by decide +kernel
theorem d_B_init_28 : decode m_B_init.2.1 28 = .ok (.putfield 23, 3) := by decide +kernel
theorem d_B_init_31 : decode m_B_init.2.1 31 = .ok (.aload_n 0, 1) := by decide +kernel
theorem d_B_init_32 : decode m_B_init.2.1 32 = .ok (.bipush 8, 2) := by decide +kernel
theorem d_B_init_34 : decode m_B_init.2.1 34 = .ok (.newarray .int, 2) := by decide +kernel
theorem d_B_init_36 : decode m_B_init.2.1 36 = .ok (.putfield 27, 3) := by decide +kernel
theorem d_B_init_39 : decode m_B_init.2.1 39 = .ok (.aload_n 0, 1) := by decide +kernel
theorem d_B_init_40 : decode m_B_init.2.1 40 = .ok (.iconst 1, 1) := by decide +kernel
theorem d_B_init_41 : decode m_B_init.2.1 41 = .ok (.putfield 31, 3) := by decide +kernel
theorem d_B_init_44 : decode m_B_init.2.1 44 = .ok (.return_, 1) := by decide +kernel
theorem d_B_told_0 : decode m_B_told.2.1 0 = .ok (.aload_n 0, 1) := by decide +kernel
theorem d_B_told_1 : decode m_B_told.2.1 1 = .ok (.iload_n 1, 1) := by decide +kernel
theorem d_B_told_2 : decode m_B_told.2.1 2 = .ok (.invokevirtual 131, 3) := by decide +kernel
theorem d_B_told_5 : decode m_B_told.2.1 5 = .ok (.ifCond .ne 5, 3) := by decide +kernel
theorem d_B_told_8 : decode m_B_told.2.1 8 = .ok (.iconst (-1), 1) := by decide +kernel
theorem d_B_told_9 : decode m_B_told.2.1 9 = .ok (.ireturn, 1) := by decide +kernel
theorem d_B_told_10 : decode m_B_told.2.1 10 = .ok (.aload_n 0, 1) := by decide +kernel
theorem d_B_told_11 : decode m_B_told.2.1 11 = .ok (.getfield 23, 3) := by decide +kernel
theorem d_B_told_14 : decode m_B_told.2.1 14 = .ok (.iload_n 1, 1) := by decide +kernel
theorem d_B_told_15 : decode m_B_told.2.1 15 = .ok (.aaload, 1) := by decide +kernel
theorem d_B_told_16 : decode m_B_told.2.1 16 = .ok (.astore_n 3, 1) := by decide +kernel
theorem d_B_told_17 : decode m_B_told.2.1 17 = .ok (.iload_n 2, 1) := by decide +kernel
theorem d_B_told_18 : decode m_B_told.2.1 18 = .ok (.tableswitch 59 0 4 #[34, 39, 44, 49, 54], 34) := by decide +kernel
theorem d_B_told_52 : decode m_B_told.2.1 52 = .ok (.aload_n 3, 1) := by decide +kernel
theorem d_B_told_53 : decode m_B_told.2.1 53 = .ok (.getfield 152, 3) := by decide +kernel
theorem d_B_told_56 : decode m_B_told.2.1 56 = .ok (.ireturn, 1) := by decide +kernel
theorem d_B_told_57 : decode m_B_told.2.1 57 = .ok (.aload_n 3, 1) := by decide +kernel
theorem d_B_told_58 : decode m_B_told.2.1 58 = .ok (.getfield 155, 3) := by decide +kernel
theorem d_B_told_61 : decode m_B_told.2.1 61 = .ok (.ireturn, 1) := by decide +kernel
theorem d_B_told_62 : decode m_B_told.2.1 62 = .ok (.aload_n 3, 1) := by decide +kernel
theorem d_B_told_63 : decode m_B_told.2.1 63 = .ok (.getfield 158, 3) := by decide +kernel
theorem d_B_told_66 : decode m_B_told.2.1 66 = .ok (.ireturn, 1) := by decide +kernel
theorem d_B_told_67 : decode m_B_told.2.1 67 = .ok (.aload_n 3, 1) := by decide +kernel
theorem d_B_told_68 : decode m_B_told.2.1 68 = .ok (.getfield 161, 3) := by decide +kernel
theorem d_B_told_71 : decode m_B_told.2.1 71 = .ok (.ireturn, 1) := by decide +kernel
theorem d_B_told_72 : decode m_B_told.2.1 72 = .ok (.aload_n 3, 1) := by decide +kernel
theorem d_B_told_73 : decode m_B_told.2.1 73 = .ok (.invokevirtual 164, 3) := by decide +kernel
theorem d_B_told_76 : decode m_B_told.2.1 76 = .ok (.ireturn, 1) := by decide +kernel
theorem d_B_told_77 : decode m_B_told.2.1 77 = .ok (.iload_n 2, 1) := by decide +kernel
theorem d_B_told_78 : decode m_B_told.2.1 78 = .ok (.bipush 10, 2) := by decide +kernel
theorem d_B_told_80 : decode m_B_told.2.1 80 = .ok (.if_icmp .ge 7, 3) := by decide +kernel
theorem d_B_told_83 : decode m_B_told.2.1 83 = .ok (.iconst (-1), 1) := by decide +kernel
theorem d_B_told_84 : decode m_B_told.2.1 84 = .ok (.goto 11, 3) := by decide +kernel
theorem d_B_told_87 : decode m_B_told.2.1 87 = .ok (.aload_n 3, 1) := by decide +kernel
theorem d_B_told_88 : decode m_B_told.2.1 88 = .ok (.iload_n 2, 1) := by decide +kernel
theorem d_B_told_89 : decode m_B_told.2.1 89 = .ok (.bipush 10, 2) := by decide +kernel
theorem d_B_told_91 : decode m_B_told.2.1 91 = .ok (.isub, 1) := by decide +kernel
theorem d_B_told_92 : decode m_B_told.2.1 92 = .ok (.invokevirtual 168, 3) := by decide +kernel
theorem d_B_told_95 : decode m_B_told.2.1 95 = .ok (.ireturn, 1) := by decide +kernel
theorem d_B_isLetter_0 : decode m_B_isLetter.2.1 0 = .ok (.iload_n 1, 1) := by decide +kernel
theorem d_B_isLetter_1 : decode m_B_isLetter.2.1 1 = .ok (.ifCond .lt 15, 3) := by decide +kernel
theorem d_B_isLetter_4 : decode m_B_isLetter.2.1 4 = .ok (.iload_n 1, 1) := by decide +kernel
theorem d_B_isLetter_5 : decode m_B_isLetter.2.1 5 = .ok (.aload_n 0, 1) := by decide +kernel
theorem d_B_isLetter_6 : decode m_B_isLetter.2.1 6 = .ok (.getfield 139, 3) := by decide +kernel
theorem d_B_isLetter_9 : decode m_B_isLetter.2.1 9 = .ok (.if_icmp .ge 7, 3) := by decide +kernel
theorem d_B_isLetter_12 : decode m_B_isLetter.2.1 12 = .ok (.iconst 1, 1) := by decide +kernel
theorem d_B_isLetter_13 : decode m_B_isLetter.2.1 13 = .ok (.goto 4, 3) := by decide +kernel
theorem d_B_isLetter_16 : decode m_B_isLetter.2.1 16 = .ok (.iconst 0, 1) := by decide +kernel
theorem d_B_isLetter_17 : decode m_B_isLetter.2.1 17 = .ok (.ireturn, 1) := by decide +kernel
theorem d_L_contentCount_0 : decode m_L_contentCount.2.1 0 = .ok (.aload_n 0, 1) := by decide +kernel
theorem d_L_contentCount_1 : decode m_L_contentCount.2.1 1 = .ok (.getfield 24, 3) := by decide +kernel
theorem d_L_contentCount_4 : decode m_L_contentCount.2.1 4 = .ok (.ifnonnull 5, 3) := by decide +kernel
theorem d_L_contentCount_7 : decode m_L_contentCount.2.1 7 = .ok (.iconst 0, 1) := by decide +kernel
theorem d_L_contentCount_8 : decode m_L_contentCount.2.1 8 = .ok (.ireturn, 1) := by decide +kernel
theorem d_L_contentCount_9 : decode m_L_contentCount.2.1 9 = .ok (.iconst 0, 1) := by decide +kernel
theorem d_L_contentCount_10 : decode m_L_contentCount.2.1 10 = .ok (.istore_n 1, 1) := by decide +kernel
theorem d_L_contentCount_11 : decode m_L_contentCount.2.1 11 = .ok (.iconst 0, 1) := by decide +kernel
theorem d_L_contentCount_12 : decode m_L_contentCount.2.1 12 = .ok (.istore_n 2, 1) := by decide +kernel
theorem d_L_contentCount_13 : decode m_L_contentCount.2.1 13 = .ok (.iload_n 2, 1) := by decide +kernel
theorem d_L_contentCount_14 : decode m_L_contentCount.2.1 14 = .ok (.aload_n 0, 1) := by decide +kernel
theorem d_L_contentCount_15 : decode m_L_contentCount.2.1 15 = .ok (.getfield 24, 3) := by decide +kernel
theorem d_L_contentCount_18 : decode m_L_contentCount.2.1 18 = .ok (.arraylength, 1) := by decide +kernel
theorem d_L_contentCount_19 : decode m_L_contentCount.2.1 19 = .ok (.if_icmp .ge 22, 3) := by decide +kernel
theorem d_L_contentCount_22 : decode m_L_contentCount.2.1 22 = .ok (.aload_n 0, 1) := by decide +kernel
theorem d_L_contentCount_23 : decode m_L_contentCount.2.1 23 = .ok (.getfield 24, 3) := by decide +kernel
theorem d_L_contentCount_26 : decode m_L_contentCount.2.1 26 = .ok (.iload_n 2, 1) := by decide +kernel
theorem d_L_contentCount_27 : decode m_L_contentCount.2.1 27 = .ok (.iaload, 1) := by decide +kernel
theorem d_L_contentCount_28 : decode m_L_contentCount.2.1 28 = .ok (.iconst (-1), 1) := by decide +kernel
theorem d_L_contentCount_29 : decode m_L_contentCount.2.1 29 = .ok (.if_icmp .eq 6, 3) := by decide +kernel
theorem d_L_contentCount_32 : decode m_L_contentCount.2.1 32 = .ok (.iinc 1 1, 3) := by decide +kernel
theorem d_L_contentCount_35 : decode m_L_contentCount.2.1 35 = .ok (.iinc 2 1, 3) := by decide +kernel
theorem d_L_contentCount_38 : decode m_L_contentCount.2.1 38 = .ok (.goto (-25), 3) := by decide +kernel
theorem d_L_contentCount_41 : decode m_L_contentCount.2.1 41 = .ok (.iload_n 1, 1) := by decide +kernel
theorem d_L_contentCount_42 : decode m_L_contentCount.2.1 42 = .ok (.ireturn, 1) := by decide +kernel
theorem d_L_contentAt_0 : decode m_L_contentAt.2.1 0 = .ok (.aload_n 0, 1) := by decide +kernel
theorem d_L_contentAt_1 : decode m_L_contentAt.2.1 1 = .ok (.getfield 24, 3) := by decide +kernel
theorem d_L_contentAt_4 : decode m_L_contentAt.2.1 4 = .ok (.ifnull 21, 3) := by decide +kernel
theorem d_L_contentAt_7 : decode m_L_contentAt.2.1 7 = .ok (.iload_n 1, 1) := by decide +kernel
theorem d_L_contentAt_8 : decode m_L_contentAt.2.1 8 = .ok (.aload_n 0, 1) := by decide +kernel
theorem d_L_contentAt_9 : decode m_L_contentAt.2.1 9 = .ok (.getfield 24, 3) := by decide +kernel
theorem d_L_contentAt_12 : decode m_L_contentAt.2.1 12 = .ok (.arraylength, 1) := by decide +kernel
theorem d_L_contentAt_13 : decode m_L_contentAt.2.1 13 = .ok (.if_icmp .ge 12, 3) := by decide +kernel
theorem d_L_contentAt_16 : decode m_L_contentAt.2.1 16 = .ok (.aload_n 0, 1) := by decide +kernel
theorem d_L_contentAt_17 : decode m_L_contentAt.2.1 17 = .ok (.getfield 24, 3) := by decide +kernel
theorem d_L_contentAt_20 : decode m_L_contentAt.2.1 20 = .ok (.iload_n 1, 1) := by decide +kernel
theorem d_L_contentAt_21 : decode m_L_contentAt.2.1 21 = .ok (.iaload, 1) := by decide +kernel
theorem d_L_contentAt_22 : decode m_L_contentAt.2.1 22 = .ok (.goto 4, 3) := by decide +kernel
theorem d_L_contentAt_25 : decode m_L_contentAt.2.1 25 = .ok (.iconst (-1), 1) := by decide +kernel
theorem d_L_contentAt_26 : decode m_L_contentAt.2.1 26 = .ok (.ireturn, 1) := by decide +kernel
theorem d_B_done_0 : decode m_B_done.2.1 0 = .ok (.aload_n 0, 1) := by decide +kernel
theorem d_B_done_1 : decode m_B_done.2.1 1 = .ok (.getfield 31, 3) := by decide +kernel
theorem d_B_done_4 : decode m_B_done.2.1 4 = .ok (.ifCond .eq 5, 3) := by decide +kernel
theorem d_B_done_7 : decode m_B_done.2.1 7 = .ok (.iconst 0, 1) := by decide +kernel
theorem d_B_done_8 : decode m_B_done.2.1 8 = .ok (.ireturn, 1) := by decide +kernel
theorem d_B_done_9 : decode m_B_done.2.1 9 = .ok (.iconst 1, 1) := by decide +kernel
theorem d_B_done_10 : decode m_B_done.2.1 10 = .ok (.istore_n 1, 1) := by decide +kernel
theorem d_B_done_11 : decode m_B_done.2.1 11 = .ok (.iconst 0, 1) := by decide +kernel
theorem d_B_done_12 : decode m_B_done.2.1 12 = .ok (.istore_n 2, 1) := by decide +kernel
theorem d_B_done_13 : decode m_B_done.2.1 13 = .ok (.iconst 0, 1) := by decide +kernel
theorem d_B_done_14 : decode m_B_done.2.1 14 = .ok (.istore_n 3, 1) := by decide +kernel
theorem d_B_done_15 : decode m_B_done.2.1 15 = .ok (.iload_n 3, 1) := by decide +kernel
theorem d_B_done_16 : decode m_B_done.2.1 16 = .ok (.aload_n 0, 1) := by decide +kernel
theorem d_B_done_17 : decode m_B_done.2.1 17 = .ok (.getfield 42, 3) := by decide +kernel
theorem d_B_done_20 : decode m_B_done.2.1 20 = .ok (.if_icmp .ge 79, 3) := by decide +kernel
theorem d_B_done_23 : decode m_B_done.2.1 23 = .ok (.aload_n 0, 1) := by decide +kernel
theorem d_B_done_24 : decode m_B_done.2.1 24 = .ok (.getfield 11, 3) := by decide +kernel
theorem d_B_done_27 : decode m_B_done.2.1 27 = .ok (.iload_n 3, 1) := by decide +kernel
theorem d_B_done_28 : decode m_B_done.2.1 28 = .ok (.aaload, 1) := by decide +kernel
theorem d_B_done_29 : decode m_B_done.2.1 29 = .ok (.getfield 230, 3) := by decide +kernel
theorem d_B_done_32 : decode m_B_done.2.1 32 = .ok (.ifCond .eq 5, 3) := by decide +kernel
theorem d_B_done_35 : decode m_B_done.2.1 35 = .ok (.iconst 3, 1) := by decide +kernel
theorem d_B_done_36 : decode m_B_done.2.1 36 = .ok (.ireturn, 1) := by decide +kernel
theorem d_B_done_37 : decode m_B_done.2.1 37 = .ok (.aload_n 0, 1) := by decide +kernel
theorem d_B_done_38 : decode m_B_done.2.1 38 = .ok (.getfield 11, 3) := by decide +kernel
theorem d_B_done_41 : decode m_B_done.2.1 41 = .ok (.iload_n 3, 1) := by decide +kernel
theorem d_B_done_42 : decode m_B_done.2.1 42 = .ok (.aaload, 1) := by decide +kernel
theorem d_B_done_43 : decode m_B_done.2.1 43 = .ok (.getfield 212, 3) := by decide +kernel
theorem d_B_done_46 : decode m_B_done.2.1 46 = .ok (.invokevirtual 233, 3) := by decide +kernel
theorem d_B_done_49 : decode m_B_done.2.1 49 = .ok (.istore 4, 2) := by decide +kernel
theorem d_B_done_51 : decode m_B_done.2.1 51 = .ok (.iload_n 2, 1) := by decide +kernel
theorem d_B_done_52 : decode m_B_done.2.1 52 = .ok (.ifCond .ne 8, 3) := by decide +kernel
theorem d_B_done_55 : decode m_B_done.2.1 55 = .ok (.iload 4, 2) := by decide +kernel
theorem d_B_done_57 : decode m_B_done.2.1 57 = .ok (.ifCond .eq 7, 3) := by decide +kernel
theorem d_B_done_60 : decode m_B_done.2.1 60 = .ok (.iconst 1, 1) := by decide +kernel
theorem d_B_done_61 : decode m_B_done.2.1 61 = .ok (.goto 4, 3) := by decide +kernel
theorem d_B_done_64 : decode m_B_done.2.1 64 = .ok (.iconst 0, 1) := by decide +kernel
theorem d_B_done_65 : decode m_B_done.2.1 65 = .ok (.istore_n 2, 1) := by decide +kernel
theorem d_B_done_66 : decode m_B_done.2.1 66 = .ok (.iload_n 1, 1) := by decide +kernel
theorem d_B_done_67 : decode m_B_done.2.1 67 = .ok (.ifCond .eq 24, 3) := by decide +kernel
theorem d_B_done_70 : decode m_B_done.2.1 70 = .ok (.iload 4, 2) := by decide +kernel
theorem d_B_done_72 : decode m_B_done.2.1 72 = .ok (.ifCond .ne 15, 3) := by decide +kernel
theorem d_B_done_75 : decode m_B_done.2.1 75 = .ok (.aload_n 0, 1) := by decide +kernel
theorem d_B_done_76 : decode m_B_done.2.1 76 = .ok (.getfield 11, 3) := by decide +kernel
theorem d_B_done_79 : decode m_B_done.2.1 79 = .ok (.iload_n 3, 1) := by decide +kernel
theorem d_B_done_80 : decode m_B_done.2.1 80 = .ok (.aaload, 1) := by decide +kernel
theorem d_B_done_81 : decode m_B_done.2.1 81 = .ok (.invokevirtual 236, 3) := by decide +kernel
theorem d_B_done_84 : decode m_B_done.2.1 84 = .ok (.ifCond .eq 7, 3) := by decide +kernel
theorem d_B_done_87 : decode m_B_done.2.1 87 = .ok (.iconst 1, 1) := by decide +kernel
theorem d_B_done_88 : decode m_B_done.2.1 88 = .ok (.goto 4, 3) := by decide +kernel
theorem d_B_done_91 : decode m_B_done.2.1 91 = .ok (.iconst 0, 1) := by decide +kernel
theorem d_B_done_92 : decode m_B_done.2.1 92 = .ok (.istore_n 1, 1) := by decide +kernel
theorem d_B_done_93 : decode m_B_done.2.1 93 = .ok (.iinc 3 1, 3) := by decide +kernel
theorem d_B_done_96 : decode m_B_done.2.1 96 = .ok (.goto (-81), 3) := by decide +kernel
theorem d_B_done_99 : decode m_B_done.2.1 99 = .ok (.iload_n 1, 1) := by decide +kernel
theorem d_B_done_100 : decode m_B_done.2.1 100 = .ok (.ifCond .ne 5, 3) := by decide +kernel
theorem d_B_done_103 : decode m_B_done.2.1 103 = .ok (.iconst 0, 1) := by decide +kernel
theorem d_B_done_104 : decode m_B_done.2.1 104 = .ok (.ireturn, 1) := by decide +kernel
theorem d_B_done_105 : decode m_B_done.2.1 105 = .ok (.iload_n 2, 1) := by decide +kernel
theorem d_B_done_106 : decode m_B_done.2.1 106 = .ok (.ifCond .eq 7, 3) := by decide +kernel
theorem d_B_done_109 : decode m_B_done.2.1 109 = .ok (.iconst 2, 1) := by decide +kernel
theorem d_B_done_110 : decode m_B_done.2.1 110 = .ok (.goto 4, 3) := by decide +kernel
theorem d_B_done_113 : decode m_B_done.2.1 113 = .ok (.iconst 1, 1) := by decide +kernel
theorem d_B_done_114 : decode m_B_done.2.1 114 = .ok (.ireturn, 1) := by decide +kernel
theorem d_P_foundNone_0 : decode m_P_foundNone.2.1 0 = .ok (.aload_n 0, 1) := by decide +kernel
theorem d_P_foundNone_1 : decode m_P_foundNone.2.1 1 = .ok (.getfield 19, 3) := by decide +kernel
theorem d_P_foundNone_4 : decode m_P_foundNone.2.1 4 = .ok (.aload_n 0, 1) := by decide +kernel
theorem d_P_foundNone_5 : decode m_P_foundNone.2.1 5 = .ok (.getfield 9, 3) := by decide +kernel
theorem d_P_foundNone_8 : decode m_P_foundNone.2.1 8 = .ok (.if_icmp .ne 7, 3) := by decide +kernel
theorem d_P_foundNone_11 : decode m_P_foundNone.2.1 11 = .ok (.iconst 1, 1) := by decide +kernel
theorem d_P_foundNone_12 : decode m_P_foundNone.2.1 12 = .ok (.goto 4, 3) := by decide +kernel
theorem d_P_foundNone_15 : decode m_P_foundNone.2.1 15 = .ok (.iconst 0, 1) := by decide +kernel
theorem d_P_foundNone_16 : decode m_P_foundNone.2.1 16 = .ok (.ireturn, 1) := by decide +kernel
theorem d_A_isSettled_0 : decode m_A_isSettled.2.1 0 = .ok (.aload_n 0, 1) := by decide +kernel
theorem d_A_isSettled_1 : decode m_A_isSettled.2.1 1 = .ok (.getfield 53, 3) := by decide +kernel
theorem d_A_isSettled_4 : decode m_A_isSettled.2.1 4 = .ok (.ifnull 28, 3) := by decide +kernel
theorem d_A_isSettled_7 : decode m_A_isSettled.2.1 7 = .ok (.aload_n 0, 1) := by decide +kernel
theorem d_A_isSettled_8 : decode m_A_isSettled.2.1 8 = .ok (.getfield 43, 3) := by decide +kernel
theorem d_A_isSettled_11 : decode m_A_isSettled.2.1 11 = .ok (.ifnull 21, 3) := by decide +kernel
theorem d_A_isSettled_14 : decode m_A_isSettled.2.1 14 = .ok (.aload_n 0, 1) := by decide +kernel
theorem d_A_isSettled_15 : decode m_A_isSettled.2.1 15 = .ok (.getfield 56, 3) := by decide +kernel
theorem d_A_isSettled_18 : decode m_A_isSettled.2.1 18 = .ok (.aload_n 0, 1) := by decide +kernel
theorem d_A_isSettled_19 : decode m_A_isSettled.2.1 19 = .ok (.getfield 43, 3) := by decide +kernel
theorem d_A_isSettled_22 : decode m_A_isSettled.2.1 22 = .ok (.getfield 59, 3) := by decide +kernel
theorem d_A_isSettled_25 : decode m_A_isSettled.2.1 25 = .ok (.if_icmp .ne 7, 3) := by decide +kernel
theorem d_A_isSettled_28 : decode m_A_isSettled.2.1 28 = .ok (.iconst 1, 1) := by decide +kernel
theorem d_A_isSettled_29 : decode m_A_isSettled.2.1 29 = .ok (.goto 4, 3) := by decide +kernel
theorem d_A_isSettled_32 : decode m_A_isSettled.2.1 32 = .ok (.iconst 0, 1) := by decide +kernel
theorem d_A_isSettled_33 : decode m_A_isSettled.2.1 33 = .ok (.ireturn, 1) := by decide +kernel
theorem d_B_value_0 : decode m_B_value.2.1 0 = .ok (.aload_n 0, 1) := by decide +kernel
theorem d_B_value_1 : decode m_B_value.2.1 1 = .ok (.iload_n 1, 1) := by decide +kernel
theorem d_B_value_2 : decode m_B_value.2.1 2 = .ok (.invokevirtual 69, 3) := by decide +kernel
theorem d_B_value_5 : decode m_B_value.2.1 5 = .ok (.ifCond .eq 29, 3) := by decide +kernel
theorem d_B_value_8 : decode m_B_value.2.1 8 = .ok (.aload_n 0, 1) := by decide +kernel
theorem d_B_value_9 : decode m_B_value.2.1 9 = .ok (.getfield 11, 3) := by decide +kernel
theorem d_B_value_12 : decode m_B_value.2.1 12 = .ok (.iload_n 1, 1) := by decide +kernel
theorem d_B_value_13 : decode m_B_value.2.1 13 = .ok (.aaload, 1) := by decide +kernel
theorem d_B_value_14 : decode m_B_value.2.1 14 = .ok (.invokevirtual 236, 3) := by decide +kernel
theorem d_B_value_17 : decode m_B_value.2.1 17 = .ok (.ifCond .eq 17, 3) := by decide +kernel
theorem d_B_value_20 : decode m_B_value.2.1 20 = .ok (.aload_n 0, 1) := by decide +kernel
theorem d_B_value_21 : decode m_B_value.2.1 21 = .ok (.getfield 11, 3) := by decide +kernel
theorem d_B_value_24 : decode m_B_value.2.1 24 = .ok (.iload_n 1, 1) := by decide +kernel
theorem d_B_value_25 : decode m_B_value.2.1 25 = .ok (.aaload, 1) := by decide +kernel
theorem d_B_value_26 : decode m_B_value.2.1 26 = .ok (.getfield 201, 3) := by decide +kernel
theorem d_B_value_29 : decode m_B_value.2.1 29 = .ok (.iload_n 1, 1) := by decide +kernel
theorem d_B_value_30 : decode m_B_value.2.1 30 = .ok (.iaload, 1) := by decide +kernel
theorem d_B_value_31 : decode m_B_value.2.1 31 = .ok (.goto 4, 3) := by decide +kernel
theorem d_B_value_34 : decode m_B_value.2.1 34 = .ok (.iconst (-1), 1) := by decide +kernel
theorem d_B_value_35 : decode m_B_value.2.1 35 = .ok (.ireturn, 1) := by decide +kernel
theorem d_B_isAgent_0 : decode m_B_isAgent.2.1 0 = .ok (.iload_n 1, 1) := by decide +kernel
theorem d_B_isAgent_1 : decode m_B_isAgent.2.1 1 = .ok (.ifCond .lt 15, 3) := by decide +kernel
theorem d_B_isAgent_4 : decode m_B_isAgent.2.1 4 = .ok (.iload_n 1, 1) := by decide +kernel
theorem d_B_isAgent_5 : decode m_B_isAgent.2.1 5 = .ok (.aload_n 0, 1) := by decide +kernel
theorem d_B_isAgent_6 : decode m_B_isAgent.2.1 6 = .ok (.getfield 42, 3) := by decide +kernel
theorem d_B_isAgent_9 : decode m_B_isAgent.2.1 9 = .ok (.if_icmp .ge 7, 3) := by decide +kernel
theorem d_B_isAgent_12 : decode m_B_isAgent.2.1 12 = .ok (.iconst 1, 1) := by decide +kernel
theorem d_B_isAgent_13 : decode m_B_isAgent.2.1 13 = .ok (.goto 4, 3) := by decide +kernel
theorem d_B_isAgent_16 : decode m_B_isAgent.2.1 16 = .ok (.iconst 0, 1) := by decide +kernel
theorem d_B_isAgent_17 : decode m_B_isAgent.2.1 17 = .ok (.ireturn, 1) := by decide +kernel
theorem d_B_total_0 : decode m_B_total.2.1 0 = .ok (.aload_n 0, 1) := by decide +kernel
theorem d_B_total_1 : decode m_B_total.2.1 1 = .ok (.invokevirtual 207, 3) := by decide +kernel
theorem d_B_total_4 : decode m_B_total.2.1 4 = .ok (.iconst 1, 1) := by decide +kernel
theorem d_B_total_5 : decode m_B_total.2.1 5 = .ok (.if_icmp .eq 5, 3) := by decide +kernel
theorem d_B_total_8 : decode m_B_total.2.1 8 = .ok (.iconst (-1), 1) := by decide +kernel
theorem d_B_total_9 : decode m_B_total.2.1 9 = .ok (.ireturn, 1) := by decide +kernel
theorem d_B_total_10 : decode m_B_total.2.1 10 = .ok (.iconst 0, 1) := by decide +kernel
theorem d_B_total_11 : decode m_B_total.2.1 11 = .ok (.istore_n 1, 1) := by decide +kernel
theorem d_B_total_12 : decode m_B_total.2.1 12 = .ok (.iconst 0, 1) := by decide +kernel
theorem d_B_total_13 : decode m_B_total.2.1 13 = .ok (.istore_n 2, 1) := by decide +kernel
theorem d_B_total_14 : decode m_B_total.2.1 14 = .ok (.iload_n 2, 1) := by decide +kernel
theorem d_B_total_15 : decode m_B_total.2.1 15 = .ok (.aload_n 0, 1) := by decide +kernel
theorem d_B_total_16 : decode m_B_total.2.1 16 = .ok (.getfield 42, 3) := by decide +kernel
theorem d_B_total_19 : decode m_B_total.2.1 19 = .ok (.if_icmp .ge 35, 3) := by decide +kernel
theorem d_B_total_22 : decode m_B_total.2.1 22 = .ok (.aload_n 0, 1) := by decide +kernel
theorem d_B_total_23 : decode m_B_total.2.1 23 = .ok (.getfield 11, 3) := by decide +kernel
theorem d_B_total_26 : decode m_B_total.2.1 26 = .ok (.iload_n 2, 1) := by decide +kernel
theorem d_B_total_27 : decode m_B_total.2.1 27 = .ok (.aaload, 1) := by decide +kernel
theorem d_B_total_28 : decode m_B_total.2.1 28 = .ok (.invokevirtual 114, 3) := by decide +kernel
theorem d_B_total_31 : decode m_B_total.2.1 31 = .ok (.ifCond .eq 17, 3) := by decide +kernel
theorem d_B_total_34 : decode m_B_total.2.1 34 = .ok (.iload_n 1, 1) := by decide +kernel
theorem d_B_total_35 : decode m_B_total.2.1 35 = .ok (.aload_n 0, 1) := by decide +kernel
theorem d_B_total_36 : decode m_B_total.2.1 36 = .ok (.getfield 11, 3) := by decide +kernel
theorem d_B_total_39 : decode m_B_total.2.1 39 = .ok (.iload_n 2, 1) := by decide +kernel
theorem d_B_total_40 : decode m_B_total.2.1 40 = .ok (.aaload, 1) := by decide +kernel
theorem d_B_total_41 : decode m_B_total.2.1 41 = .ok (.getfield 195, 3) := by decide +kernel
theorem d_B_total_44 : decode m_B_total.2.1 44 = .ok (.iconst 0, 1) := by decide +kernel
theorem d_B_total_45 : decode m_B_total.2.1 45 = .ok (.iaload, 1) := by decide +kernel
theorem d_B_total_46 : decode m_B_total.2.1 46 = .ok (.iadd, 1) := by decide +kernel
theorem d_B_total_47 : decode m_B_total.2.1 47 = .ok (.istore_n 1, 1) := by decide +kernel
theorem d_B_total_48 : decode m_B_total.2.1 48 = .ok (.iinc 2 1, 3) := by decide +kernel
theorem d_B_total_51 : decode m_B_total.2.1 51 = .ok (.goto (-37), 3) := by decide +kernel
theorem d_B_total_54 : decode m_B_total.2.1 54 = .ok (.iload_n 1, 1) := by decide +kernel
theorem d_B_total_55 : decode m_B_total.2.1 55 = .ok (.ireturn, 1) := by decide +kernel
theorem d_A_isRoot_0 : decode m_A_isRoot.2.1 0 = .ok (.aload_n 0, 1) := by decide +kernel
theorem d_A_isRoot_1 : decode m_A_isRoot.2.1 1 = .ok (.getfield 43, 3) := by decide +kernel
theorem d_A_isRoot_4 : decode m_A_isRoot.2.1 4 = .ok (.ifnull 18, 3) := by decide +kernel
theorem d_A_isRoot_7 : decode m_A_isRoot.2.1 7 = .ok (.aload_n 0, 1) := by decide +kernel
theorem d_A_isRoot_8 : decode m_A_isRoot.2.1 8 = .ok (.getfield 43, 3) := by decide +kernel
theorem d_A_isRoot_11 : decode m_A_isRoot.2.1 11 = .ok (.getfield 47, 3) := by decide +kernel
theorem d_A_isRoot_14 : decode m_A_isRoot.2.1 14 = .ok (.aload_n 0, 1) := by decide +kernel
theorem d_A_isRoot_15 : decode m_A_isRoot.2.1 15 = .ok (.if_acmp .ne 7, 3) := by decide +kernel
theorem d_A_isRoot_18 : decode m_A_isRoot.2.1 18 = .ok (.iconst 1, 1) := by decide +kernel
theorem d_A_isRoot_19 : decode m_A_isRoot.2.1 19 = .ok (.goto 4, 3) := by decide +kernel
theorem d_A_isRoot_22 : decode m_A_isRoot.2.1 22 = .ok (.iconst 0, 1) := by decide +kernel
theorem d_A_isRoot_23 : decode m_A_isRoot.2.1 23 = .ok (.ireturn, 1) := by decide +kernel
theorem d_B_parent_0 : decode m_B_parent.2.1 0 = .ok (.aload_n 0, 1) := by decide +kernel
theorem d_B_parent_1 : decode m_B_parent.2.1 1 = .ok (.iload_n 1, 1) := by decide +kernel
theorem d_B_parent_2 : decode m_B_parent.2.1 2 = .ok (.invokevirtual 69, 3) := by decide +kernel
theorem d_B_parent_5 : decode m_B_parent.2.1 5 = .ok (.ifCond .eq 15, 3) := by decide +kernel
theorem d_B_parent_8 : decode m_B_parent.2.1 8 = .ok (.aload_n 0, 1) := by decide +kernel
theorem d_B_parent_9 : decode m_B_parent.2.1 9 = .ok (.getfield 11, 3) := by decide +kernel
theorem d_B_parent_12 : decode m_B_parent.2.1 12 = .ok (.iload_n 1, 1) := by decide +kernel
theorem d_B_parent_13 : decode m_B_parent.2.1 13 = .ok (.aaload, 1) := by decide +kernel
theorem d_B_parent_14 : decode m_B_parent.2.1 14 = .ok (.getfield 239, 3) := by decide +kernel
theorem d_B_parent_17 : decode m_B_parent.2.1 17 = .ok (.goto 4, 3) := by decide +kernel
theorem d_B_parent_20 : decode m_B_parent.2.1 20 = .ok (.iconst (-1), 1) := by decide +kernel
theorem d_B_parent_21 : decode m_B_parent.2.1 21 = .ok (.ireturn, 1) := by decide +kernel
theorem d_B_separator_0 : decode m_B_separator.2.1 0 = .ok (.aload_n 0, 1) := by decide +kernel
theorem d_B_separator_1 : decode m_B_separator.2.1 1 = .ok (.iload_n 1, 1) := by decide +kernel
theorem d_B_separator_2 : decode m_B_separator.2.1 2 = .ok (.invokevirtual 69, 3) := by decide +kernel
theorem d_B_separator_5 : decode m_B_separator.2.1 5 = .ok (.ifCond .eq 30, 3) := by decide +kernel
theorem d_B_separator_8 : decode m_B_separator.2.1 8 = .ok (.aload_n 0, 1) := by decide +kernel
theorem d_B_separator_9 : decode m_B_separator.2.1 9 = .ok (.getfield 11, 3) := by decide +kernel
theorem d_B_separator_12 : decode m_B_separator.2.1 12 = .ok (.iload_n 1, 1) := by decide +kernel
theorem d_B_separator_13 : decode m_B_separator.2.1 13 = .ok (.aaload, 1) := by decide +kernel
theorem d_B_separator_14 : decode m_B_separator.2.1 14 = .ok (.getfield 176, 3) := by decide +kernel
theorem d_B_separator_17 : decode m_B_separator.2.1 17 = .ok (.getstatic 189, 3) := by decide +kernel
theorem d_B_separator_20 : decode m_B_separator.2.1 20 = .ok (.if_acmp .ne 15, 3) := by decide +kernel
theorem d_B_separator_23 : decode m_B_separator.2.1 23 = .ok (.aload_n 0, 1) := by decide +kernel
theorem d_B_separator_24 : decode m_B_separator.2.1 24 = .ok (.getfield 11, 3) := by decide +kernel
theorem d_B_separator_27 : decode m_B_separator.2.1 27 = .ok (.iload_n 1, 1) := by decide +kernel
theorem d_B_separator_28 : decode m_B_separator.2.1 28 = .ok (.aaload, 1) := by decide +kernel
theorem d_B_separator_29 : decode m_B_separator.2.1 29 = .ok (.getfield 242, 3) := by decide +kernel
theorem d_B_separator_32 : decode m_B_separator.2.1 32 = .ok (.goto 4, 3) := by decide +kernel
theorem d_B_separator_35 : decode m_B_separator.2.1 35 = .ok (.iconst (-1), 1) := by decide +kernel
theorem d_B_separator_36 : decode m_B_separator.2.1 36 = .ok (.ireturn, 1) := by decide +kernel
theorem d_B_entries_0 : decode m_B_entries.2.1 0 = .ok (.aload_n 0, 1) := by decide +kernel
theorem d_B_entries_1 : decode m_B_entries.2.1 1 = .ok (.iload_n 1, 1) := by decide +kernel
theorem d_B_entries_2 : decode m_B_entries.2.1 2 = .ok (.invokevirtual 69, 3) := by decide +kernel
theorem d_B_entries_5 : decode m_B_entries.2.1 5 = .ok (.ifCond .eq 28, 3) := by decide +kernel
theorem d_B_entries_8 : decode m_B_entries.2.1 8 = .ok (.aload_n 0, 1) := by decide +kernel
theorem d_B_entries_9 : decode m_B_entries.2.1 9 = .ok (.getfield 11, 3) := by decide +kernel
theorem d_B_entries_12 : decode m_B_entries.2.1 12 = .ok (.iload_n 1, 1) := by decide +kernel
theorem d_B_entries_13 : decode m_B_entries.2.1 13 = .ok (.aaload, 1) := by decide +kernel
theorem d_B_entries_14 : decode m_B_entries.2.1 14 = .ok (.getfield 195, 3) := by decide +kernel
theorem d_B_entries_17 : decode m_B_entries.2.1 17 = .ok (.ifnull 16, 3) := by decide +kernel
theorem d_B_entries_20 : decode m_B_entries.2.1 20 = .ok (.aload_n 0, 1) := by decide +kernel
theorem d_B_entries_21 : decode m_B_entries.2.1 21 = .ok (.getfield 11, 3) := by decide +kernel
theorem d_B_entries_24 : decode m_B_entries.2.1 24 = .ok (.iload_n 1, 1) := by decide +kernel
theorem d_B_entries_25 : decode m_B_entries.2.1 25 = .ok (.aaload, 1) := by decide +kernel
theorem d_B_entries_26 : decode m_B_entries.2.1 26 = .ok (.getfield 195, 3) := by decide +kernel
theorem d_B_entries_29 : decode m_B_entries.2.1 29 = .ok (.arraylength, 1) := by decide +kernel
theorem d_B_entries_30 : decode m_B_entries.2.1 30 = .ok (.goto 4, 3) := by decide +kernel
theorem d_B_entries_33 : decode m_B_entries.2.1 33 = .ok (.iconst (-1), 1) := by decide +kernel
theorem d_B_entries_34 : decode m_B_entries.2.1 34 = .ok (.ireturn, 1) := by decide +kernel
theorem d_B_tables_0 : decode m_B_tables.2.1 0 = .ok (.aload_n 0, 1) := by decide +kernel
theorem d_B_tables_1 : decode m_B_tables.2.1 1 = .ok (.getfield 221, 3) := by decide +kernel
theorem d_B_tables_4 : decode m_B_tables.2.1 4 = .ok (.ireturn, 1) := by decide +kernel
theorem d_B_agent_0 : decode m_B_agent.2.1 0 = .ok (.iload_n 1, 1) := by decide +kernel
theorem d_B_agent_1 : decode m_B_agent.2.1 1 = .ok (.iconst 2, 1) := by decide +kernel
theorem d_B_agent_2 : decode m_B_agent.2.1 2 = .ok (.if_icmp .lt 8, 3) := by decide +kernel
theorem d_B_agent_5 : decode m_B_agent.2.1 5 = .ok (.iload_n 1, 1) := by decide +kernel
theorem d_B_agent_6 : decode m_B_agent.2.1 6 = .ok (.iconst 4, 1) := by decide +kernel
theorem d_B_agent_7 : decode m_B_agent.2.1 7 = .ok (.if_icmp .le 13, 3) := by decide +kernel
theorem d_B_agent_10 : decode m_B_agent.2.1 10 = .ok (.new 35, 3) := by decide +kernel
theorem d_B_agent_13 : decode m_B_agent.2.1 13 = .ok (.dup, 1) := by decide +kernel
theorem d_B_agent_14 : decode m_B_agent.2.1 14 = .ok (.ldc 37, 2) := by decide +kernel
theorem d_B_agent_16 : decode m_B_agent.2.1 16 = .ok (.invokespecial 39, 3) := by decide +kernel
theorem d_B_agent_19 : decode m_B_agent.2.1 19 = .ok (.athrow, 1) := by decide +kernel
theorem d_B_agent_20 : decode m_B_agent.2.1 20 = .ok (.aload_n 0, 1) := by decide +kernel
theorem d_B_agent_21 : decode m_B_agent.2.1 21 = .ok (.getfield 31, 3) := by decide +kernel
theorem d_B_agent_24 : decode m_B_agent.2.1 24 = .ok (.ifCond .eq 12, 3) := by decide +kernel
theorem d_B_agent_27 : decode m_B_agent.2.1 27 = .ok (.aload_n 0, 1) := by decide +kernel
theorem d_B_agent_28 : decode m_B_agent.2.1 28 = .ok (.getfield 42, 3) := by decide +kernel
theorem d_B_agent_31 : decode m_B_agent.2.1 31 = .ok (.bipush 8, 2) := by decide +kernel
theorem d_B_agent_33 : decode m_B_agent.2.1 33 = .ok (.if_icmp .ne 13, 3) := by decide +kernel
theorem d_B_agent_36 : decode m_B_agent.2.1 36 = .ok (.new 46, 3) := by decide +kernel
theorem d_B_agent_39 : decode m_B_agent.2.1 39 = .ok (.dup, 1) := by decide +kernel
theorem d_B_agent_40 : decode m_B_agent.2.1 40 = .ok (.ldc 48, 2) := by decide +kernel
theorem d_B_agent_42 : decode m_B_agent.2.1 42 = .ok (.invokespecial 50, 3) := by decide +kernel
theorem d_B_agent_45 : decode m_B_agent.2.1 45 = .ok (.athrow, 1) := by decide +kernel
theorem d_B_agent_46 : decode m_B_agent.2.1 46 = .ok (.aload_n 0, 1) := by decide +kernel
theorem d_B_agent_47 : decode m_B_agent.2.1 47 = .ok (.getfield 11, 3) := by decide +kernel
theorem d_B_agent_50 : decode m_B_agent.2.1 50 = .ok (.aload_n 0, 1) := by decide +kernel
theorem d_B_agent_51 : decode m_B_agent.2.1 51 = .ok (.getfield 42, 3) := by decide +kernel
theorem d_B_agent_54 : decode m_B_agent.2.1 54 = .ok (.new 9, 3) := by decide +kernel
theorem d_B_agent_57 : decode m_B_agent.2.1 57 = .ok (.dup, 1) := by decide +kernel
theorem d_B_agent_58 : decode m_B_agent.2.1 58 = .ok (.aload_n 0, 1) := by decide +kernel
theorem d_B_agent_59 : decode m_B_agent.2.1 59 = .ok (.getfield 42, 3) := by decide +kernel
theorem d_B_agent_62 : decode m_B_agent.2.1 62 = .ok (.iload_n 1, 1) := by decide +kernel
theorem d_B_agent_63 : decode m_B_agent.2.1 63 = .ok (.invokespecial 51, 3) := by decide +kernel
theorem d_B_agent_66 : decode m_B_agent.2.1 66 = .ok (.aastore, 1) := by decide +kernel
theorem d_B_agent_67 : decode m_B_agent.2.1 67 = .ok (.aload_n 0, 1) := by decide +kernel
theorem d_B_agent_68 : decode m_B_agent.2.1 68 = .ok (.dup, 1) := by decide +kernel
theorem d_B_agent_69 : decode m_B_agent.2.1 69 = .ok (.getfield 42, 3) := by decide +kernel
theorem d_B_agent_72 : decode m_B_agent.2.1 72 = .ok (.iconst 1, 1) := by decide +kernel
theorem d_B_agent_73 : decode m_B_agent.2.1 73 = .ok (.iadd, 1) := by decide +kernel
theorem d_B_agent_74 : decode m_B_agent.2.1 74 = .ok (.putfield 42, 3) := by decide +kernel
theorem d_B_agent_77 : decode m_B_agent.2.1 77 = .ok (.aload_n 0, 1) := by decide +kernel
theorem d_B_agent_78 : decode m_B_agent.2.1 78 = .ok (.getfield 42, 3) := by decide +kernel
theorem d_B_agent_81 : decode m_B_agent.2.1 81 = .ok (.iconst 1, 1) := by decide +kernel
theorem d_B_agent_82 : decode m_B_agent.2.1 82 = .ok (.isub, 1) := by decide +kernel
theorem d_B_agent_83 : decode m_B_agent.2.1 83 = .ok (.ireturn, 1) := by decide +kernel
theorem d_A_init_0 : decode m_A_init.2.1 0 = .ok (.aload_n 0, 1) := by decide +kernel
theorem d_A_init_1 : decode m_A_init.2.1 1 = .ok (.invokespecial 3, 3) := by decide +kernel
theorem d_A_init_4 : decode m_A_init.2.1 4 = .ok (.aload_n 0, 1) := by decide +kernel
theorem d_A_init_5 : decode m_A_init.2.1 5 = .ok (.iconst 4, 1) := by decide +kernel
theorem d_A_init_6 : decode m_A_init.2.1 6 = .ok (.newarray .int, 2) := by decide +kernel
theorem d_A_init_8 : decode m_A_init.2.1 8 = .ok (.putfield 9, 3) := by decide +kernel
theorem d_A_init_11 : decode m_A_init.2.1 11 = .ok (.aload_n 0, 1) := by decide +kernel
theorem d_A_init_12 : decode m_A_init.2.1 12 = .ok (.bipush 7, 2) := by decide +kernel
theorem d_A_init_14 : decode m_A_init.2.1 14 = .ok (.anewarray 15, 3) := by decide +kernel
theorem d_A_init_17 : decode m_A_init.2.1 17 = .ok (.putfield 17, 3) := by decide +kernel
theorem d_A_init_20 : decode m_A_init.2.1 20 = .ok (.aload_n 0, 1) := by decide +kernel
theorem d_A_init_21 : decode m_A_init.2.1 21 = .ok (.getstatic 21, 3) := by decide +kernel
theorem d_A_init_24 : decode m_A_init.2.1 24 = .ok (.putfield 27, 3) := by decide +kernel
theorem d_A_init_27 : decode m_A_init.2.1 27 = .ok (.aload_n 0, 1) := by decide +kernel
theorem d_A_init_28 : decode m_A_init.2.1 28 = .ok (.iconst (-1), 1) := by decide +kernel
theorem d_A_init_29 : decode m_A_init.2.1 29 = .ok (.putfield 30, 3) := by decide +kernel
theorem d_A_init_32 : decode m_A_init.2.1 32 = .ok (.aload_n 0, 1) := by decide +kernel
theorem d_A_init_33 : decode m_A_init.2.1 33 = .ok (.iconst (-1), 1) := by decide +kernel
theorem d_A_init_34 : decode m_A_init.2.1 34 = .ok (.putfield 34, 3) := by decide +kernel
theorem d_A_init_37 : decode m_A_init.2.1 37 = .ok (.aload_n 0, 1) := by decide +kernel
theorem d_A_init_38 : decode m_A_init.2.1 38 = .ok (.iload_n 1, 1) := by decide +kernel
theorem d_A_init_39 : decode m_A_init.2.1 39 = .ok (.putfield 37, 3) := by decide +kernel
theorem d_A_init_42 : decode m_A_init.2.1 42 = .ok (.aload_n 0, 1) := by decide +kernel
theorem d_A_init_43 : decode m_A_init.2.1 43 = .ok (.iload_n 2, 1) := by decide +kernel
theorem d_A_init_44 : decode m_A_init.2.1 44 = .ok (.putfield 40, 3) := by decide +kernel
theorem d_A_init_47 : decode m_A_init.2.1 47 = .ok (.return_, 1) := by decide +kernel

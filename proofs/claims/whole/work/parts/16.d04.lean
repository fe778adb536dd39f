/-! DECODED: written by wip/whole/gen/dec.py -/
theorem d_B_deliver_0 : decode m_B_deliver.2.1 0 = .ok (.aload_n 0, 1) := by decide +kernel
theorem d_B_deliver_1 : decode m_B_deliver.2.1 1 = .ok (.getfield 11, 3) := by decide +kernel
theorem d_B_deliver_4 : decode m_B_deliver.2.1 4 = .ok (.aload_n 1, 1) := by decide +kernel
theorem d_B_deliver_5 : decode m_B_deliver.2.1 5 = .ok (.getfield 158, 3) := by decide +kernel
theorem d_B_deliver_8 : decode m_B_deliver.2.1 8 = .ok (.aaload, 1) := by decide +kernel
theorem d_B_deliver_9 : decode m_B_deliver.2.1 9 = .ok (.astore_n 2, 1) := by decide +kernel
theorem d_B_deliver_10 : decode m_B_deliver.2.1 10 = .ok (.aload_n 1, 1) := by decide +kernel
theorem d_B_deliver_11 : decode m_B_deliver.2.1 11 = .ok (.getfield 152, 3) := by decide +kernel
theorem d_B_deliver_14 : decode m_B_deliver.2.1 14 = .ok (.tableswitch 99 0 2 #[26, 52, 78], 26) := by decide +kernel
theorem d_B_deliver_40 : decode m_B_deliver.2.1 40 = .ok (.aload_n 0, 1) := by decide +kernel
theorem d_B_deliver_41 : decode m_B_deliver.2.1 41 = .ok (.aload_n 2, 1) := by decide +kernel
theorem d_B_deliver_42 : decode m_B_deliver.2.1 42 = .ok (.aload_n 1, 1) := by decide +kernel
theorem d_B_deliver_43 : decode m_B_deliver.2.1 43 = .ok (.invokevirtual 271, 3) := by decide +kernel
theorem d_B_deliver_46 : decode m_B_deliver.2.1 46 = .ok (.ifCond .eq 91, 3) := by decide +kernel
theorem d_B_deliver_49 : decode m_B_deliver.2.1 49 = .ok (.aload_n 0, 1) := by decide +kernel
theorem d_B_deliver_50 : decode m_B_deliver.2.1 50 = .ok (.aload_n 2, 1) := by decide +kernel
theorem d_B_deliver_51 : decode m_B_deliver.2.1 51 = .ok (.invokevirtual 121, 3) := by decide +kernel
theorem d_B_deliver_54 : decode m_B_deliver.2.1 54 = .ok (.ifCond .eq 83, 3) := by decide +kernel
theorem d_B_deliver_57 : decode m_B_deliver.2.1 57 = .ok (.aload_n 0, 1) := by decide +kernel
theorem d_B_deliver_58 : decode m_B_deliver.2.1 58 = .ok (.aload_n 2, 1) := by decide +kernel
theorem d_B_deliver_59 : decode m_B_deliver.2.1 59 = .ok (.iconst 1, 1) := by decide +kernel
theorem d_B_deliver_60 : decode m_B_deliver.2.1 60 = .ok (.invokevirtual 125, 3) := by decide +kernel
theorem d_B_deliver_63 : decode m_B_deliver.2.1 63 = .ok (.goto 74, 3) := by decide +kernel
theorem d_B_deliver_66 : decode m_B_deliver.2.1 66 = .ok (.aload_n 0, 1) := by decide +kernel
theorem d_B_deliver_67 : decode m_B_deliver.2.1 67 = .ok (.aload_n 2, 1) := by decide +kernel
theorem d_B_deliver_68 : decode m_B_deliver.2.1 68 = .ok (.aload_n 1, 1) := by decide +kernel
theorem d_B_deliver_69 : decode m_B_deliver.2.1 69 = .ok (.invokevirtual 275, 3) := by decide +kernel
theorem d_B_deliver_72 : decode m_B_deliver.2.1 72 = .ok (.ifCond .eq 65, 3) := by decide +kernel
theorem d_B_deliver_75 : decode m_B_deliver.2.1 75 = .ok (.aload_n 0, 1) := by decide +kernel
theorem d_B_deliver_76 : decode m_B_deliver.2.1 76 = .ok (.aload_n 2, 1) := by decide +kernel
theorem d_B_deliver_77 : decode m_B_deliver.2.1 77 = .ok (.invokevirtual 121, 3) := by decide +kernel
theorem d_B_deliver_80 : decode m_B_deliver.2.1 80 = .ok (.ifCond .eq 57, 3) := by decide +kernel
theorem d_B_deliver_83 : decode m_B_deliver.2.1 83 = .ok (.aload_n 0, 1) := by decide +kernel
theorem d_B_deliver_84 : decode m_B_deliver.2.1 84 = .ok (.aload_n 2, 1) := by decide +kernel
theorem d_B_deliver_85 : decode m_B_deliver.2.1 85 = .ok (.iconst 1, 1) := by decide +kernel
theorem d_B_deliver_86 : decode m_B_deliver.2.1 86 = .ok (.invokevirtual 125, 3) := by decide +kernel
theorem d_B_deliver_89 : decode m_B_deliver.2.1 89 = .ok (.goto 48, 3) := by decide +kernel
theorem d_B_deliver_92 : decode m_B_deliver.2.1 92 = .ok (.aload_n 0, 1) := by decide +kernel
theorem d_B_deliver_93 : decode m_B_deliver.2.1 93 = .ok (.aload_n 2, 1) := by decide +kernel
theorem d_B_deliver_94 : decode m_B_deliver.2.1 94 = .ok (.aload_n 1, 1) := by decide +kernel
theorem d_B_deliver_95 : decode m_B_deliver.2.1 95 = .ok (.invokevirtual 278, 3) := by decide +kernel
theorem d_B_deliver_98 : decode m_B_deliver.2.1 98 = .ok (.ifCond .eq 39, 3) := by decide +kernel
theorem d_B_deliver_101 : decode m_B_deliver.2.1 101 = .ok (.aload_n 0, 1) := by decide +kernel
theorem d_B_deliver_102 : decode m_B_deliver.2.1 102 = .ok (.aload_n 2, 1) := by decide +kernel
theorem d_B_deliver_103 : decode m_B_deliver.2.1 103 = .ok (.aload_n 1, 1) := by decide +kernel
theorem d_B_deliver_104 : decode m_B_deliver.2.1 104 = .ok (.getfield 161, 3) := by decide +kernel
theorem d_B_deliver_107 : decode m_B_deliver.2.1 107 = .ok (.invokevirtual 125, 3) := by decide +kernel
theorem d_B_deliver_110 : decode m_B_deliver.2.1 110 = .ok (.goto 27, 3) := by decide +kernel
theorem d_B_deliver_113 : decode m_B_deliver.2.1 113 = .ok (.aload_n 1, 1) := by decide +kernel
theorem d_B_deliver_114 : decode m_B_deliver.2.1 114 = .ok (.getfield 161, 3) := by decide +kernel
theorem d_B_deliver_117 : decode m_B_deliver.2.1 117 = .ok (.aload_n 2, 1) := by decide +kernel
theorem d_B_deliver_118 : decode m_B_deliver.2.1 118 = .ok (.getfield 281, 3) := by decide +kernel
theorem d_B_deliver_121 : decode m_B_deliver.2.1 121 = .ok (.if_icmp .le 16, 3) := by decide +kernel
theorem d_B_deliver_124 : decode m_B_deliver.2.1 124 = .ok (.aload_n 0, 1) := by decide +kernel
theorem d_B_deliver_125 : decode m_B_deliver.2.1 125 = .ok (.aload_n 2, 1) := by decide +kernel
theorem d_B_deliver_126 : decode m_B_deliver.2.1 126 = .ok (.aload_n 1, 1) := by decide +kernel
theorem d_B_deliver_127 : decode m_B_deliver.2.1 127 = .ok (.getfield 161, 3) := by decide +kernel
theorem d_B_deliver_130 : decode m_B_deliver.2.1 130 = .ok (.aload_n 1, 1) := by decide +kernel
theorem d_B_deliver_131 : decode m_B_deliver.2.1 131 = .ok (.getfield 284, 3) := by decide +kernel
theorem d_B_deliver_134 : decode m_B_deliver.2.1 134 = .ok (.invokevirtual 287, 3) := by decide +kernel
theorem d_B_deliver_137 : decode m_B_deliver.2.1 137 = .ok (.return_, 1) := by decide +kernel
theorem d_B_takesToken_0 : decode m_B_takesToken.2.1 0 = .ok (.aload_n 1, 1) := by decide +kernel
theorem d_B_takesToken_1 : decode m_B_takesToken.2.1 1 = .ok (.getfield 176, 3) := by decide +kernel
theorem d_B_takesToken_4 : decode m_B_takesToken.2.1 4 = .ok (.getstatic 291, 3) := by decide +kernel
theorem d_B_takesToken_7 : decode m_B_takesToken.2.1 7 = .ok (.if_acmp .ne 41, 3) := by decide +kernel
theorem d_B_takesToken_10 : decode m_B_takesToken.2.1 10 = .ok (.aload_n 1, 1) := by decide +kernel
theorem d_B_takesToken_11 : decode m_B_takesToken.2.1 11 = .ok (.aload_n 2, 1) := by decide +kernel
theorem d_B_takesToken_12 : decode m_B_takesToken.2.1 12 = .ok (.getfield 155, 3) := by decide +kernel
theorem d_B_takesToken_15 : decode m_B_takesToken.2.1 15 = .ok (.putfield 239, 3) := by decide +kernel
theorem d_B_takesToken_18 : decode m_B_takesToken.2.1 18 = .ok (.aload_n 1, 1) := by decide +kernel
theorem d_B_takesToken_19 : decode m_B_takesToken.2.1 19 = .ok (.aload_n 1, 1) := by decide +kernel
theorem d_B_takesToken_20 : decode m_B_takesToken.2.1 20 = .ok (.getfield 93, 3) := by decide +kernel
theorem d_B_takesToken_23 : decode m_B_takesToken.2.1 23 = .ok (.aload_n 2, 1) := by decide +kernel
theorem d_B_takesToken_24 : decode m_B_takesToken.2.1 24 = .ok (.getfield 161, 3) := by decide +kernel
theorem d_B_takesToken_27 : decode m_B_takesToken.2.1 27 = .ok (.iand, 1) := by decide +kernel
theorem d_B_takesToken_28 : decode m_B_takesToken.2.1 28 = .ok (.putfield 224, 3) := by decide +kernel
theorem d_B_takesToken_31 : decode m_B_takesToken.2.1 31 = .ok (.aload_n 1, 1) := by decide +kernel
theorem d_B_takesToken_32 : decode m_B_takesToken.2.1 32 = .ok (.aload_n 2, 1) := by decide +kernel
theorem d_B_takesToken_33 : decode m_B_takesToken.2.1 33 = .ok (.getfield 161, 3) := by decide +kernel
theorem d_B_takesToken_36 : decode m_B_takesToken.2.1 36 = .ok (.iconst 1, 1) := by decide +kernel
theorem d_B_takesToken_37 : decode m_B_takesToken.2.1 37 = .ok (.aload_n 1, 1) := by decide +kernel
theorem d_B_takesToken_38 : decode m_B_takesToken.2.1 38 = .ok (.getfield 294, 3) := by decide +kernel
theorem d_B_takesToken_41 : decode m_B_takesToken.2.1 41 = .ok (.ishl, 1) := by decide +kernel
theorem d_B_takesToken_42 : decode m_B_takesToken.2.1 42 = .ok (.ior, 1) := by decide +kernel
theorem d_B_takesToken_43 : decode m_B_takesToken.2.1 43 = .ok (.putfield 118, 3) := by decide +kernel
theorem d_B_takesToken_46 : decode m_B_takesToken.2.1 46 = .ok (.iconst 1, 1) := by decide +kernel
theorem d_B_takesToken_47 : decode m_B_takesToken.2.1 47 = .ok (.ireturn, 1) := by decide +kernel
theorem d_B_takesToken_48 : decode m_B_takesToken.2.1 48 = .ok (.aload_n 1, 1) := by decide +kernel
theorem d_B_takesToken_49 : decode m_B_takesToken.2.1 49 = .ok (.getfield 176, 3) := by decide +kernel
theorem d_B_takesToken_52 : decode m_B_takesToken.2.1 52 = .ok (.getstatic 189, 3) := by decide +kernel
theorem d_B_takesToken_55 : decode m_B_takesToken.2.1 55 = .ok (.if_acmp .ne 19, 3) := by decide +kernel
theorem d_B_takesToken_58 : decode m_B_takesToken.2.1 58 = .ok (.aload_n 1, 1) := by decide +kernel
theorem d_B_takesToken_59 : decode m_B_takesToken.2.1 59 = .ok (.getfield 239, 3) := by decide +kernel
theorem d_B_takesToken_62 : decode m_B_takesToken.2.1 62 = .ok (.aload_n 2, 1) := by decide +kernel
theorem d_B_takesToken_63 : decode m_B_takesToken.2.1 63 = .ok (.getfield 155, 3) := by decide +kernel
theorem d_B_takesToken_66 : decode m_B_takesToken.2.1 66 = .ok (.if_icmp .ne 8, 3) := by decide +kernel
theorem d_B_takesToken_69 : decode m_B_takesToken.2.1 69 = .ok (.aload_n 0, 1) := by decide +kernel
theorem d_B_takesToken_70 : decode m_B_takesToken.2.1 70 = .ok (.aload_n 1, 1) := by decide +kernel
theorem d_B_takesToken_71 : decode m_B_takesToken.2.1 71 = .ok (.invokevirtual 192, 3) := by decide +kernel
theorem d_B_takesToken_74 : decode m_B_takesToken.2.1 74 = .ok (.iconst 0, 1) := by decide +kernel
theorem d_B_takesToken_75 : decode m_B_takesToken.2.1 75 = .ok (.ireturn, 1) := by decide +kernel
theorem d_B_takesBack_0 : decode m_B_takesBack.2.1 0 = .ok (.aload_n 1, 1) := by decide +kernel
theorem d_B_takesBack_1 : decode m_B_takesBack.2.1 1 = .ok (.getfield 176, 3) := by decide +kernel
theorem d_B_takesBack_4 : decode m_B_takesBack.2.1 4 = .ok (.getstatic 180, 3) := by decide +kernel
theorem d_B_takesBack_7 : decode m_B_takesBack.2.1 7 = .ok (.if_acmp .ne 14, 3) := by decide +kernel
theorem d_B_takesBack_10 : decode m_B_takesBack.2.1 10 = .ok (.aload_n 1, 1) := by decide +kernel
theorem d_B_takesBack_11 : decode m_B_takesBack.2.1 11 = .ok (.getfield 297, 3) := by decide +kernel
theorem d_B_takesBack_14 : decode m_B_takesBack.2.1 14 = .ok (.aload_n 2, 1) := by decide +kernel
theorem d_B_takesBack_15 : decode m_B_takesBack.2.1 15 = .ok (.getfield 155, 3) := by decide +kernel
theorem d_B_takesBack_18 : decode m_B_takesBack.2.1 18 = .ok (.if_icmp .eq 5, 3) := by decide +kernel
theorem d_B_takesBack_21 : decode m_B_takesBack.2.1 21 = .ok (.iconst 0, 1) := by decide +kernel
theorem d_B_takesBack_22 : decode m_B_takesBack.2.1 22 = .ok (.ireturn, 1) := by decide +kernel
theorem d_B_takesBack_23 : decode m_B_takesBack.2.1 23 = .ok (.aload_n 1, 1) := by decide +kernel
theorem d_B_takesBack_24 : decode m_B_takesBack.2.1 24 = .ok (.aload_n 2, 1) := by decide +kernel
theorem d_B_takesBack_25 : decode m_B_takesBack.2.1 25 = .ok (.getfield 161, 3) := by decide +kernel
theorem d_B_takesBack_28 : decode m_B_takesBack.2.1 28 = .ok (.putfield 118, 3) := by decide +kernel
theorem d_B_takesBack_31 : decode m_B_takesBack.2.1 31 = .ok (.iconst 1, 1) := by decide +kernel
theorem d_B_takesBack_32 : decode m_B_takesBack.2.1 32 = .ok (.ireturn, 1) := by decide +kernel
theorem d_B_takesTable_0 : decode m_B_takesTable.2.1 0 = .ok (.aload_n 1, 1) := by decide +kernel
theorem d_B_takesTable_1 : decode m_B_takesTable.2.1 1 = .ok (.aload_n 2, 1) := by decide +kernel
theorem d_B_takesTable_2 : decode m_B_takesTable.2.1 2 = .ok (.getfield 155, 3) := by decide +kernel
theorem d_B_takesTable_5 : decode m_B_takesTable.2.1 5 = .ok (.invokevirtual 300, 3) := by decide +kernel
theorem d_B_takesTable_8 : decode m_B_takesTable.2.1 8 = .ok (.astore_n 3, 1) := by decide +kernel
theorem d_B_takesTable_9 : decode m_B_takesTable.2.1 9 = .ok (.aload_n 3, 1) := by decide +kernel
theorem d_B_takesTable_10 : decode m_B_takesTable.2.1 10 = .ok (.ifnull 14, 3) := by decide +kernel
theorem d_B_takesTable_13 : decode m_B_takesTable.2.1 13 = .ok (.aload_n 2, 1) := by decide +kernel
theorem d_B_takesTable_14 : decode m_B_takesTable.2.1 14 = .ok (.getfield 161, 3) := by decide +kernel
theorem d_B_takesTable_17 : decode m_B_takesTable.2.1 17 = .ok (.aload_n 3, 1) := by decide +kernel
theorem d_B_takesTable_18 : decode m_B_takesTable.2.1 18 = .ok (.getfield 304, 3) := by decide +kernel
theorem d_B_takesTable_21 : decode m_B_takesTable.2.1 21 = .ok (.if_icmp .gt 5, 3) := by decide +kernel
theorem d_B_takesTable_24 : decode m_B_takesTable.2.1 24 = .ok (.iconst 0, 1) := by decide +kernel
theorem d_B_takesTable_25 : decode m_B_takesTable.2.1 25 = .ok (.ireturn, 1) := by decide +kernel
theorem d_B_takesTable_26 : decode m_B_takesTable.2.1 26 = .ok (.aload_n 3, 1) := by decide +kernel
theorem d_B_takesTable_27 : decode m_B_takesTable.2.1 27 = .ok (.aload_n 2, 1) := by decide +kernel
theorem d_B_takesTable_28 : decode m_B_takesTable.2.1 28 = .ok (.getfield 161, 3) := by decide +kernel
theorem d_B_takesTable_31 : decode m_B_takesTable.2.1 31 = .ok (.putfield 304, 3) := by decide +kernel
theorem d_B_takesTable_34 : decode m_B_takesTable.2.1 34 = .ok (.aload_n 3, 1) := by decide +kernel
theorem d_B_takesTable_35 : decode m_B_takesTable.2.1 35 = .ok (.aload_n 2, 1) := by decide +kernel
theorem d_B_takesTable_36 : decode m_B_takesTable.2.1 36 = .ok (.getfield 284, 3) := by decide +kernel
theorem d_B_takesTable_39 : decode m_B_takesTable.2.1 39 = .ok (.putfield 307, 3) := by decide +kernel
theorem d_B_takesTable_42 : decode m_B_takesTable.2.1 42 = .ok (.aload_n 1, 1) := by decide +kernel
theorem d_B_takesTable_43 : decode m_B_takesTable.2.1 43 = .ok (.getfield 176, 3) := by decide +kernel
theorem d_B_takesTable_46 : decode m_B_takesTable.2.1 46 = .ok (.getstatic 189, 3) := by decide +kernel
theorem d_B_takesTable_49 : decode m_B_takesTable.2.1 49 = .ok (.if_acmp .ne 14, 3) := by decide +kernel
theorem d_B_takesTable_52 : decode m_B_takesTable.2.1 52 = .ok (.aload_n 1, 1) := by decide +kernel
theorem d_B_takesTable_53 : decode m_B_takesTable.2.1 53 = .ok (.invokevirtual 308, 3) := by decide +kernel
theorem d_B_takesTable_56 : decode m_B_takesTable.2.1 56 = .ok (.ifCond .eq 7, 3) := by decide +kernel
theorem d_B_takesTable_59 : decode m_B_takesTable.2.1 59 = .ok (.iconst 1, 1) := by decide +kernel
theorem d_B_takesTable_60 : decode m_B_takesTable.2.1 60 = .ok (.goto 4, 3) := by decide +kernel
theorem d_B_takesTable_63 : decode m_B_takesTable.2.1 63 = .ok (.iconst 0, 1) := by decide +kernel
theorem d_B_takesTable_64 : decode m_B_takesTable.2.1 64 = .ok (.ireturn, 1) := by decide +kernel
theorem d_A_childWith_0 : decode m_A_childWith.2.1 0 = .ok (.iconst 0, 1) := by decide +kernel
theorem d_A_childWith_1 : decode m_A_childWith.2.1 1 = .ok (.istore_n 2, 1) := by decide +kernel
theorem d_A_childWith_2 : decode m_A_childWith.2.1 2 = .ok (.iload_n 2, 1) := by decide +kernel
theorem d_A_childWith_3 : decode m_A_childWith.2.1 3 = .ok (.aload_n 0, 1) := by decide +kernel
theorem d_A_childWith_4 : decode m_A_childWith.2.1 4 = .ok (.getfield 62, 3) := by decide +kernel
theorem d_A_childWith_7 : decode m_A_childWith.2.1 7 = .ok (.if_icmp .ge 32, 3) := by decide +kernel
theorem d_A_childWith_10 : decode m_A_childWith.2.1 10 = .ok (.aload_n 0, 1) := by decide +kernel
theorem d_A_childWith_11 : decode m_A_childWith.2.1 11 = .ok (.getfield 17, 3) := by decide +kernel
theorem d_A_childWith_14 : decode m_A_childWith.2.1 14 = .ok (.iload_n 2, 1) := by decide +kernel
theorem d_A_childWith_15 : decode m_A_childWith.2.1 15 = .ok (.aaload, 1) := by decide +kernel
theorem d_A_childWith_16 : decode m_A_childWith.2.1 16 = .ok (.getfield 68, 3) := by decide +kernel
theorem d_A_childWith_19 : decode m_A_childWith.2.1 19 = .ok (.getfield 37, 3) := by decide +kernel
theorem d_A_childWith_22 : decode m_A_childWith.2.1 22 = .ok (.iload_n 1, 1) := by decide +kernel
theorem d_A_childWith_23 : decode m_A_childWith.2.1 23 = .ok (.if_icmp .ne 10, 3) := by decide +kernel
theorem d_A_childWith_26 : decode m_A_childWith.2.1 26 = .ok (.aload_n 0, 1) := by decide +kernel
theorem d_A_childWith_27 : decode m_A_childWith.2.1 27 = .ok (.getfield 17, 3) := by decide +kernel
theorem d_A_childWith_30 : decode m_A_childWith.2.1 30 = .ok (.iload_n 2, 1) := by decide +kernel
theorem d_A_childWith_31 : decode m_A_childWith.2.1 31 = .ok (.aaload, 1) := by decide +kernel
theorem d_A_childWith_32 : decode m_A_childWith.2.1 32 = .ok (.areturn, 1) := by decide +kernel
theorem d_A_childWith_33 : decode m_A_childWith.2.1 33 = .ok (.iinc 2 1, 3) := by decide +kernel
theorem d_A_childWith_36 : decode m_A_childWith.2.1 36 = .ok (.goto (-34), 3) := by decide +kernel
theorem d_A_childWith_39 : decode m_A_childWith.2.1 39 = .ok (.aconst_null, 1) := by decide +kernel
theorem d_A_childWith_40 : decode m_A_childWith.2.1 40 = .ok (.areturn, 1) := by decide +kernel
theorem d_B_again_0 : decode m_B_again.2.1 0 = .ok (.aload_n 0, 1) := by decide +kernel
theorem d_B_again_1 : decode m_B_again.2.1 1 = .ok (.iload_n 1, 1) := by decide +kernel
theorem d_B_again_2 : decode m_B_again.2.1 2 = .ok (.invokevirtual 69, 3) := by decide +kernel
theorem d_B_again_5 : decode m_B_again.2.1 5 = .ok (.ifCond .ne 13, 3) := by decide +kernel
theorem d_B_again_8 : decode m_B_again.2.1 8 = .ok (.new 35, 3) := by decide +kernel
theorem d_B_again_11 : decode m_B_again.2.1 11 = .ok (.dup, 1) := by decide +kernel
theorem d_B_again_12 : decode m_B_again.2.1 12 = .ok (.ldc 172, 2) := by decide +kernel
theorem d_B_again_14 : decode m_B_again.2.1 14 = .ok (.invokespecial 39, 3) := by decide +kernel
theorem d_B_again_17 : decode m_B_again.2.1 17 = .ok (.athrow, 1) := by decide +kernel
theorem d_B_again_18 : decode m_B_again.2.1 18 = .ok (.aload_n 0, 1) := by decide +kernel
theorem d_B_again_19 : decode m_B_again.2.1 19 = .ok (.getfield 31, 3) := by decide +kernel
theorem d_B_again_22 : decode m_B_again.2.1 22 = .ok (.ifCond .eq 13, 3) := by decide +kernel
theorem d_B_again_25 : decode m_B_again.2.1 25 = .ok (.new 46, 3) := by decide +kernel
theorem d_B_again_28 : decode m_B_again.2.1 28 = .ok (.dup, 1) := by decide +kernel
theorem d_B_again_29 : decode m_B_again.2.1 29 = .ok (.ldc 174, 2) := by decide +kernel
theorem d_B_again_31 : decode m_B_again.2.1 31 = .ok (.invokespecial 50, 3) := by decide +kernel
theorem d_B_again_34 : decode m_B_again.2.1 34 = .ok (.athrow, 1) := by decide +kernel
theorem d_B_again_35 : decode m_B_again.2.1 35 = .ok (.aload_n 0, 1) := by decide +kernel
theorem d_B_again_36 : decode m_B_again.2.1 36 = .ok (.getfield 11, 3) := by decide +kernel
theorem d_B_again_39 : decode m_B_again.2.1 39 = .ok (.iload_n 1, 1) := by decide +kernel
theorem d_B_again_40 : decode m_B_again.2.1 40 = .ok (.aaload, 1) := by decide +kernel
theorem d_B_again_41 : decode m_B_again.2.1 41 = .ok (.astore_n 2, 1) := by decide +kernel
theorem d_B_again_42 : decode m_B_again.2.1 42 = .ok (.aload_n 2, 1) := by decide +kernel
theorem d_B_again_43 : decode m_B_again.2.1 43 = .ok (.getfield 176, 3) := by decide +kernel
theorem d_B_again_46 : decode m_B_again.2.1 46 = .ok (.getstatic 180, 3) := by decide +kernel
theorem d_B_again_49 : decode m_B_again.2.1 49 = .ok (.if_acmp .ne 8, 3) := by decide +kernel
theorem d_B_again_52 : decode m_B_again.2.1 52 = .ok (.aload_n 0, 1) := by decide +kernel
theorem d_B_again_53 : decode m_B_again.2.1 53 = .ok (.aload_n 2, 1) := by decide +kernel
theorem d_B_again_54 : decode m_B_again.2.1 54 = .ok (.invokevirtual 185, 3) := by decide +kernel
theorem d_B_again_57 : decode m_B_again.2.1 57 = .ok (.aload_n 2, 1) := by decide +kernel
theorem d_B_again_58 : decode m_B_again.2.1 58 = .ok (.getfield 176, 3) := by decide +kernel
theorem d_B_again_61 : decode m_B_again.2.1 61 = .ok (.getstatic 189, 3) := by decide +kernel
theorem d_B_again_64 : decode m_B_again.2.1 64 = .ok (.if_acmp .ne 8, 3) := by decide +kernel
theorem d_B_again_67 : decode m_B_again.2.1 67 = .ok (.aload_n 0, 1) := by decide +kernel
theorem d_B_again_68 : decode m_B_again.2.1 68 = .ok (.aload_n 2, 1) := by decide +kernel
theorem d_B_again_69 : decode m_B_again.2.1 69 = .ok (.invokevirtual 192, 3) := by decide +kernel
theorem d_B_again_72 : decode m_B_again.2.1 72 = .ok (.aload_n 2, 1) := by decide +kernel
theorem d_B_again_73 : decode m_B_again.2.1 73 = .ok (.getfield 195, 3) := by decide +kernel
theorem d_B_again_76 : decode m_B_again.2.1 76 = .ok (.ifnull 8, 3) := by decide +kernel
theorem d_B_again_79 : decode m_B_again.2.1 79 = .ok (.aload_n 0, 1) := by decide +kernel
theorem d_B_again_80 : decode m_B_again.2.1 80 = .ok (.aload_n 2, 1) := by decide +kernel
theorem d_B_again_81 : decode m_B_again.2.1 81 = .ok (.invokevirtual 198, 3) := by decide +kernel
theorem d_B_again_84 : decode m_B_again.2.1 84 = .ok (.aload_n 2, 1) := by decide +kernel
theorem d_B_again_85 : decode m_B_again.2.1 85 = .ok (.getfield 201, 3) := by decide +kernel
theorem d_B_again_88 : decode m_B_again.2.1 88 = .ok (.ifnull 8, 3) := by decide +kernel
theorem d_B_again_91 : decode m_B_again.2.1 91 = .ok (.aload_n 0, 1) := by decide +kernel
theorem d_B_again_92 : decode m_B_again.2.1 92 = .ok (.aload_n 2, 1) := by decide +kernel
theorem d_B_again_93 : decode m_B_again.2.1 93 = .ok (.invokevirtual 204, 3) := by decide +kernel
theorem d_B_again_96 : decode m_B_again.2.1 96 = .ok (.aload_n 0, 1) := by decide +kernel
theorem d_B_again_97 : decode m_B_again.2.1 97 = .ok (.getfield 139, 3) := by decide +kernel
theorem d_B_again_100 : decode m_B_again.2.1 100 = .ok (.ireturn, 1) := by decide +kernel
theorem d_B_change_0 : decode m_B_change.2.1 0 = .ok (.aload_n 0, 1) := by decide +kernel
theorem d_B_change_1 : decode m_B_change.2.1 1 = .ok (.iload_n 1, 1) := by decide +kernel
theorem d_B_change_2 : decode m_B_change.2.1 2 = .ok (.iload_n 2, 1) := by decide +kernel
theorem d_B_change_3 : decode m_B_change.2.1 3 = .ok (.iload_n 3, 1) := by decide +kernel
theorem d_B_change_4 : decode m_B_change.2.1 4 = .ok (.iload 4, 2) := by decide +kernel
theorem d_B_change_6 : decode m_B_change.2.1 6 = .ok (.invokevirtual 96, 3) := by decide +kernel
theorem d_B_change_9 : decode m_B_change.2.1 9 = .ok (.astore 6, 2) := by decide +kernel
theorem d_B_change_11 : decode m_B_change.2.1 11 = .ok (.aload 6, 2) := by decide +kernel
theorem d_B_change_13 : decode m_B_change.2.1 13 = .ok (.ifnull 11, 3) := by decide +kernel
theorem d_B_change_16 : decode m_B_change.2.1 16 = .ok (.iload 5, 2) := by decide +kernel
theorem d_B_change_18 : decode m_B_change.2.1 18 = .ok (.invokestatic 58, 3) := by decide +kernel
theorem d_B_change_21 : decode m_B_change.2.1 21 = .ok (.ifCond .ne 13, 3) := by decide +kernel
theorem d_B_change_24 : decode m_B_change.2.1 24 = .ok (.new 35, 3) := by decide +kernel
theorem d_B_change_27 : decode m_B_change.2.1 27 = .ok (.dup, 1) := by decide +kernel
theorem d_B_change_28 : decode m_B_change.2.1 28 = .ok (.ldc 100, 2) := by decide +kernel
theorem d_B_change_30 : decode m_B_change.2.1 30 = .ok (.invokespecial 39, 3) := by decide +kernel
theorem d_B_change_33 : decode m_B_change.2.1 33 = .ok (.athrow, 1) := by decide +kernel
theorem d_B_change_34 : decode m_B_change.2.1 34 = .ok (.aload_n 0, 1) := by decide +kernel
theorem d_B_change_35 : decode m_B_change.2.1 35 = .ok (.invokevirtual 207, 3) := by decide +kernel
theorem d_B_change_38 : decode m_B_change.2.1 38 = .ok (.istore 7, 2) := by decide +kernel
theorem d_B_change_40 : decode m_B_change.2.1 40 = .ok (.iload 7, 2) := by decide +kernel
theorem d_B_change_42 : decode m_B_change.2.1 42 = .ok (.iconst 1, 1) := by decide +kernel
theorem d_B_change_43 : decode m_B_change.2.1 43 = .ok (.if_icmp .eq 19, 3) := by decide +kernel
theorem d_B_change_46 : decode m_B_change.2.1 46 = .ok (.iload 7, 2) := by decide +kernel
theorem d_B_change_48 : decode m_B_change.2.1 48 = .ok (.iconst 2, 1) := by decide +kernel
theorem d_B_change_49 : decode m_B_change.2.1 49 = .ok (.if_icmp .eq 13, 3) := by decide +kernel
theorem d_B_change_52 : decode m_B_change.2.1 52 = .ok (.new 46, 3) := by decide +kernel
theorem d_B_change_55 : decode m_B_change.2.1 55 = .ok (.dup, 1) := by decide +kernel
theorem d_B_change_56 : decode m_B_change.2.1 56 = .ok (.ldc 210, 2) := by decide +kernel
theorem d_B_change_58 : decode m_B_change.2.1 58 = .ok (.invokespecial 50, 3) := by decide +kernel
theorem d_B_change_61 : decode m_B_change.2.1 61 = .ok (.athrow, 1) := by decide +kernel
theorem d_B_change_62 : decode m_B_change.2.1 62 = .ok (.aload 6, 2) := by decide +kernel
theorem d_B_change_64 : decode m_B_change.2.1 64 = .ok (.getfield 102, 3) := by decide +kernel
theorem d_B_change_67 : decode m_B_change.2.1 67 = .ok (.aload 6, 2) := by decide +kernel
theorem d_B_change_69 : decode m_B_change.2.1 69 = .ok (.iload_n 1, 1) := by decide +kernel
theorem d_B_change_70 : decode m_B_change.2.1 70 = .ok (.iload_n 3, 1) := by decide +kernel
theorem d_B_change_71 : decode m_B_change.2.1 71 = .ok (.iload 4, 2) := by decide +kernel
theorem d_B_change_73 : decode m_B_change.2.1 73 = .ok (.invokevirtual 105, 3) := by decide +kernel
theorem d_B_change_76 : decode m_B_change.2.1 76 = .ok (.iload 5, 2) := by decide +kernel
theorem d_B_change_78 : decode m_B_change.2.1 78 = .ok (.iastore, 1) := by decide +kernel
theorem d_B_change_79 : decode m_B_change.2.1 79 = .ok (.aload_n 0, 1) := by decide +kernel
theorem d_B_change_80 : decode m_B_change.2.1 80 = .ok (.getfield 11, 3) := by decide +kernel
theorem d_B_change_83 : decode m_B_change.2.1 83 = .ok (.iload_n 1, 1) := by decide +kernel
theorem d_B_change_84 : decode m_B_change.2.1 84 = .ok (.aaload, 1) := by decide +kernel
theorem d_B_change_85 : decode m_B_change.2.1 85 = .ok (.getfield 212, 3) := by decide +kernel
theorem d_B_change_88 : decode m_B_change.2.1 88 = .ok (.astore 8, 2) := by decide +kernel
theorem d_B_change_90 : decode m_B_change.2.1 90 = .ok (.aload 8, 2) := by decide +kernel
theorem d_B_change_92 : decode m_B_change.2.1 92 = .ok (.dup, 1) := by decide +kernel
theorem d_B_change_93 : decode m_B_change.2.1 93 = .ok (.getfield 216, 3) := by decide +kernel
theorem d_B_change_96 : decode m_B_change.2.1 96 = .ok (.iconst 1, 1) := by decide +kernel
theorem d_B_change_97 : decode m_B_change.2.1 97 = .ok (.iadd, 1) := by decide +kernel
theorem d_B_change_98 : decode m_B_change.2.1 98 = .ok (.putfield 216, 3) := by decide +kernel
theorem d_B_change_101 : decode m_B_change.2.1 101 = .ok (.aload_n 0, 1) := by decide +kernel
theorem d_B_change_102 : decode m_B_change.2.1 102 = .ok (.iconst 0, 1) := by decide +kernel
theorem d_B_change_103 : decode m_B_change.2.1 103 = .ok (.putfield 221, 3) := by decide +kernel
theorem d_B_change_106 : decode m_B_change.2.1 106 = .ok (.aload_n 0, 1) := by decide +kernel
theorem d_B_change_107 : decode m_B_change.2.1 107 = .ok (.aload_n 0, 1) := by decide +kernel
theorem d_B_change_108 : decode m_B_change.2.1 108 = .ok (.getfield 11, 3) := by decide +kernel
theorem d_B_change_111 : decode m_B_change.2.1 111 = .ok (.iload_n 1, 1) := by decide +kernel
theorem d_B_change_112 : decode m_B_change.2.1 112 = .ok (.aaload, 1) := by decide +kernel
theorem d_B_change_113 : decode m_B_change.2.1 113 = .ok (.getfield 224, 3) := by decide +kernel
theorem d_B_change_116 : decode m_B_change.2.1 116 = .ok (.iload_n 2, 1) := by decide +kernel
theorem d_B_change_117 : decode m_B_change.2.1 117 = .ok (.invokestatic 227, 3) := by decide +kernel
theorem d_B_change_120 : decode m_B_change.2.1 120 = .ok (.ifCond .eq 12, 3) := by decide +kernel
theorem d_B_change_123 : decode m_B_change.2.1 123 = .ok (.aload_n 0, 1) := by decide +kernel
theorem d_B_change_124 : decode m_B_change.2.1 124 = .ok (.getfield 11, 3) := by decide +kernel
theorem d_B_change_127 : decode m_B_change.2.1 127 = .ok (.iload_n 1, 1) := by decide +kernel
theorem d_B_change_128 : decode m_B_change.2.1 128 = .ok (.aaload, 1) := by decide +kernel
theorem d_B_change_129 : decode m_B_change.2.1 129 = .ok (.goto 9, 3) := by decide +kernel
theorem d_B_change_132 : decode m_B_change.2.1 132 = .ok (.aload_n 0, 1) := by decide +kernel
theorem d_B_change_133 : decode m_B_change.2.1 133 = .ok (.getfield 11, 3) := by decide +kernel
theorem d_B_change_136 : decode m_B_change.2.1 136 = .ok (.iload_n 2, 1) := by decide +kernel
theorem d_B_change_137 : decode m_B_change.2.1 137 = .ok (.aaload, 1) := by decide +kernel
theorem d_B_change_138 : decode m_B_change.2.1 138 = .ok (.aload 8, 2) := by decide +kernel
theorem d_B_change_140 : decode m_B_change.2.1 140 = .ok (.getfield 216, 3) := by decide +kernel
theorem d_B_change_143 : decode m_B_change.2.1 143 = .ok (.invokevirtual 125, 3) := by decide +kernel
theorem d_B_change_146 : decode m_B_change.2.1 146 = .ok (.aload_n 0, 1) := by decide +kernel
theorem d_B_change_147 : decode m_B_change.2.1 147 = .ok (.getfield 139, 3) := by decide +kernel
theorem d_B_change_150 : decode m_B_change.2.1 150 = .ok (.ireturn, 1) := by decide +kernel
theorem d_W_agent_0 : decode m_W_agent.2.1 0 = .ok (.aload_n 2, 1) := by decide +kernel
theorem d_W_agent_1 : decode m_W_agent.2.1 1 = .ok (.iconst 0, 1) := by decide +kernel
theorem d_W_agent_2 : decode m_W_agent.2.1 2 = .ok (.aload_n 0, 1) := by decide +kernel
theorem d_W_agent_3 : decode m_W_agent.2.1 3 = .ok (.iload_n 1, 1) := by decide +kernel
theorem d_W_agent_4 : decode m_W_agent.2.1 4 = .ok (.invokevirtual 7, 3) := by decide +kernel
theorem d_W_agent_7 : decode m_W_agent.2.1 7 = .ok (.i2l, 1) := by decide +kernel
theorem d_W_agent_8 : decode m_W_agent.2.1 8 = .ok (.lastore, 1) := by decide +kernel
theorem d_W_agent_9 : decode m_W_agent.2.1 9 = .ok (.goto 9, 3) := by decide +kernel
theorem d_W_agent_12 : decode m_W_agent.2.1 12 = .ok (.astore_n 3, 1) := by decide +kernel
theorem d_W_agent_13 : decode m_W_agent.2.1 13 = .ok (.iconst 1, 1) := by decide +kernel
theorem d_W_agent_14 : decode m_W_agent.2.1 14 = .ok (.ireturn, 1) := by decide +kernel
theorem d_W_agent_15 : decode m_W_agent.2.1 15 = .ok (.astore_n 3, 1) := by decide +kernel
theorem d_W_agent_16 : decode m_W_agent.2.1 16 = .ok (.iconst 2, 1) := by decide +kernel
theorem d_W_agent_17 : decode m_W_agent.2.1 17 = .ok (.ireturn, 1) := by decide +kernel
theorem d_W_agent_18 : decode m_W_agent.2.1 18 = .ok (.iconst 0, 1) := by decide +kernel
theorem d_W_agent_19 : decode m_W_agent.2.1 19 = .ok (.ireturn, 1) := by decide +kernel
theorem d_W_own_0 : decode m_W_own.2.1 0 = .ok (.aload_n 0, 1) := by decide +kernel
theorem d_W_own_1 : decode m_W_own.2.1 1 = .ok (.iload_n 1, 1) := by decide +kernel
theorem d_W_own_2 : decode m_W_own.2.1 2 = .ok (.iload_n 2, 1) := by decide +kernel
theorem d_W_own_3 : decode m_W_own.2.1 3 = .ok (.iload_n 3, 1) := by decide +kernel
theorem d_W_own_4 : decode m_W_own.2.1 4 = .ok (.invokevirtual 17, 3) := by decide +kernel
theorem d_W_own_7 : decode m_W_own.2.1 7 = .ok (.goto 11, 3) := by decide +kernel
theorem d_W_own_10 : decode m_W_own.2.1 10 = .ok (.astore 4, 2) := by decide +kernel
theorem d_W_own_12 : decode m_W_own.2.1 12 = .ok (.iconst 1, 1) := by decide +kernel
theorem d_W_own_13 : decode m_W_own.2.1 13 = .ok (.ireturn, 1) := by decide +kernel
theorem d_W_own_14 : decode m_W_own.2.1 14 = .ok (.astore 4, 2) := by decide +kernel
theorem d_W_own_16 : decode m_W_own.2.1 16 = .ok (.iconst 2, 1) := by decide +kernel
theorem d_W_own_17 : decode m_W_own.2.1 17 = .ok (.ireturn, 1) := by decide +kernel
theorem d_W_own_18 : decode m_W_own.2.1 18 = .ok (.iconst 0, 1) := by decide +kernel
theorem d_W_own_19 : decode m_W_own.2.1 19 = .ok (.ireturn, 1) := by decide +kernel
theorem d_W_pair_0 : decode m_W_pair.2.1 0 = .ok (.aload_n 3, 1) := by decide +kernel
theorem d_W_pair_1 : decode m_W_pair.2.1 1 = .ok (.iconst 0, 1) := by decide +kernel
theorem d_W_pair_2 : decode m_W_pair.2.1 2 = .ok (.aload_n 0, 1) := by decide +kernel
theorem d_W_pair_3 : decode m_W_pair.2.1 3 = .ok (.iload_n 1, 1) := by decide +kernel
theorem d_W_pair_4 : decode m_W_pair.2.1 4 = .ok (.iload_n 2, 1) := by decide +kernel
theorem d_W_pair_5 : decode m_W_pair.2.1 5 = .ok (.invokevirtual 21, 3) := by decide +kernel
theorem d_W_pair_8 : decode m_W_pair.2.1 8 = .ok (.i2l, 1) := by decide +kernel
theorem d_W_pair_9 : decode m_W_pair.2.1 9 = .ok (.lastore, 1) := by decide +kernel
theorem d_W_pair_10 : decode m_W_pair.2.1 10 = .ok (.goto 11, 3) := by decide +kernel
theorem d_W_pair_13 : decode m_W_pair.2.1 13 = .ok (.astore 4, 2) := by decide +kernel
theorem d_W_pair_15 : decode m_W_pair.2.1 15 = .ok (.iconst 1, 1) := by decide +kernel
theorem d_W_pair_16 : decode m_W_pair.2.1 16 = .ok (.ireturn, 1) := by decide +kernel
theorem d_W_pair_17 : decode m_W_pair.2.1 17 = .ok (.astore 4, 2) := by decide +kernel
theorem d_W_pair_19 : decode m_W_pair.2.1 19 = .ok (.iconst 2, 1) := by decide +kernel
theorem d_W_pair_20 : decode m_W_pair.2.1 20 = .ok (.ireturn, 1) := by decide +kernel
theorem d_W_pair_21 : decode m_W_pair.2.1 21 = .ok (.iconst 0, 1) := by decide +kernel
theorem d_W_pair_22 : decode m_W_pair.2.1 22 = .ok (.ireturn, 1) := by decide +kernel
theorem d_W_cost_0 : decode m_W_cost.2.1 0 = .ok (.aload_n 0, 1) := by decide +kernel
theorem d_W_cost_1 : decode m_W_cost.2.1 1 = .ok (.iload_n 1, 1) := by decide +kernel
theorem d_W_cost_2 : decode m_W_cost.2.1 2 = .ok (.iload_n 2, 1) := by decide +kernel
theorem d_W_cost_3 : decode m_W_cost.2.1 3 = .ok (.iload_n 3, 1) := by decide +kernel
theorem d_W_cost_4 : decode m_W_cost.2.1 4 = .ok (.iload 4, 2) := by decide +kernel
theorem d_W_cost_6 : decode m_W_cost.2.1 6 = .ok (.iload 5, 2) := by decide +kernel
theorem d_W_cost_8 : decode m_W_cost.2.1 8 = .ok (.invokevirtual 25, 3) := by decide +kernel
theorem d_W_cost_11 : decode m_W_cost.2.1 11 = .ok (.goto 11, 3) := by decide +kernel
theorem d_W_cost_14 : decode m_W_cost.2.1 14 = .ok (.astore 6, 2) := by decide +kernel
theorem d_W_cost_16 : decode m_W_cost.2.1 16 = .ok (.iconst 1, 1) := by decide +kernel
theorem d_W_cost_17 : decode m_W_cost.2.1 17 = .ok (.ireturn, 1) := by decide +kernel
theorem d_W_cost_18 : decode m_W_cost.2.1 18 = .ok (.astore 6, 2) := by decide +kernel
theorem d_W_cost_20 : decode m_W_cost.2.1 20 = .ok (.iconst 2, 1) := by decide +kernel
theorem d_W_cost_21 : decode m_W_cost.2.1 21 = .ok (.ireturn, 1) := by decide +kernel
theorem d_W_cost_22 : decode m_W_cost.2.1 22 = .ok (.iconst 0, 1) := by decide +kernel
theorem d_W_cost_23 : decode m_W_cost.2.1 23 = .ok (.ireturn, 1) := by decide +kernel
theorem d_W_start_0 : decode m_W_start.2.1 0 = .ok (.aload_n 1, 1) := by decide +kernel
theorem d_W_start_1 : decode m_W_start.2.1 1 = .ok (.iconst 0, 1) := by decide +kernel
theorem d_W_start_2 : decode m_W_start.2.1 2 = .ok (.aload_n 0, 1) := by decide +kernel
theorem d_W_start_3 : decode m_W_start.2.1 3 = .ok (.invokevirtual 29, 3) := by decide +kernel
theorem d_W_start_6 : decode m_W_start.2.1 6 = .ok (.i2l, 1) := by decide +kernel
theorem d_W_start_7 : decode m_W_start.2.1 7 = .ok (.lastore, 1) := by decide +kernel
theorem d_W_start_8 : decode m_W_start.2.1 8 = .ok (.goto 6, 3) := by decide +kernel
theorem d_W_start_11 : decode m_W_start.2.1 11 = .ok (.astore_n 2, 1) := by decide +kernel
theorem d_W_start_12 : decode m_W_start.2.1 12 = .ok (.iconst 1, 1) := by decide +kernel
theorem d_W_start_13 : decode m_W_start.2.1 13 = .ok (.ireturn, 1) := by decide +kernel
theorem d_W_start_14 : decode m_W_start.2.1 14 = .ok (.iconst 0, 1) := by decide +kernel
theorem d_W_start_15 : decode m_W_start.2.1 15 = .ok (.ireturn, 1) := by decide +kernel
theorem d_W_letter_0 : decode m_W_letter.2.1 0 = .ok (.aload_n 3, 1) := by decide +kernel
theorem d_W_letter_1 : decode m_W_letter.2.1 1 = .ok (.iconst 0, 1) := by decide +kernel
theorem d_W_letter_2 : decode m_W_letter.2.1 2 = .ok (.aload_n 0, 1) := by decide +kernel
theorem d_W_letter_3 : decode m_W_letter.2.1 3 = .ok (.iload_n 1, 1) := by decide +kernel
theorem d_W_letter_4 : decode m_W_letter.2.1 4 = .ok (.iload_n 2, 1) := by decide +kernel
theorem d_W_letter_5 : decode m_W_letter.2.1 5 = .ok (.invokevirtual 33, 3) := by decide +kernel
theorem d_W_letter_8 : decode m_W_letter.2.1 8 = .ok (.i2l, 1) := by decide +kernel
theorem d_W_letter_9 : decode m_W_letter.2.1 9 = .ok (.lastore, 1) := by decide +kernel
theorem d_W_letter_10 : decode m_W_letter.2.1 10 = .ok (.goto 15, 3) := by decide +kernel
theorem d_W_letter_13 : decode m_W_letter.2.1 13 = .ok (.astore 4, 2) := by decide +kernel
theorem d_W_letter_15 : decode m_W_letter.2.1 15 = .ok (.iconst 1, 1) := by decide +kernel
theorem d_W_letter_16 : decode m_W_letter.2.1 16 = .ok (.ireturn, 1) := by decide +kernel
theorem d_W_letter_17 : decode m_W_letter.2.1 17 = .ok (.astore 4, 2) := by decide +kernel
theorem d_W_letter_19 : decode m_W_letter.2.1 19 = .ok (.iconst 2, 1) := by decide +kernel
theorem d_W_letter_20 : decode m_W_letter.2.1 20 = .ok (.ireturn, 1) := by decide +kernel
theorem d_W_letter_21 : decode m_W_letter.2.1 21 = .ok (.astore 4, 2) := by decide +kernel
theorem d_W_letter_23 : decode m_W_letter.2.1 23 = .ok (.iconst 3, 1) := by decide +kernel
theorem d_W_letter_24 : decode m_W_letter.2.1 24 = .ok (.ireturn, 1) := by decide +kernel
theorem d_W_letter_25 : decode m_W_letter.2.1 25 = .ok (.iconst 0, 1) := by decide +kernel
theorem d_W_letter_26 : decode m_W_letter.2.1 26 = .ok (.ireturn, 1) := by decide +kernel
theorem d_W_again_0 : decode m_W_again.2.1 0 = .ok (.aload_n 2, 1) := by decide +kernel
theorem d_W_again_1 : decode m_W_again.2.1 1 = .ok (.iconst 0, 1) := by decide +kernel
theorem d_W_again_2 : decode m_W_again.2.1 2 = .ok (.aload_n 0, 1) := by decide +kernel
theorem d_W_again_3 : decode m_W_again.2.1 3 = .ok (.iload_n 1, 1) := by decide +kernel
theorem d_W_again_4 : decode m_W_again.2.1 4 = .ok (.invokevirtual 38, 3) := by decide +kernel
theorem d_W_again_7 : decode m_W_again.2.1 7 = .ok (.i2l, 1) := by decide +kernel
theorem d_W_again_8 : decode m_W_again.2.1 8 = .ok (.lastore, 1) := by decide +kernel
theorem d_W_again_9 : decode m_W_again.2.1 9 = .ok (.goto 9, 3) := by decide +kernel
theorem d_W_again_12 : decode m_W_again.2.1 12 = .ok (.astore_n 3, 1) := by decide +kernel
theorem d_W_again_13 : decode m_W_again.2.1 13 = .ok (.iconst 1, 1) := by decide +kernel
theorem d_W_again_14 : decode m_W_again.2.1 14 = .ok (.ireturn, 1) := by decide +kernel
theorem d_W_again_15 : decode m_W_again.2.1 15 = .ok (.astore_n 3, 1) := by decide +kernel
theorem d_W_again_16 : decode m_W_again.2.1 16 = .ok (.iconst 2, 1) := by decide +kernel
theorem d_W_again_17 : decode m_W_again.2.1 17 = .ok (.ireturn, 1) := by decide +kernel
theorem d_W_again_18 : decode m_W_again.2.1 18 = .ok (.iconst 0, 1) := by decide +kernel
theorem d_W_again_19 : decode m_W_again.2.1 19 = .ok (.ireturn, 1) := by decide +kernel

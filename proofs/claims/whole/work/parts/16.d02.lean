/-! DECODED: written by wip/whole/gen/dec.py -/
theorem d_B_mostJoined_0 : decode m_B_mostJoined.2.1 0 = .ok (.iconst (-1), 1) := by decide +kernel
theorem d_B_mostJoined_1 : decode m_B_mostJoined.2.1 1 = .ok (.istore_n 2, 1) := by decide +kernel
theorem d_B_mostJoined_2 : decode m_B_mostJoined.2.1 2 = .ok (.iconst (-1), 1) := by decide +kernel
theorem d_B_mostJoined_3 : decode m_B_mostJoined.2.1 3 = .ok (.istore_n 3, 1) := by decide +kernel
theorem d_B_mostJoined_4 : decode m_B_mostJoined.2.1 4 = .ok (.iconst 0, 1) := by decide +kernel
theorem d_B_mostJoined_5 : decode m_B_mostJoined.2.1 5 = .ok (.istore 4, 2) := by decide +kernel
theorem d_B_mostJoined_7 : decode m_B_mostJoined.2.1 7 = .ok (.iload 4, 2) := by decide +kernel
theorem d_B_mostJoined_9 : decode m_B_mostJoined.2.1 9 = .ok (.aload_n 0, 1) := by decide +kernel
theorem d_B_mostJoined_10 : decode m_B_mostJoined.2.1 10 = .ok (.getfield 42, 3) := by decide +kernel
theorem d_B_mostJoined_13 : decode m_B_mostJoined.2.1 13 = .ok (.if_icmp .ge 45, 3) := by decide +kernel
theorem d_B_mostJoined_16 : decode m_B_mostJoined.2.1 16 = .ok (.aload_n 0, 1) := by decide +kernel
theorem d_B_mostJoined_17 : decode m_B_mostJoined.2.1 17 = .ok (.getfield 11, 3) := by decide +kernel
theorem d_B_mostJoined_20 : decode m_B_mostJoined.2.1 20 = .ok (.iload 4, 2) := by decide +kernel
theorem d_B_mostJoined_22 : decode m_B_mostJoined.2.1 22 = .ok (.aaload, 1) := by decide +kernel
theorem d_B_mostJoined_23 : decode m_B_mostJoined.2.1 23 = .ok (.getfield 93, 3) := by decide +kernel
theorem d_B_mostJoined_26 : decode m_B_mostJoined.2.1 26 = .ok (.invokestatic 266, 3) := by decide +kernel
theorem d_B_mostJoined_29 : decode m_B_mostJoined.2.1 29 = .ok (.istore 5, 2) := by decide +kernel
theorem d_B_mostJoined_31 : decode m_B_mostJoined.2.1 31 = .ok (.iload_n 1, 1) := by decide +kernel
theorem d_B_mostJoined_32 : decode m_B_mostJoined.2.1 32 = .ok (.iload 4, 2) := by decide +kernel
theorem d_B_mostJoined_34 : decode m_B_mostJoined.2.1 34 = .ok (.invokestatic 227, 3) := by decide +kernel
theorem d_B_mostJoined_37 : decode m_B_mostJoined.2.1 37 = .ok (.ifCond .eq 15, 3) := by decide +kernel
theorem d_B_mostJoined_40 : decode m_B_mostJoined.2.1 40 = .ok (.iload 5, 2) := by decide +kernel
theorem d_B_mostJoined_42 : decode m_B_mostJoined.2.1 42 = .ok (.iload_n 3, 1) := by decide +kernel
theorem d_B_mostJoined_43 : decode m_B_mostJoined.2.1 43 = .ok (.if_icmp .le 9, 3) := by decide +kernel
theorem d_B_mostJoined_46 : decode m_B_mostJoined.2.1 46 = .ok (.iload 4, 2) := by decide +kernel
theorem d_B_mostJoined_48 : decode m_B_mostJoined.2.1 48 = .ok (.istore_n 2, 1) := by decide +kernel
theorem d_B_mostJoined_49 : decode m_B_mostJoined.2.1 49 = .ok (.iload 5, 2) := by decide +kernel
theorem d_B_mostJoined_51 : decode m_B_mostJoined.2.1 51 = .ok (.istore_n 3, 1) := by decide +kernel
theorem d_B_mostJoined_52 : decode m_B_mostJoined.2.1 52 = .ok (.iinc 4 1, 3) := by decide +kernel
theorem d_B_mostJoined_55 : decode m_B_mostJoined.2.1 55 = .ok (.goto (-48), 3) := by decide +kernel
theorem d_B_mostJoined_58 : decode m_B_mostJoined.2.1 58 = .ok (.iload_n 2, 1) := by decide +kernel
theorem d_B_mostJoined_59 : decode m_B_mostJoined.2.1 59 = .ok (.ireturn, 1) := by decide +kernel
theorem d_J_bitCount_0 : decode m_J_bitCount.2.1 0 = .ok (.iload_n 0, 1) := by decide +kernel
theorem d_J_bitCount_1 : decode m_J_bitCount.2.1 1 = .ok (.iload_n 0, 1) := by decide +kernel
theorem d_J_bitCount_2 : decode m_J_bitCount.2.1 2 = .ok (.iconst 1, 1) := by decide +kernel
theorem d_J_bitCount_3 : decode m_J_bitCount.2.1 3 = .ok (.iushr, 1) := by decide +kernel
theorem d_J_bitCount_4 : decode m_J_bitCount.2.1 4 = .ok (.ldc_w 265, 3) := by decide +kernel
theorem d_J_bitCount_7 : decode m_J_bitCount.2.1 7 = .ok (.iand, 1) := by decide +kernel
theorem d_J_bitCount_8 : decode m_J_bitCount.2.1 8 = .ok (.isub, 1) := by decide +kernel
theorem d_J_bitCount_9 : decode m_J_bitCount.2.1 9 = .ok (.istore_n 0, 1) := by decide +kernel
theorem d_J_bitCount_10 : decode m_J_bitCount.2.1 10 = .ok (.iload_n 0, 1) := by decide +kernel
theorem d_J_bitCount_11 : decode m_J_bitCount.2.1 11 = .ok (.ldc_w 266, 3) := by decide +kernel
theorem d_J_bitCount_14 : decode m_J_bitCount.2.1 14 = .ok (.iand, 1) := by decide +kernel
theorem d_J_bitCount_15 : decode m_J_bitCount.2.1 15 = .ok (.iload_n 0, 1) := by decide +kernel
theorem d_J_bitCount_16 : decode m_J_bitCount.2.1 16 = .ok (.iconst 2, 1) := by decide +kernel
theorem d_J_bitCount_17 : decode m_J_bitCount.2.1 17 = .ok (.iushr, 1) := by decide +kernel
theorem d_J_bitCount_18 : decode m_J_bitCount.2.1 18 = .ok (.ldc_w 266, 3) := by decide +kernel
theorem d_J_bitCount_21 : decode m_J_bitCount.2.1 21 = .ok (.iand, 1) := by decide +kernel
theorem d_J_bitCount_22 : decode m_J_bitCount.2.1 22 = .ok (.iadd, 1) := by decide +kernel
theorem d_J_bitCount_23 : decode m_J_bitCount.2.1 23 = .ok (.istore_n 0, 1) := by decide +kernel
theorem d_J_bitCount_24 : decode m_J_bitCount.2.1 24 = .ok (.iload_n 0, 1) := by decide +kernel
theorem d_J_bitCount_25 : decode m_J_bitCount.2.1 25 = .ok (.iload_n 0, 1) := by decide +kernel
theorem d_J_bitCount_26 : decode m_J_bitCount.2.1 26 = .ok (.iconst 4, 1) := by decide +kernel
theorem d_J_bitCount_27 : decode m_J_bitCount.2.1 27 = .ok (.iushr, 1) := by decide +kernel
theorem d_J_bitCount_28 : decode m_J_bitCount.2.1 28 = .ok (.iadd, 1) := by decide +kernel
theorem d_J_bitCount_29 : decode m_J_bitCount.2.1 29 = .ok (.ldc_w 267, 3) := by decide +kernel
theorem d_J_bitCount_32 : decode m_J_bitCount.2.1 32 = .ok (.iand, 1) := by decide +kernel
theorem d_J_bitCount_33 : decode m_J_bitCount.2.1 33 = .ok (.istore_n 0, 1) := by decide +kernel
theorem d_J_bitCount_34 : decode m_J_bitCount.2.1 34 = .ok (.iload_n 0, 1) := by decide +kernel
theorem d_J_bitCount_35 : decode m_J_bitCount.2.1 35 = .ok (.iload_n 0, 1) := by decide +kernel
theorem d_J_bitCount_36 : decode m_J_bitCount.2.1 36 = .ok (.bipush 8, 2) := by decide +kernel
theorem d_J_bitCount_38 : decode m_J_bitCount.2.1 38 = .ok (.iushr, 1) := by decide +kernel
theorem d_J_bitCount_39 : decode m_J_bitCount.2.1 39 = .ok (.iadd, 1) := by decide +kernel
theorem d_J_bitCount_40 : decode m_J_bitCount.2.1 40 = .ok (.istore_n 0, 1) := by decide +kernel
theorem d_J_bitCount_41 : decode m_J_bitCount.2.1 41 = .ok (.iload_n 0, 1) := by decide +kernel
theorem d_J_bitCount_42 : decode m_J_bitCount.2.1 42 = .ok (.iload_n 0, 1) := by decide +kernel
theorem d_J_bitCount_43 : decode m_J_bitCount.2.1 43 = .ok (.bipush 16, 2) := by decide +kernel
theorem d_J_bitCount_45 : decode m_J_bitCount.2.1 45 = .ok (.iushr, 1) := by decide +kernel
theorem d_J_bitCount_46 : decode m_J_bitCount.2.1 46 = .ok (.iadd, 1) := by decide +kernel
theorem d_J_bitCount_47 : decode m_J_bitCount.2.1 47 = .ok (.istore_n 0, 1) := by decide +kernel
theorem d_J_bitCount_48 : decode m_J_bitCount.2.1 48 = .ok (.iload_n 0, 1) := by decide +kernel
theorem d_J_bitCount_49 : decode m_J_bitCount.2.1 49 = .ok (.bipush 63, 2) := by decide +kernel
theorem d_J_bitCount_51 : decode m_J_bitCount.2.1 51 = .ok (.iand, 1) := by decide +kernel
theorem d_J_bitCount_52 : decode m_J_bitCount.2.1 52 = .ok (.ireturn, 1) := by decide +kernel
theorem d_P_init_0 : decode m_P_init.2.1 0 = .ok (.aload_n 0, 1) := by decide +kernel
theorem d_P_init_1 : decode m_P_init.2.1 1 = .ok (.invokespecial 3, 3) := by decide +kernel
theorem d_P_init_4 : decode m_P_init.2.1 4 = .ok (.aload_n 0, 1) := by decide +kernel
theorem d_P_init_5 : decode m_P_init.2.1 5 = .ok (.iconst 1, 1) := by decide +kernel
theorem d_P_init_6 : decode m_P_init.2.1 6 = .ok (.putfield 9, 3) := by decide +kernel
theorem d_P_init_9 : decode m_P_init.2.1 9 = .ok (.aload_n 0, 1) := by decide +kernel
theorem d_P_init_10 : decode m_P_init.2.1 10 = .ok (.aload_n 1, 1) := by decide +kernel
theorem d_P_init_11 : decode m_P_init.2.1 11 = .ok (.putfield 15, 3) := by decide +kernel
theorem d_P_init_14 : decode m_P_init.2.1 14 = .ok (.return_, 1) := by decide +kernel
theorem d_B_join_0 : decode m_B_join.2.1 0 = .ok (.iconst 0, 1) := by decide +kernel
theorem d_B_join_1 : decode m_B_join.2.1 1 = .ok (.istore_n 3, 1) := by decide +kernel
theorem d_B_join_2 : decode m_B_join.2.1 2 = .ok (.iload_n 3, 1) := by decide +kernel
theorem d_B_join_3 : decode m_B_join.2.1 3 = .ok (.aload_n 0, 1) := by decide +kernel
theorem d_B_join_4 : decode m_B_join.2.1 4 = .ok (.getfield 42, 3) := by decide +kernel
theorem d_B_join_7 : decode m_B_join.2.1 7 = .ok (.if_icmp .ge 27, 3) := by decide +kernel
theorem d_B_join_10 : decode m_B_join.2.1 10 = .ok (.iload_n 1, 1) := by decide +kernel
theorem d_B_join_11 : decode m_B_join.2.1 11 = .ok (.iload_n 3, 1) := by decide +kernel
theorem d_B_join_12 : decode m_B_join.2.1 12 = .ok (.invokestatic 227, 3) := by decide +kernel
theorem d_B_join_15 : decode m_B_join.2.1 15 = .ok (.ifCond .eq 13, 3) := by decide +kernel
theorem d_B_join_18 : decode m_B_join.2.1 18 = .ok (.aload_n 0, 1) := by decide +kernel
theorem d_B_join_19 : decode m_B_join.2.1 19 = .ok (.getfield 11, 3) := by decide +kernel
theorem d_B_join_22 : decode m_B_join.2.1 22 = .ok (.iload_n 3, 1) := by decide +kernel
theorem d_B_join_23 : decode m_B_join.2.1 23 = .ok (.aaload, 1) := by decide +kernel
theorem d_B_join_24 : decode m_B_join.2.1 24 = .ok (.aload_n 2, 1) := by decide +kernel
theorem d_B_join_25 : decode m_B_join.2.1 25 = .ok (.putfield 212, 3) := by decide +kernel
theorem d_B_join_28 : decode m_B_join.2.1 28 = .ok (.iinc 3 1, 3) := by decide +kernel
theorem d_B_join_31 : decode m_B_join.2.1 31 = .ok (.goto (-29), 3) := by decide +kernel
theorem d_B_join_34 : decode m_B_join.2.1 34 = .ok (.return_, 1) := by decide +kernel
theorem d_B_hold_0 : decode m_B_hold.2.1 0 = .ok (.aload_n 0, 1) := by decide +kernel
theorem d_B_hold_1 : decode m_B_hold.2.1 1 = .ok (.aload_n 1, 1) := by decide +kernel
theorem d_B_hold_2 : decode m_B_hold.2.1 2 = .ok (.getfield 93, 3) := by decide +kernel
theorem d_B_hold_5 : decode m_B_hold.2.1 5 = .ok (.aload_n 1, 1) := by decide +kernel
theorem d_B_hold_6 : decode m_B_hold.2.1 6 = .ok (.getfield 118, 3) := by decide +kernel
theorem d_B_hold_9 : decode m_B_hold.2.1 9 = .ok (.iconst (-1), 1) := by decide +kernel
theorem d_B_hold_10 : decode m_B_hold.2.1 10 = .ok (.ixor, 1) := by decide +kernel
theorem d_B_hold_11 : decode m_B_hold.2.1 11 = .ok (.iand, 1) := by decide +kernel
theorem d_B_hold_12 : decode m_B_hold.2.1 12 = .ok (.invokevirtual 257, 3) := by decide +kernel
theorem d_B_hold_15 : decode m_B_hold.2.1 15 = .ok (.istore_n 2, 1) := by decide +kernel
theorem d_B_hold_16 : decode m_B_hold.2.1 16 = .ok (.iload_n 2, 1) := by decide +kernel
theorem d_B_hold_17 : decode m_B_hold.2.1 17 = .ok (.iconst (-1), 1) := by decide +kernel
theorem d_B_hold_18 : decode m_B_hold.2.1 18 = .ok (.if_icmp .eq 32, 3) := by decide +kernel
theorem d_B_hold_21 : decode m_B_hold.2.1 21 = .ok (.aload_n 1, 1) := by decide +kernel
theorem d_B_hold_22 : decode m_B_hold.2.1 22 = .ok (.aload_n 0, 1) := by decide +kernel
theorem d_B_hold_23 : decode m_B_hold.2.1 23 = .ok (.getfield 11, 3) := by decide +kernel
theorem d_B_hold_26 : decode m_B_hold.2.1 26 = .ok (.iload_n 2, 1) := by decide +kernel
theorem d_B_hold_27 : decode m_B_hold.2.1 27 = .ok (.aaload, 1) := by decide +kernel
theorem d_B_hold_28 : decode m_B_hold.2.1 28 = .ok (.invokevirtual 311, 3) := by decide +kernel
theorem d_B_hold_31 : decode m_B_hold.2.1 31 = .ok (.aload_n 1, 1) := by decide +kernel
theorem d_B_hold_32 : decode m_B_hold.2.1 32 = .ok (.iload_n 2, 1) := by decide +kernel
theorem d_B_hold_33 : decode m_B_hold.2.1 33 = .ok (.putfield 297, 3) := by decide +kernel
theorem d_B_hold_36 : decode m_B_hold.2.1 36 = .ok (.aload_n 1, 1) := by decide +kernel
theorem d_B_hold_37 : decode m_B_hold.2.1 37 = .ok (.getstatic 180, 3) := by decide +kernel
theorem d_B_hold_40 : decode m_B_hold.2.1 40 = .ok (.putfield 176, 3) := by decide +kernel
theorem d_B_hold_43 : decode m_B_hold.2.1 43 = .ok (.aload_n 0, 1) := by decide +kernel
theorem d_B_hold_44 : decode m_B_hold.2.1 44 = .ok (.aload_n 1, 1) := by decide +kernel
theorem d_B_hold_45 : decode m_B_hold.2.1 45 = .ok (.invokevirtual 185, 3) := by decide +kernel
theorem d_B_hold_48 : decode m_B_hold.2.1 48 = .ok (.iconst 0, 1) := by decide +kernel
theorem d_B_hold_49 : decode m_B_hold.2.1 49 = .ok (.ireturn, 1) := by decide +kernel
theorem d_B_hold_50 : decode m_B_hold.2.1 50 = .ok (.aload_n 1, 1) := by decide +kernel
theorem d_B_hold_51 : decode m_B_hold.2.1 51 = .ok (.getstatic 189, 3) := by decide +kernel
theorem d_B_hold_54 : decode m_B_hold.2.1 54 = .ok (.putfield 176, 3) := by decide +kernel
theorem d_B_hold_57 : decode m_B_hold.2.1 57 = .ok (.aload_n 1, 1) := by decide +kernel
theorem d_B_hold_58 : decode m_B_hold.2.1 58 = .ok (.invokevirtual 314, 3) := by decide +kernel
theorem d_B_hold_61 : decode m_B_hold.2.1 61 = .ok (.aload_n 0, 1) := by decide +kernel
theorem d_B_hold_62 : decode m_B_hold.2.1 62 = .ok (.aload_n 1, 1) := by decide +kernel
theorem d_B_hold_63 : decode m_B_hold.2.1 63 = .ok (.invokevirtual 192, 3) := by decide +kernel
theorem d_B_hold_66 : decode m_B_hold.2.1 66 = .ok (.aload_n 1, 1) := by decide +kernel
theorem d_B_hold_67 : decode m_B_hold.2.1 67 = .ok (.invokevirtual 308, 3) := by decide +kernel
theorem d_B_hold_70 : decode m_B_hold.2.1 70 = .ok (.ireturn, 1) := by decide +kernel
theorem d_A_addChild_0 : decode m_A_addChild.2.1 0 = .ok (.aload_n 0, 1) := by decide +kernel
theorem d_A_addChild_1 : decode m_A_addChild.2.1 1 = .ok (.getfield 62, 3) := by decide +kernel
theorem d_A_addChild_4 : decode m_A_addChild.2.1 4 = .ok (.aload_n 0, 1) := by decide +kernel
theorem d_A_addChild_5 : decode m_A_addChild.2.1 5 = .ok (.getfield 17, 3) := by decide +kernel
theorem d_A_addChild_8 : decode m_A_addChild.2.1 8 = .ok (.arraylength, 1) := by decide +kernel
theorem d_A_addChild_9 : decode m_A_addChild.2.1 9 = .ok (.if_icmp .ge 30, 3) := by decide +kernel
theorem d_A_addChild_12 : decode m_A_addChild.2.1 12 = .ok (.aload_n 0, 1) := by decide +kernel
theorem d_A_addChild_13 : decode m_A_addChild.2.1 13 = .ok (.getfield 17, 3) := by decide +kernel
theorem d_A_addChild_16 : decode m_A_addChild.2.1 16 = .ok (.aload_n 0, 1) := by decide +kernel
theorem d_A_addChild_17 : decode m_A_addChild.2.1 17 = .ok (.getfield 62, 3) := by decide +kernel
theorem d_A_addChild_20 : decode m_A_addChild.2.1 20 = .ok (.new 15, 3) := by decide +kernel
theorem d_A_addChild_23 : decode m_A_addChild.2.1 23 = .ok (.dup, 1) := by decide +kernel
theorem d_A_addChild_24 : decode m_A_addChild.2.1 24 = .ok (.aload_n 1, 1) := by decide +kernel
theorem d_A_addChild_25 : decode m_A_addChild.2.1 25 = .ok (.invokespecial 65, 3) := by decide +kernel
theorem d_A_addChild_28 : decode m_A_addChild.2.1 28 = .ok (.aastore, 1) := by decide +kernel
theorem d_A_addChild_29 : decode m_A_addChild.2.1 29 = .ok (.aload_n 0, 1) := by decide +kernel
theorem d_A_addChild_30 : decode m_A_addChild.2.1 30 = .ok (.dup, 1) := by decide +kernel
theorem d_A_addChild_31 : decode m_A_addChild.2.1 31 = .ok (.getfield 62, 3) := by decide +kernel
theorem d_A_addChild_34 : decode m_A_addChild.2.1 34 = .ok (.iconst 1, 1) := by decide +kernel
theorem d_A_addChild_35 : decode m_A_addChild.2.1 35 = .ok (.iadd, 1) := by decide +kernel
theorem d_A_addChild_36 : decode m_A_addChild.2.1 36 = .ok (.putfield 62, 3) := by decide +kernel
theorem d_A_addChild_39 : decode m_A_addChild.2.1 39 = .ok (.return_, 1) := by decide +kernel
theorem d_C_init_0 : decode m_C_init.2.1 0 = .ok (.aload_n 0, 1) := by decide +kernel
theorem d_C_init_1 : decode m_C_init.2.1 1 = .ok (.invokespecial 1, 3) := by decide +kernel
theorem d_C_init_4 : decode m_C_init.2.1 4 = .ok (.aload_n 0, 1) := by decide +kernel
theorem d_C_init_5 : decode m_C_init.2.1 5 = .ok (.aload_n 1, 1) := by decide +kernel
theorem d_C_init_6 : decode m_C_init.2.1 6 = .ok (.putfield 7, 3) := by decide +kernel
theorem d_C_init_9 : decode m_C_init.2.1 9 = .ok (.return_, 1) := by decide +kernel
theorem d_B_sendToken_0 : decode m_B_sendToken.2.1 0 = .ok (.aload_n 0, 1) := by decide +kernel
theorem d_B_sendToken_1 : decode m_B_sendToken.2.1 1 = .ok (.new 21, 3) := by decide +kernel
theorem d_B_sendToken_4 : decode m_B_sendToken.2.1 4 = .ok (.dup, 1) := by decide +kernel
theorem d_B_sendToken_5 : decode m_B_sendToken.2.1 5 = .ok (.iconst 0, 1) := by decide +kernel
theorem d_B_sendToken_6 : decode m_B_sendToken.2.1 6 = .ok (.aload_n 1, 1) := by decide +kernel
theorem d_B_sendToken_7 : decode m_B_sendToken.2.1 7 = .ok (.getfield 294, 3) := by decide +kernel
theorem d_B_sendToken_10 : decode m_B_sendToken.2.1 10 = .ok (.aload_n 1, 1) := by decide +kernel
theorem d_B_sendToken_11 : decode m_B_sendToken.2.1 11 = .ok (.getfield 297, 3) := by decide +kernel
theorem d_B_sendToken_14 : decode m_B_sendToken.2.1 14 = .ok (.aload_n 1, 1) := by decide +kernel
theorem d_B_sendToken_15 : decode m_B_sendToken.2.1 15 = .ok (.getfield 118, 3) := by decide +kernel
theorem d_B_sendToken_18 : decode m_B_sendToken.2.1 18 = .ok (.aconst_null, 1) := by decide +kernel
theorem d_B_sendToken_19 : decode m_B_sendToken.2.1 19 = .ok (.invokespecial 376, 3) := by decide +kernel
theorem d_B_sendToken_22 : decode m_B_sendToken.2.1 22 = .ok (.invokevirtual 379, 3) := by decide +kernel
theorem d_B_sendToken_25 : decode m_B_sendToken.2.1 25 = .ok (.return_, 1) := by decide +kernel
theorem d_L_init_0 : decode m_L_init.2.1 0 = .ok (.aload_n 0, 1) := by decide +kernel
theorem d_L_init_1 : decode m_L_init.2.1 1 = .ok (.invokespecial 3, 3) := by decide +kernel
theorem d_L_init_4 : decode m_L_init.2.1 4 = .ok (.aload_n 0, 1) := by decide +kernel
theorem d_L_init_5 : decode m_L_init.2.1 5 = .ok (.iload_n 1, 1) := by decide +kernel
theorem d_L_init_6 : decode m_L_init.2.1 6 = .ok (.putfield 9, 3) := by decide +kernel
theorem d_L_init_9 : decode m_L_init.2.1 9 = .ok (.aload_n 0, 1) := by decide +kernel
theorem d_L_init_10 : decode m_L_init.2.1 10 = .ok (.iload_n 2, 1) := by decide +kernel
theorem d_L_init_11 : decode m_L_init.2.1 11 = .ok (.putfield 15, 3) := by decide +kernel
theorem d_L_init_14 : decode m_L_init.2.1 14 = .ok (.aload_n 0, 1) := by decide +kernel
theorem d_L_init_15 : decode m_L_init.2.1 15 = .ok (.iload_n 3, 1) := by decide +kernel
theorem d_L_init_16 : decode m_L_init.2.1 16 = .ok (.putfield 18, 3) := by decide +kernel
theorem d_L_init_19 : decode m_L_init.2.1 19 = .ok (.aload_n 0, 1) := by decide +kernel
theorem d_L_init_20 : decode m_L_init.2.1 20 = .ok (.iload 4, 2) := by decide +kernel
theorem d_L_init_22 : decode m_L_init.2.1 22 = .ok (.putfield 21, 3) := by decide +kernel
theorem d_L_init_25 : decode m_L_init.2.1 25 = .ok (.aload_n 0, 1) := by decide +kernel
theorem d_L_init_26 : decode m_L_init.2.1 26 = .ok (.aload 5, 2) := by decide +kernel
theorem d_L_init_28 : decode m_L_init.2.1 28 = .ok (.putfield 24, 3) := by decide +kernel
theorem d_L_init_31 : decode m_L_init.2.1 31 = .ok (.return_, 1) := by decide +kernel
theorem d_B_send_0 : decode m_B_send.2.1 0 = .ok (.aload_n 0, 1) := by decide +kernel
theorem d_B_send_1 : decode m_B_send.2.1 1 = .ok (.getfield 139, 3) := by decide +kernel
theorem d_B_send_4 : decode m_B_send.2.1 4 = .ok (.bipush 20, 2) := by decide +kernel
theorem d_B_send_6 : decode m_B_send.2.1 6 = .ok (.if_icmp .ge 23, 3) := by decide +kernel
theorem d_B_send_9 : decode m_B_send.2.1 9 = .ok (.aload_n 0, 1) := by decide +kernel
theorem d_B_send_10 : decode m_B_send.2.1 10 = .ok (.getfield 23, 3) := by decide +kernel
theorem d_B_send_13 : decode m_B_send.2.1 13 = .ok (.aload_n 0, 1) := by decide +kernel
theorem d_B_send_14 : decode m_B_send.2.1 14 = .ok (.getfield 139, 3) := by decide +kernel
theorem d_B_send_17 : decode m_B_send.2.1 17 = .ok (.aload_n 1, 1) := by decide +kernel
theorem d_B_send_18 : decode m_B_send.2.1 18 = .ok (.aastore, 1) := by decide +kernel
theorem d_B_send_19 : decode m_B_send.2.1 19 = .ok (.aload_n 0, 1) := by decide +kernel
theorem d_B_send_20 : decode m_B_send.2.1 20 = .ok (.dup, 1) := by decide +kernel
theorem d_B_send_21 : decode m_B_send.2.1 21 = .ok (.getfield 139, 3) := by decide +kernel
theorem d_B_send_24 : decode m_B_send.2.1 24 = .ok (.iconst 1, 1) := by decide +kernel
theorem d_B_send_25 : decode m_B_send.2.1 25 = .ok (.iadd, 1) := by decide +kernel
theorem d_B_send_26 : decode m_B_send.2.1 26 = .ok (.putfield 139, 3) := by decide +kernel
theorem d_B_send_29 : decode m_B_send.2.1 29 = .ok (.return_, 1) := by decide +kernel
theorem d_A_findSeparator_0 : decode m_A_findSeparator.2.1 0 = .ok (.aload_n 0, 1) := by decide +kernel
theorem d_A_findSeparator_1 : decode m_A_findSeparator.2.1 1 = .ok (.aload_n 0, 1) := by decide +kernel
theorem d_A_findSeparator_2 : decode m_A_findSeparator.2.1 2 = .ok (.getfield 74, 3) := by decide +kernel
theorem d_A_findSeparator_5 : decode m_A_findSeparator.2.1 5 = .ok (.putfield 77, 3) := by decide +kernel
theorem d_A_findSeparator_8 : decode m_A_findSeparator.2.1 8 = .ok (.iconst 0, 1) := by decide +kernel
theorem d_A_findSeparator_9 : decode m_A_findSeparator.2.1 9 = .ok (.istore_n 1, 1) := by decide +kernel
theorem d_A_findSeparator_10 : decode m_A_findSeparator.2.1 10 = .ok (.iload_n 1, 1) := by decide +kernel
theorem d_A_findSeparator_11 : decode m_A_findSeparator.2.1 11 = .ok (.aload_n 0, 1) := by decide +kernel
theorem d_A_findSeparator_12 : decode m_A_findSeparator.2.1 12 = .ok (.getfield 62, 3) := by decide +kernel
theorem d_A_findSeparator_15 : decode m_A_findSeparator.2.1 15 = .ok (.if_icmp .ge 30, 3) := by decide +kernel
theorem d_A_findSeparator_18 : decode m_A_findSeparator.2.1 18 = .ok (.aload_n 0, 1) := by decide +kernel
theorem d_A_findSeparator_19 : decode m_A_findSeparator.2.1 19 = .ok (.dup, 1) := by decide +kernel
theorem d_A_findSeparator_20 : decode m_A_findSeparator.2.1 20 = .ok (.getfield 77, 3) := by decide +kernel
theorem d_A_findSeparator_23 : decode m_A_findSeparator.2.1 23 = .ok (.aload_n 0, 1) := by decide +kernel
theorem d_A_findSeparator_24 : decode m_A_findSeparator.2.1 24 = .ok (.getfield 17, 3) := by decide +kernel
theorem d_A_findSeparator_27 : decode m_A_findSeparator.2.1 27 = .ok (.iload_n 1, 1) := by decide +kernel
theorem d_A_findSeparator_28 : decode m_A_findSeparator.2.1 28 = .ok (.aaload, 1) := by decide +kernel
theorem d_A_findSeparator_29 : decode m_A_findSeparator.2.1 29 = .ok (.getfield 68, 3) := by decide +kernel
theorem d_A_findSeparator_32 : decode m_A_findSeparator.2.1 32 = .ok (.getfield 77, 3) := by decide +kernel
theorem d_A_findSeparator_35 : decode m_A_findSeparator.2.1 35 = .ok (.ior, 1) := by decide +kernel
theorem d_A_findSeparator_36 : decode m_A_findSeparator.2.1 36 = .ok (.putfield 77, 3) := by decide +kernel
theorem d_A_findSeparator_39 : decode m_A_findSeparator.2.1 39 = .ok (.iinc 1 1, 3) := by decide +kernel
theorem d_A_findSeparator_42 : decode m_A_findSeparator.2.1 42 = .ok (.goto (-32), 3) := by decide +kernel
theorem d_A_findSeparator_45 : decode m_A_findSeparator.2.1 45 = .ok (.aload_n 0, 1) := by decide +kernel
theorem d_A_findSeparator_46 : decode m_A_findSeparator.2.1 46 = .ok (.dup, 1) := by decide +kernel
theorem d_A_findSeparator_47 : decode m_A_findSeparator.2.1 47 = .ok (.getfield 77, 3) := by decide +kernel
theorem d_A_findSeparator_50 : decode m_A_findSeparator.2.1 50 = .ok (.iconst 1, 1) := by decide +kernel
theorem d_A_findSeparator_51 : decode m_A_findSeparator.2.1 51 = .ok (.aload_n 0, 1) := by decide +kernel
theorem d_A_findSeparator_52 : decode m_A_findSeparator.2.1 52 = .ok (.getfield 37, 3) := by decide +kernel
theorem d_A_findSeparator_55 : decode m_A_findSeparator.2.1 55 = .ok (.ishl, 1) := by decide +kernel
theorem d_A_findSeparator_56 : decode m_A_findSeparator.2.1 56 = .ok (.iconst (-1), 1) := by decide +kernel
theorem d_A_findSeparator_57 : decode m_A_findSeparator.2.1 57 = .ok (.ixor, 1) := by decide +kernel
theorem d_A_findSeparator_58 : decode m_A_findSeparator.2.1 58 = .ok (.iand, 1) := by decide +kernel
theorem d_A_findSeparator_59 : decode m_A_findSeparator.2.1 59 = .ok (.putfield 77, 3) := by decide +kernel
theorem d_A_findSeparator_62 : decode m_A_findSeparator.2.1 62 = .ok (.return_, 1) := by decide +kernel
theorem d_B_sendBack_0 : decode m_B_sendBack.2.1 0 = .ok (.aload_n 1, 1) := by decide +kernel
theorem d_B_sendBack_1 : decode m_B_sendBack.2.1 1 = .ok (.getfield 239, 3) := by decide +kernel
theorem d_B_sendBack_4 : decode m_B_sendBack.2.1 4 = .ok (.iconst (-1), 1) := by decide +kernel
theorem d_B_sendBack_5 : decode m_B_sendBack.2.1 5 = .ok (.if_icmp .eq 28, 3) := by decide +kernel
theorem d_B_sendBack_8 : decode m_B_sendBack.2.1 8 = .ok (.aload_n 0, 1) := by decide +kernel
theorem d_B_sendBack_9 : decode m_B_sendBack.2.1 9 = .ok (.new 21, 3) := by decide +kernel
theorem d_B_sendBack_12 : decode m_B_sendBack.2.1 12 = .ok (.dup, 1) := by decide +kernel
theorem d_B_sendBack_13 : decode m_B_sendBack.2.1 13 = .ok (.iconst 1, 1) := by decide +kernel
theorem d_B_sendBack_14 : decode m_B_sendBack.2.1 14 = .ok (.aload_n 1, 1) := by decide +kernel
theorem d_B_sendBack_15 : decode m_B_sendBack.2.1 15 = .ok (.getfield 294, 3) := by decide +kernel
theorem d_B_sendBack_18 : decode m_B_sendBack.2.1 18 = .ok (.aload_n 1, 1) := by decide +kernel
theorem d_B_sendBack_19 : decode m_B_sendBack.2.1 19 = .ok (.getfield 239, 3) := by decide +kernel
theorem d_B_sendBack_22 : decode m_B_sendBack.2.1 22 = .ok (.aload_n 1, 1) := by decide +kernel
theorem d_B_sendBack_23 : decode m_B_sendBack.2.1 23 = .ok (.getfield 118, 3) := by decide +kernel
theorem d_B_sendBack_26 : decode m_B_sendBack.2.1 26 = .ok (.aconst_null, 1) := by decide +kernel
theorem d_B_sendBack_27 : decode m_B_sendBack.2.1 27 = .ok (.invokespecial 376, 3) := by decide +kernel
theorem d_B_sendBack_30 : decode m_B_sendBack.2.1 30 = .ok (.invokevirtual 379, 3) := by decide +kernel
theorem d_B_sendBack_33 : decode m_B_sendBack.2.1 33 = .ok (.return_, 1) := by decide +kernel
theorem d_A_hasAllTables_0 : decode m_A_hasAllTables.2.1 0 = .ok (.iconst 0, 1) := by decide +kernel
theorem d_A_hasAllTables_1 : decode m_A_hasAllTables.2.1 1 = .ok (.istore_n 1, 1) := by decide +kernel
theorem d_A_hasAllTables_2 : decode m_A_hasAllTables.2.1 2 = .ok (.iload_n 1, 1) := by decide +kernel
theorem d_A_hasAllTables_3 : decode m_A_hasAllTables.2.1 3 = .ok (.aload_n 0, 1) := by decide +kernel
theorem d_A_hasAllTables_4 : decode m_A_hasAllTables.2.1 4 = .ok (.getfield 62, 3) := by decide +kernel
theorem d_A_hasAllTables_7 : decode m_A_hasAllTables.2.1 7 = .ok (.if_icmp .ge 23, 3) := by decide +kernel
theorem d_A_hasAllTables_10 : decode m_A_hasAllTables.2.1 10 = .ok (.aload_n 0, 1) := by decide +kernel
theorem d_A_hasAllTables_11 : decode m_A_hasAllTables.2.1 11 = .ok (.getfield 17, 3) := by decide +kernel
theorem d_A_hasAllTables_14 : decode m_A_hasAllTables.2.1 14 = .ok (.iload_n 1, 1) := by decide +kernel
theorem d_A_hasAllTables_15 : decode m_A_hasAllTables.2.1 15 = .ok (.aaload, 1) := by decide +kernel
theorem d_A_hasAllTables_16 : decode m_A_hasAllTables.2.1 16 = .ok (.getfield 71, 3) := by decide +kernel
theorem d_A_hasAllTables_19 : decode m_A_hasAllTables.2.1 19 = .ok (.ifnonnull 5, 3) := by decide +kernel
theorem d_A_hasAllTables_22 : decode m_A_hasAllTables.2.1 22 = .ok (.iconst 0, 1) := by decide +kernel
theorem d_A_hasAllTables_23 : decode m_A_hasAllTables.2.1 23 = .ok (.ireturn, 1) := by decide +kernel
theorem d_A_hasAllTables_24 : decode m_A_hasAllTables.2.1 24 = .ok (.iinc 1 1, 3) := by decide +kernel
theorem d_A_hasAllTables_27 : decode m_A_hasAllTables.2.1 27 = .ok (.goto (-25), 3) := by decide +kernel
theorem d_A_hasAllTables_30 : decode m_A_hasAllTables.2.1 30 = .ok (.iconst 1, 1) := by decide +kernel
theorem d_A_hasAllTables_31 : decode m_A_hasAllTables.2.1 31 = .ok (.ireturn, 1) := by decide +kernel
theorem d_B_makeTable_0 : decode m_B_makeTable.2.1 0 = .ok (.aload_n 0, 1) := by decide +kernel
theorem d_B_makeTable_1 : decode m_B_makeTable.2.1 1 = .ok (.aload_n 1, 1) := by decide +kernel
theorem d_B_makeTable_2 : decode m_B_makeTable.2.1 2 = .ok (.getfield 242, 3) := by decide +kernel
theorem d_B_makeTable_5 : decode m_B_makeTable.2.1 5 = .ok (.invokevirtual 317, 3) := by decide +kernel
theorem d_B_makeTable_8 : decode m_B_makeTable.2.1 8 = .ok (.istore_n 3, 1) := by decide +kernel
theorem d_B_makeTable_9 : decode m_B_makeTable.2.1 9 = .ok (.iload_n 3, 1) := by decide +kernel
theorem d_B_makeTable_10 : decode m_B_makeTable.2.1 10 = .ok (.sipush 256, 3) := by decide +kernel
theorem d_B_makeTable_13 : decode m_B_makeTable.2.1 13 = .ok (.if_icmp .le 9, 3) := by decide +kernel
theorem d_B_makeTable_16 : decode m_B_makeTable.2.1 16 = .ok (.aload_n 1, 1) := by decide +kernel
theorem d_B_makeTable_17 : decode m_B_makeTable.2.1 17 = .ok (.iconst 1, 1) := by decide +kernel
theorem d_B_makeTable_18 : decode m_B_makeTable.2.1 18 = .ok (.putfield 230, 3) := by decide +kernel
theorem d_B_makeTable_21 : decode m_B_makeTable.2.1 21 = .ok (.return_, 1) := by decide +kernel
theorem d_B_makeTable_22 : decode m_B_makeTable.2.1 22 = .ok (.iload_n 3, 1) := by decide +kernel
theorem d_B_makeTable_23 : decode m_B_makeTable.2.1 23 = .ok (.newarray .int, 2) := by decide +kernel
theorem d_B_makeTable_25 : decode m_B_makeTable.2.1 25 = .ok (.astore 4, 2) := by decide +kernel
theorem d_B_makeTable_27 : decode m_B_makeTable.2.1 27 = .ok (.iconst 0, 1) := by decide +kernel
theorem d_B_makeTable_28 : decode m_B_makeTable.2.1 28 = .ok (.istore 5, 2) := by decide +kernel
theorem d_B_makeTable_30 : decode m_B_makeTable.2.1 30 = .ok (.iload 5, 2) := by decide +kernel
theorem d_B_makeTable_32 : decode m_B_makeTable.2.1 32 = .ok (.iload_n 3, 1) := by decide +kernel
theorem d_B_makeTable_33 : decode m_B_makeTable.2.1 33 = .ok (.if_icmp .ge 29, 3) := by decide +kernel
theorem d_B_makeTable_36 : decode m_B_makeTable.2.1 36 = .ok (.aload_n 0, 1) := by decide +kernel
theorem d_B_makeTable_37 : decode m_B_makeTable.2.1 37 = .ok (.aload_n 1, 1) := by decide +kernel
theorem d_B_makeTable_38 : decode m_B_makeTable.2.1 38 = .ok (.getfield 242, 3) := by decide +kernel
theorem d_B_makeTable_41 : decode m_B_makeTable.2.1 41 = .ok (.iload 5, 2) := by decide +kernel
theorem d_B_makeTable_43 : decode m_B_makeTable.2.1 43 = .ok (.invokevirtual 320, 3) := by decide +kernel
theorem d_B_makeTable_46 : decode m_B_makeTable.2.1 46 = .ok (.aload 4, 2) := by decide +kernel
theorem d_B_makeTable_48 : decode m_B_makeTable.2.1 48 = .ok (.iload 5, 2) := by decide +kernel
theorem d_B_makeTable_50 : decode m_B_makeTable.2.1 50 = .ok (.aload_n 0, 1) := by decide +kernel
theorem d_B_makeTable_51 : decode m_B_makeTable.2.1 51 = .ok (.aload_n 1, 1) := by decide +kernel
theorem d_B_makeTable_52 : decode m_B_makeTable.2.1 52 = .ok (.invokevirtual 323, 3) := by decide +kernel
theorem d_B_makeTable_55 : decode m_B_makeTable.2.1 55 = .ok (.iastore, 1) := by decide +kernel
theorem d_B_makeTable_56 : decode m_B_makeTable.2.1 56 = .ok (.iinc 5 1, 3) := by decide +kernel
theorem d_B_makeTable_59 : decode m_B_makeTable.2.1 59 = .ok (.goto (-29), 3) := by decide +kernel
theorem d_B_makeTable_62 : decode m_B_makeTable.2.1 62 = .ok (.aload_n 1, 1) := by decide +kernel
theorem d_B_makeTable_63 : decode m_B_makeTable.2.1 63 = .ok (.aload 4, 2) := by decide +kernel
theorem d_B_makeTable_65 : decode m_B_makeTable.2.1 65 = .ok (.putfield 195, 3) := by decide +kernel
theorem d_B_makeTable_68 : decode m_B_makeTable.2.1 68 = .ok (.aload_n 1, 1) := by decide +kernel
theorem d_B_makeTable_69 : decode m_B_makeTable.2.1 69 = .ok (.iload_n 2, 1) := by decide +kernel
theorem d_B_makeTable_70 : decode m_B_makeTable.2.1 70 = .ok (.putfield 327, 3) := by decide +kernel
theorem d_B_makeTable_73 : decode m_B_makeTable.2.1 73 = .ok (.aload_n 0, 1) := by decide +kernel
theorem d_B_makeTable_74 : decode m_B_makeTable.2.1 74 = .ok (.dup, 1) := by decide +kernel
theorem d_B_makeTable_75 : decode m_B_makeTable.2.1 75 = .ok (.getfield 221, 3) := by decide +kernel
theorem d_B_makeTable_78 : decode m_B_makeTable.2.1 78 = .ok (.iconst 1, 1) := by decide +kernel
theorem d_B_makeTable_79 : decode m_B_makeTable.2.1 79 = .ok (.iadd, 1) := by decide +kernel
theorem d_B_makeTable_80 : decode m_B_makeTable.2.1 80 = .ok (.putfield 221, 3) := by decide +kernel
theorem d_B_makeTable_83 : decode m_B_makeTable.2.1 83 = .ok (.aload_n 1, 1) := by decide +kernel
theorem d_B_makeTable_84 : decode m_B_makeTable.2.1 84 = .ok (.invokevirtual 114, 3) := by decide +kernel
theorem d_B_makeTable_87 : decode m_B_makeTable.2.1 87 = .ok (.ifCond .eq 15, 3) := by decide +kernel
theorem d_B_makeTable_90 : decode m_B_makeTable.2.1 90 = .ok (.aload_n 0, 1) := by decide +kernel
theorem d_B_makeTable_91 : decode m_B_makeTable.2.1 91 = .ok (.aload_n 1, 1) := by decide +kernel
theorem d_B_makeTable_92 : decode m_B_makeTable.2.1 92 = .ok (.iload_n 2, 1) := by decide +kernel
theorem d_B_makeTable_93 : decode m_B_makeTable.2.1 93 = .ok (.invokestatic 330, 3) := by decide +kernel
theorem d_B_makeTable_96 : decode m_B_makeTable.2.1 96 = .ok (.invokevirtual 287, 3) := by decide +kernel
theorem d_B_makeTable_99 : decode m_B_makeTable.2.1 99 = .ok (.goto 8, 3) := by decide +kernel
theorem d_B_makeTable_102 : decode m_B_makeTable.2.1 102 = .ok (.aload_n 0, 1) := by decide +kernel
theorem d_B_makeTable_103 : decode m_B_makeTable.2.1 103 = .ok (.aload_n 1, 1) := by decide +kernel
theorem d_B_makeTable_104 : decode m_B_makeTable.2.1 104 = .ok (.invokevirtual 198, 3) := by decide +kernel
theorem d_B_makeTable_107 : decode m_B_makeTable.2.1 107 = .ok (.return_, 1) := by decide +kernel
theorem d_B_tableSize_0 : decode m_B_tableSize.2.1 0 = .ok (.iconst 1, 1) := by decide +kernel
theorem d_B_tableSize_1 : decode m_B_tableSize.2.1 1 = .ok (.istore_n 2, 1) := by decide +kernel
theorem d_B_tableSize_2 : decode m_B_tableSize.2.1 2 = .ok (.iconst 0, 1) := by decide +kernel
theorem d_B_tableSize_3 : decode m_B_tableSize.2.1 3 = .ok (.istore_n 3, 1) := by decide +kernel
theorem d_B_tableSize_4 : decode m_B_tableSize.2.1 4 = .ok (.iload_n 3, 1) := by decide +kernel
theorem d_B_tableSize_5 : decode m_B_tableSize.2.1 5 = .ok (.aload_n 0, 1) := by decide +kernel
theorem d_B_tableSize_6 : decode m_B_tableSize.2.1 6 = .ok (.getfield 42, 3) := by decide +kernel
theorem d_B_tableSize_9 : decode m_B_tableSize.2.1 9 = .ok (.if_icmp .ge 29, 3) := by decide +kernel
theorem d_B_tableSize_12 : decode m_B_tableSize.2.1 12 = .ok (.iload_n 1, 1) := by decide +kernel
theorem d_B_tableSize_13 : decode m_B_tableSize.2.1 13 = .ok (.iload_n 3, 1) := by decide +kernel
theorem d_B_tableSize_14 : decode m_B_tableSize.2.1 14 = .ok (.invokestatic 227, 3) := by decide +kernel
theorem d_B_tableSize_17 : decode m_B_tableSize.2.1 17 = .ok (.ifCond .eq 15, 3) := by decide +kernel
theorem d_B_tableSize_20 : decode m_B_tableSize.2.1 20 = .ok (.iload_n 2, 1) := by decide +kernel
theorem d_B_tableSize_21 : decode m_B_tableSize.2.1 21 = .ok (.aload_n 0, 1) := by decide +kernel
theorem d_B_tableSize_22 : decode m_B_tableSize.2.1 22 = .ok (.getfield 11, 3) := by decide +kernel
theorem d_B_tableSize_25 : decode m_B_tableSize.2.1 25 = .ok (.iload_n 3, 1) := by decide +kernel
theorem d_B_tableSize_26 : decode m_B_tableSize.2.1 26 = .ok (.aaload, 1) := by decide +kernel
theorem d_B_tableSize_27 : decode m_B_tableSize.2.1 27 = .ok (.getfield 245, 3) := by decide +kernel
theorem d_B_tableSize_30 : decode m_B_tableSize.2.1 30 = .ok (.imul, 1) := by decide +kernel
theorem d_B_tableSize_31 : decode m_B_tableSize.2.1 31 = .ok (.istore_n 2, 1) := by decide +kernel
theorem d_B_tableSize_32 : decode m_B_tableSize.2.1 32 = .ok (.iinc 3 1, 3) := by decide +kernel
theorem d_B_tableSize_35 : decode m_B_tableSize.2.1 35 = .ok (.goto (-31), 3) := by decide +kernel
theorem d_B_tableSize_38 : decode m_B_tableSize.2.1 38 = .ok (.iload_n 2, 1) := by decide +kernel
theorem d_B_tableSize_39 : decode m_B_tableSize.2.1 39 = .ok (.ireturn, 1) := by decide +kernel
theorem d_B_tryEntry_0 : decode m_B_tryEntry.2.1 0 = .ok (.iload_n 2, 1) := by decide +kernel
theorem d_B_tryEntry_1 : decode m_B_tryEntry.2.1 1 = .ok (.istore_n 3, 1) := by decide +kernel
theorem d_B_tryEntry_2 : decode m_B_tryEntry.2.1 2 = .ok (.iconst 0, 1) := by decide +kernel
theorem d_B_tryEntry_3 : decode m_B_tryEntry.2.1 3 = .ok (.istore 4, 2) := by decide +kernel
theorem d_B_tryEntry_5 : decode m_B_tryEntry.2.1 5 = .ok (.iload 4, 2) := by decide +kernel
theorem d_B_tryEntry_7 : decode m_B_tryEntry.2.1 7 = .ok (.aload_n 0, 1) := by decide +kernel
theorem d_B_tryEntry_8 : decode m_B_tryEntry.2.1 8 = .ok (.getfield 42, 3) := by decide +kernel
theorem d_B_tryEntry_11 : decode m_B_tryEntry.2.1 11 = .ok (.if_icmp .ge 50, 3) := by decide +kernel
theorem d_B_tryEntry_14 : decode m_B_tryEntry.2.1 14 = .ok (.iload_n 1, 1) := by decide +kernel
theorem d_B_tryEntry_15 : decode m_B_tryEntry.2.1 15 = .ok (.iload 4, 2) := by decide +kernel
theorem d_B_tryEntry_17 : decode m_B_tryEntry.2.1 17 = .ok (.invokestatic 227, 3) := by decide +kernel
theorem d_B_tryEntry_20 : decode m_B_tryEntry.2.1 20 = .ok (.ifCond .eq 35, 3) := by decide +kernel
theorem d_B_tryEntry_23 : decode m_B_tryEntry.2.1 23 = .ok (.aload_n 0, 1) := by decide +kernel
theorem d_B_tryEntry_24 : decode m_B_tryEntry.2.1 24 = .ok (.getfield 27, 3) := by decide +kernel
theorem d_B_tryEntry_27 : decode m_B_tryEntry.2.1 27 = .ok (.iload 4, 2) := by decide +kernel
theorem d_B_tryEntry_29 : decode m_B_tryEntry.2.1 29 = .ok (.iload_n 3, 1) := by decide +kernel
theorem d_B_tryEntry_30 : decode m_B_tryEntry.2.1 30 = .ok (.aload_n 0, 1) := by decide +kernel
theorem d_B_tryEntry_31 : decode m_B_tryEntry.2.1 31 = .ok (.getfield 11, 3) := by decide +kernel
theorem d_B_tryEntry_34 : decode m_B_tryEntry.2.1 34 = .ok (.iload 4, 2) := by decide +kernel
theorem d_B_tryEntry_36 : decode m_B_tryEntry.2.1 36 = .ok (.aaload, 1) := by decide +kernel
theorem d_B_tryEntry_37 : decode m_B_tryEntry.2.1 37 = .ok (.getfield 245, 3) := by decide +kernel
theorem d_B_tryEntry_40 : decode m_B_tryEntry.2.1 40 = .ok (.irem, 1) := by decide +kernel
theorem d_B_tryEntry_41 : decode m_B_tryEntry.2.1 41 = .ok (.iastore, 1) := by decide +kernel
theorem d_B_tryEntry_42 : decode m_B_tryEntry.2.1 42 = .ok (.iload_n 3, 1) := by decide +kernel
theorem d_B_tryEntry_43 : decode m_B_tryEntry.2.1 43 = .ok (.aload_n 0, 1) := by decide +kernel
theorem d_B_tryEntry_44 : decode m_B_tryEntry.2.1 44 = .ok (.getfield 11, 3) := by decide +kernel
theorem d_B_tryEntry_47 : decode m_B_tryEntry.2.1 47 = .ok (.iload 4, 2) := by decide +kernel
theorem d_B_tryEntry_49 : decode m_B_tryEntry.2.1 49 = .ok (.aaload, 1) := by decide +kernel
theorem d_B_tryEntry_50 : decode m_B_tryEntry.2.1 50 = .ok (.getfield 245, 3) := by decide +kernel
theorem d_B_tryEntry_53 : decode m_B_tryEntry.2.1 53 = .ok (.idiv, 1) := by decide +kernel
theorem d_B_tryEntry_54 : decode m_B_tryEntry.2.1 54 = .ok (.istore_n 3, 1) := by decide +kernel
theorem d_B_tryEntry_55 : decode m_B_tryEntry.2.1 55 = .ok (.iinc 4 1, 3) := by decide +kernel
theorem d_B_tryEntry_58 : decode m_B_tryEntry.2.1 58 = .ok (.goto (-53), 3) := by decide +kernel
theorem d_B_tryEntry_61 : decode m_B_tryEntry.2.1 61 = .ok (.return_, 1) := by decide +kernel

/-! DECODED: written by wip/whole/gen/dec.py -/
theorem d_M_letter_0 : decode m_M_letter.2.1 0 = .ok (.aload_n 0, 1) := by decide +kernel
theorem d_M_letter_1 : decode m_M_letter.2.1 1 = .ok (.iload_n 2, 1) := by decide +kernel
theorem d_M_letter_2 : decode m_M_letter.2.1 2 = .ok (.iconst 0, 1) := by decide +kernel
theorem d_M_letter_3 : decode m_M_letter.2.1 3 = .ok (.iconst 2, 1) := by decide +kernel
theorem d_M_letter_4 : decode m_M_letter.2.1 4 = .ok (.invokestatic 127, 3) := by decide +kernel
theorem d_M_letter_7 : decode m_M_letter.2.1 7 = .ok (.ifCond .ne 7, 3) := by decide +kernel
theorem d_M_letter_10 : decode m_M_letter.2.1 10 = .ok (.iconst 1, 1) := by decide +kernel
theorem d_M_letter_11 : decode m_M_letter.2.1 11 = .ok (.goto 40, 3) := by decide +kernel
theorem d_M_letter_14 : decode m_M_letter.2.1 14 = .ok (.iload_n 1, 1) := by decide +kernel
theorem d_M_letter_15 : decode m_M_letter.2.1 15 = .ok (.iconst 0, 1) := by decide +kernel
theorem d_M_letter_16 : decode m_M_letter.2.1 16 = .ok (.aload_n 0, 1) := by decide +kernel
theorem d_M_letter_17 : decode m_M_letter.2.1 17 = .ok (.getfield 176, 3) := by decide +kernel
theorem d_M_letter_20 : decode m_M_letter.2.1 20 = .ok (.iconst 1, 1) := by decide +kernel
theorem d_M_letter_21 : decode m_M_letter.2.1 21 = .ok (.isub, 1) := by decide +kernel
theorem d_M_letter_22 : decode m_M_letter.2.1 22 = .ok (.invokestatic 127, 3) := by decide +kernel
theorem d_M_letter_25 : decode m_M_letter.2.1 25 = .ok (.ifCond .ne 7, 3) := by decide +kernel
theorem d_M_letter_28 : decode m_M_letter.2.1 28 = .ok (.iconst 2, 1) := by decide +kernel
theorem d_M_letter_29 : decode m_M_letter.2.1 29 = .ok (.goto 22, 3) := by decide +kernel
theorem d_M_letter_32 : decode m_M_letter.2.1 32 = .ok (.iload_n 2, 1) := by decide +kernel
theorem d_M_letter_33 : decode m_M_letter.2.1 33 = .ok (.iconst 2, 1) := by decide +kernel
theorem d_M_letter_34 : decode m_M_letter.2.1 34 = .ok (.if_icmp .ne 16, 3) := by decide +kernel
theorem d_M_letter_37 : decode m_M_letter.2.1 37 = .ok (.aload_n 0, 1) := by decide +kernel
theorem d_M_letter_38 : decode m_M_letter.2.1 38 = .ok (.getfield 176, 3) := by decide +kernel
theorem d_M_letter_41 : decode m_M_letter.2.1 41 = .ok (.bipush 20, 2) := by decide +kernel
theorem d_M_letter_43 : decode m_M_letter.2.1 43 = .ok (.if_icmp .ne 7, 3) := by decide +kernel
theorem d_M_letter_46 : decode m_M_letter.2.1 46 = .ok (.iconst 3, 1) := by decide +kernel
theorem d_M_letter_47 : decode m_M_letter.2.1 47 = .ok (.goto 4, 3) := by decide +kernel
theorem d_M_letter_50 : decode m_M_letter.2.1 50 = .ok (.iconst 0, 1) := by decide +kernel
theorem d_M_letter_51 : decode m_M_letter.2.1 51 = .ok (.putfield 116, 3) := by decide +kernel
theorem d_M_letter_54 : decode m_M_letter.2.1 54 = .ok (.aload_n 0, 1) := by decide +kernel
theorem d_M_letter_55 : decode m_M_letter.2.1 55 = .ok (.getfield 116, 3) := by decide +kernel
theorem d_M_letter_58 : decode m_M_letter.2.1 58 = .ok (.ifCond .le 5, 3) := by decide +kernel
theorem d_M_letter_61 : decode m_M_letter.2.1 61 = .ok (.iconst 0, 1) := by decide +kernel
theorem d_M_letter_62 : decode m_M_letter.2.1 62 = .ok (.ireturn, 1) := by decide +kernel
theorem d_M_letter_63 : decode m_M_letter.2.1 63 = .ok (.iload_n 2, 1) := by decide +kernel
theorem d_M_letter_64 : decode m_M_letter.2.1 64 = .ok (.iconst 2, 1) := by decide +kernel
theorem d_M_letter_65 : decode m_M_letter.2.1 65 = .ok (.if_icmp .ne 27, 3) := by decide +kernel
theorem d_M_letter_68 : decode m_M_letter.2.1 68 = .ok (.aload_n 0, 1) := by decide +kernel
theorem d_M_letter_69 : decode m_M_letter.2.1 69 = .ok (.iload_n 1, 1) := by decide +kernel
theorem d_M_letter_70 : decode m_M_letter.2.1 70 = .ok (.aload_n 0, 1) := by decide +kernel
theorem d_M_letter_71 : decode m_M_letter.2.1 71 = .ok (.getfield 176, 3) := by decide +kernel
theorem d_M_letter_74 : decode m_M_letter.2.1 74 = .ok (.invokevirtual 223, 3) := by decide +kernel
theorem d_M_letter_77 : decode m_M_letter.2.1 77 = .ok (.aload_n 0, 1) := by decide +kernel
theorem d_M_letter_78 : decode m_M_letter.2.1 78 = .ok (.dup, 1) := by decide +kernel
theorem d_M_letter_79 : decode m_M_letter.2.1 79 = .ok (.getfield 176, 3) := by decide +kernel
theorem d_M_letter_82 : decode m_M_letter.2.1 82 = .ok (.iconst 1, 1) := by decide +kernel
theorem d_M_letter_83 : decode m_M_letter.2.1 83 = .ok (.iadd, 1) := by decide +kernel
theorem d_M_letter_84 : decode m_M_letter.2.1 84 = .ok (.putfield 176, 3) := by decide +kernel
theorem d_M_letter_87 : decode m_M_letter.2.1 87 = .ok (.aload_n 0, 1) := by decide +kernel
theorem d_M_letter_88 : decode m_M_letter.2.1 88 = .ok (.getfield 176, 3) := by decide +kernel
theorem d_M_letter_91 : decode m_M_letter.2.1 91 = .ok (.ireturn, 1) := by decide +kernel
theorem d_M_letter_92 : decode m_M_letter.2.1 92 = .ok (.aload_n 0, 1) := by decide +kernel
theorem d_M_letter_93 : decode m_M_letter.2.1 93 = .ok (.iload_n 1, 1) := by decide +kernel
theorem d_M_letter_94 : decode m_M_letter.2.1 94 = .ok (.bipush 20, 2) := by decide +kernel
theorem d_M_letter_96 : decode m_M_letter.2.1 96 = .ok (.invokevirtual 223, 3) := by decide +kernel
theorem d_M_letter_99 : decode m_M_letter.2.1 99 = .ok (.iload_n 1, 1) := by decide +kernel
theorem d_M_letter_100 : decode m_M_letter.2.1 100 = .ok (.iconst 1, 1) := by decide +kernel
theorem d_M_letter_101 : decode m_M_letter.2.1 101 = .ok (.iadd, 1) := by decide +kernel
theorem d_M_letter_102 : decode m_M_letter.2.1 102 = .ok (.istore_n 3, 1) := by decide +kernel
theorem d_M_letter_103 : decode m_M_letter.2.1 103 = .ok (.iload_n 3, 1) := by decide +kernel
theorem d_M_letter_104 : decode m_M_letter.2.1 104 = .ok (.aload_n 0, 1) := by decide +kernel
theorem d_M_letter_105 : decode m_M_letter.2.1 105 = .ok (.getfield 176, 3) := by decide +kernel
theorem d_M_letter_108 : decode m_M_letter.2.1 108 = .ok (.if_icmp .ge 17, 3) := by decide +kernel
theorem d_M_letter_111 : decode m_M_letter.2.1 111 = .ok (.aload_n 0, 1) := by decide +kernel
theorem d_M_letter_112 : decode m_M_letter.2.1 112 = .ok (.iload_n 3, 1) := by decide +kernel
theorem d_M_letter_113 : decode m_M_letter.2.1 113 = .ok (.iload_n 3, 1) := by decide +kernel
theorem d_M_letter_114 : decode m_M_letter.2.1 114 = .ok (.iconst 1, 1) := by decide +kernel
theorem d_M_letter_115 : decode m_M_letter.2.1 115 = .ok (.isub, 1) := by decide +kernel
theorem d_M_letter_116 : decode m_M_letter.2.1 116 = .ok (.invokevirtual 223, 3) := by decide +kernel
theorem d_M_letter_119 : decode m_M_letter.2.1 119 = .ok (.iinc 3 1, 3) := by decide +kernel
theorem d_M_letter_122 : decode m_M_letter.2.1 122 = .ok (.goto (-19), 3) := by decide +kernel
theorem d_M_letter_125 : decode m_M_letter.2.1 125 = .ok (.aload_n 0, 1) := by decide +kernel
theorem d_M_letter_126 : decode m_M_letter.2.1 126 = .ok (.dup, 1) := by decide +kernel
theorem d_M_letter_127 : decode m_M_letter.2.1 127 = .ok (.getfield 176, 3) := by decide +kernel
theorem d_M_letter_130 : decode m_M_letter.2.1 130 = .ok (.iconst 1, 1) := by decide +kernel
theorem d_M_letter_131 : decode m_M_letter.2.1 131 = .ok (.isub, 1) := by decide +kernel
theorem d_M_letter_132 : decode m_M_letter.2.1 132 = .ok (.putfield 176, 3) := by decide +kernel
theorem d_M_letter_135 : decode m_M_letter.2.1 135 = .ok (.iload_n 2, 1) := by decide +kernel
theorem d_M_letter_136 : decode m_M_letter.2.1 136 = .ok (.ifCond .ne 7, 3) := by decide +kernel
theorem d_M_letter_139 : decode m_M_letter.2.1 139 = .ok (.aload_n 0, 1) := by decide +kernel
theorem d_M_letter_140 : decode m_M_letter.2.1 140 = .ok (.invokevirtual 226, 3) := by decide +kernel
theorem d_M_letter_143 : decode m_M_letter.2.1 143 = .ok (.aload_n 0, 1) := by decide +kernel
theorem d_M_letter_144 : decode m_M_letter.2.1 144 = .ok (.getfield 176, 3) := by decide +kernel
theorem d_M_letter_147 : decode m_M_letter.2.1 147 = .ok (.ireturn, 1) := by decide +kernel
theorem d_M_copyLetter_0 : decode m_M_copyLetter.2.1 0 = .ok (.aload_n 0, 1) := by decide +kernel
theorem d_M_copyLetter_1 : decode m_M_copyLetter.2.1 1 = .ok (.getfield 95, 3) := by decide +kernel
theorem d_M_copyLetter_4 : decode m_M_copyLetter.2.1 4 = .ok (.iload_n 2, 1) := by decide +kernel
theorem d_M_copyLetter_5 : decode m_M_copyLetter.2.1 5 = .ok (.aload_n 0, 1) := by decide +kernel
theorem d_M_copyLetter_6 : decode m_M_copyLetter.2.1 6 = .ok (.getfield 95, 3) := by decide +kernel
theorem d_M_copyLetter_9 : decode m_M_copyLetter.2.1 9 = .ok (.iload_n 1, 1) := by decide +kernel
theorem d_M_copyLetter_10 : decode m_M_copyLetter.2.1 10 = .ok (.iaload, 1) := by decide +kernel
theorem d_M_copyLetter_11 : decode m_M_copyLetter.2.1 11 = .ok (.iastore, 1) := by decide +kernel
theorem d_M_copyLetter_12 : decode m_M_copyLetter.2.1 12 = .ok (.aload_n 0, 1) := by decide +kernel
theorem d_M_copyLetter_13 : decode m_M_copyLetter.2.1 13 = .ok (.getfield 98, 3) := by decide +kernel
theorem d_M_copyLetter_16 : decode m_M_copyLetter.2.1 16 = .ok (.iload_n 2, 1) := by decide +kernel
theorem d_M_copyLetter_17 : decode m_M_copyLetter.2.1 17 = .ok (.aload_n 0, 1) := by decide +kernel
theorem d_M_copyLetter_18 : decode m_M_copyLetter.2.1 18 = .ok (.getfield 98, 3) := by decide +kernel
theorem d_M_copyLetter_21 : decode m_M_copyLetter.2.1 21 = .ok (.iload_n 1, 1) := by decide +kernel
theorem d_M_copyLetter_22 : decode m_M_copyLetter.2.1 22 = .ok (.iaload, 1) := by decide +kernel
theorem d_M_copyLetter_23 : decode m_M_copyLetter.2.1 23 = .ok (.iastore, 1) := by decide +kernel
theorem d_M_copyLetter_24 : decode m_M_copyLetter.2.1 24 = .ok (.aload_n 0, 1) := by decide +kernel
theorem d_M_copyLetter_25 : decode m_M_copyLetter.2.1 25 = .ok (.getfield 101, 3) := by decide +kernel
theorem d_M_copyLetter_28 : decode m_M_copyLetter.2.1 28 = .ok (.iload_n 2, 1) := by decide +kernel
theorem d_M_copyLetter_29 : decode m_M_copyLetter.2.1 29 = .ok (.aload_n 0, 1) := by decide +kernel
theorem d_M_copyLetter_30 : decode m_M_copyLetter.2.1 30 = .ok (.getfield 101, 3) := by decide +kernel
theorem d_M_copyLetter_33 : decode m_M_copyLetter.2.1 33 = .ok (.iload_n 1, 1) := by decide +kernel
theorem d_M_copyLetter_34 : decode m_M_copyLetter.2.1 34 = .ok (.iaload, 1) := by decide +kernel
theorem d_M_copyLetter_35 : decode m_M_copyLetter.2.1 35 = .ok (.iastore, 1) := by decide +kernel
theorem d_M_copyLetter_36 : decode m_M_copyLetter.2.1 36 = .ok (.aload_n 0, 1) := by decide +kernel
theorem d_M_copyLetter_37 : decode m_M_copyLetter.2.1 37 = .ok (.getfield 104, 3) := by decide +kernel
theorem d_M_copyLetter_40 : decode m_M_copyLetter.2.1 40 = .ok (.iload_n 2, 1) := by decide +kernel
theorem d_M_copyLetter_41 : decode m_M_copyLetter.2.1 41 = .ok (.aload_n 0, 1) := by decide +kernel
theorem d_M_copyLetter_42 : decode m_M_copyLetter.2.1 42 = .ok (.getfield 104, 3) := by decide +kernel
theorem d_M_copyLetter_45 : decode m_M_copyLetter.2.1 45 = .ok (.iload_n 1, 1) := by decide +kernel
theorem d_M_copyLetter_46 : decode m_M_copyLetter.2.1 46 = .ok (.iaload, 1) := by decide +kernel
theorem d_M_copyLetter_47 : decode m_M_copyLetter.2.1 47 = .ok (.iastore, 1) := by decide +kernel
theorem d_M_copyLetter_48 : decode m_M_copyLetter.2.1 48 = .ok (.aload_n 0, 1) := by decide +kernel
theorem d_M_copyLetter_49 : decode m_M_copyLetter.2.1 49 = .ok (.getfield 107, 3) := by decide +kernel
theorem d_M_copyLetter_52 : decode m_M_copyLetter.2.1 52 = .ok (.iload_n 2, 1) := by decide +kernel
theorem d_M_copyLetter_53 : decode m_M_copyLetter.2.1 53 = .ok (.aload_n 0, 1) := by decide +kernel
theorem d_M_copyLetter_54 : decode m_M_copyLetter.2.1 54 = .ok (.getfield 107, 3) := by decide +kernel
theorem d_M_copyLetter_57 : decode m_M_copyLetter.2.1 57 = .ok (.iload_n 1, 1) := by decide +kernel
theorem d_M_copyLetter_58 : decode m_M_copyLetter.2.1 58 = .ok (.iaload, 1) := by decide +kernel
theorem d_M_copyLetter_59 : decode m_M_copyLetter.2.1 59 = .ok (.iastore, 1) := by decide +kernel
theorem d_M_copyLetter_60 : decode m_M_copyLetter.2.1 60 = .ok (.aload_n 0, 1) := by decide +kernel
theorem d_M_copyLetter_61 : decode m_M_copyLetter.2.1 61 = .ok (.getfield 110, 3) := by decide +kernel
theorem d_M_copyLetter_64 : decode m_M_copyLetter.2.1 64 = .ok (.iload_n 2, 1) := by decide +kernel
theorem d_M_copyLetter_65 : decode m_M_copyLetter.2.1 65 = .ok (.aload_n 0, 1) := by decide +kernel
theorem d_M_copyLetter_66 : decode m_M_copyLetter.2.1 66 = .ok (.getfield 110, 3) := by decide +kernel
theorem d_M_copyLetter_69 : decode m_M_copyLetter.2.1 69 = .ok (.iload_n 1, 1) := by decide +kernel
theorem d_M_copyLetter_70 : decode m_M_copyLetter.2.1 70 = .ok (.iaload, 1) := by decide +kernel
theorem d_M_copyLetter_71 : decode m_M_copyLetter.2.1 71 = .ok (.iastore, 1) := by decide +kernel
theorem d_M_copyLetter_72 : decode m_M_copyLetter.2.1 72 = .ok (.iconst 0, 1) := by decide +kernel
theorem d_M_copyLetter_73 : decode m_M_copyLetter.2.1 73 = .ok (.istore_n 3, 1) := by decide +kernel
theorem d_M_copyLetter_74 : decode m_M_copyLetter.2.1 74 = .ok (.iload_n 3, 1) := by decide +kernel
theorem d_M_copyLetter_75 : decode m_M_copyLetter.2.1 75 = .ok (.sipush 256, 3) := by decide +kernel
theorem d_M_copyLetter_78 : decode m_M_copyLetter.2.1 78 = .ok (.if_icmp .ge 33, 3) := by decide +kernel
theorem d_M_copyLetter_81 : decode m_M_copyLetter.2.1 81 = .ok (.aload_n 0, 1) := by decide +kernel
theorem d_M_copyLetter_82 : decode m_M_copyLetter.2.1 82 = .ok (.getfield 113, 3) := by decide +kernel
theorem d_M_copyLetter_85 : decode m_M_copyLetter.2.1 85 = .ok (.sipush 256, 3) := by decide +kernel
theorem d_M_copyLetter_88 : decode m_M_copyLetter.2.1 88 = .ok (.iload_n 2, 1) := by decide +kernel
theorem d_M_copyLetter_89 : decode m_M_copyLetter.2.1 89 = .ok (.imul, 1) := by decide +kernel
theorem d_M_copyLetter_90 : decode m_M_copyLetter.2.1 90 = .ok (.iload_n 3, 1) := by decide +kernel
theorem d_M_copyLetter_91 : decode m_M_copyLetter.2.1 91 = .ok (.iadd, 1) := by decide +kernel
theorem d_M_copyLetter_92 : decode m_M_copyLetter.2.1 92 = .ok (.aload_n 0, 1) := by decide +kernel
theorem d_M_copyLetter_93 : decode m_M_copyLetter.2.1 93 = .ok (.getfield 113, 3) := by decide +kernel
theorem d_M_copyLetter_96 : decode m_M_copyLetter.2.1 96 = .ok (.sipush 256, 3) := by decide +kernel
theorem d_M_copyLetter_99 : decode m_M_copyLetter.2.1 99 = .ok (.iload_n 1, 1) := by decide +kernel
theorem d_M_copyLetter_100 : decode m_M_copyLetter.2.1 100 = .ok (.imul, 1) := by decide +kernel
theorem d_M_copyLetter_101 : decode m_M_copyLetter.2.1 101 = .ok (.iload_n 3, 1) := by decide +kernel
theorem d_M_copyLetter_102 : decode m_M_copyLetter.2.1 102 = .ok (.iadd, 1) := by decide +kernel
theorem d_M_copyLetter_103 : decode m_M_copyLetter.2.1 103 = .ok (.iaload, 1) := by decide +kernel
theorem d_M_copyLetter_104 : decode m_M_copyLetter.2.1 104 = .ok (.iastore, 1) := by decide +kernel
theorem d_M_copyLetter_105 : decode m_M_copyLetter.2.1 105 = .ok (.iinc 3 1, 3) := by decide +kernel
theorem d_M_copyLetter_108 : decode m_M_copyLetter.2.1 108 = .ok (.goto (-34), 3) := by decide +kernel
theorem d_M_copyLetter_111 : decode m_M_copyLetter.2.1 111 = .ok (.return_, 1) := by decide +kernel
theorem d_M_deliver_0 : decode m_M_deliver.2.1 0 = .ok (.aload_n 0, 1) := by decide +kernel
theorem d_M_deliver_1 : decode m_M_deliver.2.1 1 = .ok (.getfield 101, 3) := by decide +kernel
theorem d_M_deliver_4 : decode m_M_deliver.2.1 4 = .ok (.bipush 20, 2) := by decide +kernel
theorem d_M_deliver_6 : decode m_M_deliver.2.1 6 = .ok (.iaload, 1) := by decide +kernel
theorem d_M_deliver_7 : decode m_M_deliver.2.1 7 = .ok (.istore_n 1, 1) := by decide +kernel
theorem d_M_deliver_8 : decode m_M_deliver.2.1 8 = .ok (.aload_n 0, 1) := by decide +kernel
theorem d_M_deliver_9 : decode m_M_deliver.2.1 9 = .ok (.getfield 98, 3) := by decide +kernel
theorem d_M_deliver_12 : decode m_M_deliver.2.1 12 = .ok (.bipush 20, 2) := by decide +kernel
theorem d_M_deliver_14 : decode m_M_deliver.2.1 14 = .ok (.iaload, 1) := by decide +kernel
theorem d_M_deliver_15 : decode m_M_deliver.2.1 15 = .ok (.istore_n 2, 1) := by decide +kernel
theorem d_M_deliver_16 : decode m_M_deliver.2.1 16 = .ok (.aload_n 0, 1) := by decide +kernel
theorem d_M_deliver_17 : decode m_M_deliver.2.1 17 = .ok (.getfield 95, 3) := by decide +kernel
theorem d_M_deliver_20 : decode m_M_deliver.2.1 20 = .ok (.bipush 20, 2) := by decide +kernel
theorem d_M_deliver_22 : decode m_M_deliver.2.1 22 = .ok (.iaload, 1) := by decide +kernel
theorem d_M_deliver_23 : decode m_M_deliver.2.1 23 = .ok (.ifCond .ne 64, 3) := by decide +kernel
theorem d_M_deliver_26 : decode m_M_deliver.2.1 26 = .ok (.aload_n 0, 1) := by decide +kernel
theorem d_M_deliver_27 : decode m_M_deliver.2.1 27 = .ok (.getfield 37, 3) := by decide +kernel
theorem d_M_deliver_30 : decode m_M_deliver.2.1 30 = .ok (.iload_n 1, 1) := by decide +kernel
theorem d_M_deliver_31 : decode m_M_deliver.2.1 31 = .ok (.baload, 1) := by decide +kernel
theorem d_M_deliver_32 : decode m_M_deliver.2.1 32 = .ok (.ifCond .ne 19, 3) := by decide +kernel
theorem d_M_deliver_35 : decode m_M_deliver.2.1 35 = .ok (.aload_n 0, 1) := by decide +kernel
theorem d_M_deliver_36 : decode m_M_deliver.2.1 36 = .ok (.iload_n 1, 1) := by decide +kernel
theorem d_M_deliver_37 : decode m_M_deliver.2.1 37 = .ok (.iload_n 2, 1) := by decide +kernel
theorem d_M_deliver_38 : decode m_M_deliver.2.1 38 = .ok (.aload_n 0, 1) := by decide +kernel
theorem d_M_deliver_39 : decode m_M_deliver.2.1 39 = .ok (.getfield 104, 3) := by decide +kernel
theorem d_M_deliver_42 : decode m_M_deliver.2.1 42 = .ok (.bipush 20, 2) := by decide +kernel
theorem d_M_deliver_44 : decode m_M_deliver.2.1 44 = .ok (.iaload, 1) := by decide +kernel
theorem d_M_deliver_45 : decode m_M_deliver.2.1 45 = .ok (.invokevirtual 172, 3) := by decide +kernel
theorem d_M_deliver_48 : decode m_M_deliver.2.1 48 = .ok (.goto 309, 3) := by decide +kernel
theorem d_M_deliver_51 : decode m_M_deliver.2.1 51 = .ok (.aload_n 0, 1) := by decide +kernel
theorem d_M_deliver_52 : decode m_M_deliver.2.1 52 = .ok (.getfield 41, 3) := by decide +kernel
theorem d_M_deliver_55 : decode m_M_deliver.2.1 55 = .ok (.iload_n 1, 1) := by decide +kernel
theorem d_M_deliver_56 : decode m_M_deliver.2.1 56 = .ok (.baload, 1) := by decide +kernel
theorem d_M_deliver_57 : decode m_M_deliver.2.1 57 = .ok (.ifCond .eq 300, 3) := by decide +kernel
theorem d_M_deliver_60 : decode m_M_deliver.2.1 60 = .ok (.aload_n 0, 1) := by decide +kernel
theorem d_M_deliver_61 : decode m_M_deliver.2.1 61 = .ok (.getfield 47, 3) := by decide +kernel
theorem d_M_deliver_64 : decode m_M_deliver.2.1 64 = .ok (.iload_n 1, 1) := by decide +kernel
theorem d_M_deliver_65 : decode m_M_deliver.2.1 65 = .ok (.iaload, 1) := by decide +kernel
theorem d_M_deliver_66 : decode m_M_deliver.2.1 66 = .ok (.iload_n 2, 1) := by decide +kernel
theorem d_M_deliver_67 : decode m_M_deliver.2.1 67 = .ok (.if_icmp .ne 290, 3) := by decide +kernel
theorem d_M_deliver_70 : decode m_M_deliver.2.1 70 = .ok (.aload_n 0, 1) := by decide +kernel
theorem d_M_deliver_71 : decode m_M_deliver.2.1 71 = .ok (.iconst 1, 1) := by decide +kernel
theorem d_M_deliver_72 : decode m_M_deliver.2.1 72 = .ok (.iload_n 1, 1) := by decide +kernel
theorem d_M_deliver_73 : decode m_M_deliver.2.1 73 = .ok (.iload_n 2, 1) := by decide +kernel
theorem d_M_deliver_74 : decode m_M_deliver.2.1 74 = .ok (.aload_n 0, 1) := by decide +kernel
theorem d_M_deliver_75 : decode m_M_deliver.2.1 75 = .ok (.getfield 53, 3) := by decide +kernel
theorem d_M_deliver_78 : decode m_M_deliver.2.1 78 = .ok (.iload_n 1, 1) := by decide +kernel
theorem d_M_deliver_79 : decode m_M_deliver.2.1 79 = .ok (.iaload, 1) := by decide +kernel
theorem d_M_deliver_80 : decode m_M_deliver.2.1 80 = .ok (.invokevirtual 179, 3) := by decide +kernel
theorem d_M_deliver_83 : decode m_M_deliver.2.1 83 = .ok (.istore_n 3, 1) := by decide +kernel
theorem d_M_deliver_84 : decode m_M_deliver.2.1 84 = .ok (.goto 273, 3) := by decide +kernel
theorem d_M_deliver_87 : decode m_M_deliver.2.1 87 = .ok (.aload_n 0, 1) := by decide +kernel
theorem d_M_deliver_88 : decode m_M_deliver.2.1 88 = .ok (.getfield 95, 3) := by decide +kernel
theorem d_M_deliver_91 : decode m_M_deliver.2.1 91 = .ok (.bipush 20, 2) := by decide +kernel
theorem d_M_deliver_93 : decode m_M_deliver.2.1 93 = .ok (.iaload, 1) := by decide +kernel
theorem d_M_deliver_94 : decode m_M_deliver.2.1 94 = .ok (.iconst 1, 1) := by decide +kernel
theorem d_M_deliver_95 : decode m_M_deliver.2.1 95 = .ok (.if_icmp .ne 61, 3) := by decide +kernel
theorem d_M_deliver_98 : decode m_M_deliver.2.1 98 = .ok (.aload_n 0, 1) := by decide +kernel
theorem d_M_deliver_99 : decode m_M_deliver.2.1 99 = .ok (.getfield 56, 3) := by decide +kernel
theorem d_M_deliver_102 : decode m_M_deliver.2.1 102 = .ok (.iload_n 1, 1) := by decide +kernel
theorem d_M_deliver_103 : decode m_M_deliver.2.1 103 = .ok (.iaload, 1) := by decide +kernel
theorem d_M_deliver_104 : decode m_M_deliver.2.1 104 = .ok (.iload_n 2, 1) := by decide +kernel
theorem d_M_deliver_105 : decode m_M_deliver.2.1 105 = .ok (.if_icmp .ne 252, 3) := by decide +kernel
theorem d_M_deliver_108 : decode m_M_deliver.2.1 108 = .ok (.aload_n 0, 1) := by decide +kernel
theorem d_M_deliver_109 : decode m_M_deliver.2.1 109 = .ok (.getfield 53, 3) := by decide +kernel
theorem d_M_deliver_112 : decode m_M_deliver.2.1 112 = .ok (.iload_n 1, 1) := by decide +kernel
theorem d_M_deliver_113 : decode m_M_deliver.2.1 113 = .ok (.aload_n 0, 1) := by decide +kernel
theorem d_M_deliver_114 : decode m_M_deliver.2.1 114 = .ok (.getfield 104, 3) := by decide +kernel
theorem d_M_deliver_117 : decode m_M_deliver.2.1 117 = .ok (.bipush 20, 2) := by decide +kernel
theorem d_M_deliver_119 : decode m_M_deliver.2.1 119 = .ok (.iaload, 1) := by decide +kernel
theorem d_M_deliver_120 : decode m_M_deliver.2.1 120 = .ok (.iastore, 1) := by decide +kernel
theorem d_M_deliver_121 : decode m_M_deliver.2.1 121 = .ok (.aload_n 0, 1) := by decide +kernel
theorem d_M_deliver_122 : decode m_M_deliver.2.1 122 = .ok (.getfield 59, 3) := by decide +kernel
theorem d_M_deliver_125 : decode m_M_deliver.2.1 125 = .ok (.bipush 8, 2) := by decide +kernel
theorem d_M_deliver_127 : decode m_M_deliver.2.1 127 = .ok (.iload_n 1, 1) := by decide +kernel
theorem d_M_deliver_128 : decode m_M_deliver.2.1 128 = .ok (.imul, 1) := by decide +kernel
theorem d_M_deliver_129 : decode m_M_deliver.2.1 129 = .ok (.aload_n 0, 1) := by decide +kernel
theorem d_M_deliver_130 : decode m_M_deliver.2.1 130 = .ok (.getfield 62, 3) := by decide +kernel
theorem d_M_deliver_133 : decode m_M_deliver.2.1 133 = .ok (.iload_n 1, 1) := by decide +kernel
theorem d_M_deliver_134 : decode m_M_deliver.2.1 134 = .ok (.iaload, 1) := by decide +kernel
theorem d_M_deliver_135 : decode m_M_deliver.2.1 135 = .ok (.iadd, 1) := by decide +kernel
theorem d_M_deliver_136 : decode m_M_deliver.2.1 136 = .ok (.iload_n 2, 1) := by decide +kernel
theorem d_M_deliver_137 : decode m_M_deliver.2.1 137 = .ok (.iastore, 1) := by decide +kernel
theorem d_M_deliver_138 : decode m_M_deliver.2.1 138 = .ok (.aload_n 0, 1) := by decide +kernel
theorem d_M_deliver_139 : decode m_M_deliver.2.1 139 = .ok (.getfield 62, 3) := by decide +kernel
theorem d_M_deliver_142 : decode m_M_deliver.2.1 142 = .ok (.iload_n 1, 1) := by decide +kernel
theorem d_M_deliver_143 : decode m_M_deliver.2.1 143 = .ok (.dup2, 1) := by decide +kernel
theorem d_M_deliver_144 : decode m_M_deliver.2.1 144 = .ok (.iaload, 1) := by decide +kernel
theorem d_M_deliver_145 : decode m_M_deliver.2.1 145 = .ok (.iconst 1, 1) := by decide +kernel
theorem d_M_deliver_146 : decode m_M_deliver.2.1 146 = .ok (.iadd, 1) := by decide +kernel
theorem d_M_deliver_147 : decode m_M_deliver.2.1 147 = .ok (.iastore, 1) := by decide +kernel
theorem d_M_deliver_148 : decode m_M_deliver.2.1 148 = .ok (.aload_n 0, 1) := by decide +kernel
theorem d_M_deliver_149 : decode m_M_deliver.2.1 149 = .ok (.iload_n 1, 1) := by decide +kernel
theorem d_M_deliver_150 : decode m_M_deliver.2.1 150 = .ok (.invokevirtual 183, 3) := by decide +kernel
theorem d_M_deliver_153 : decode m_M_deliver.2.1 153 = .ok (.goto 204, 3) := by decide +kernel
theorem d_M_deliver_156 : decode m_M_deliver.2.1 156 = .ok (.aload_n 0, 1) := by decide +kernel
theorem d_M_deliver_157 : decode m_M_deliver.2.1 157 = .ok (.getfield 95, 3) := by decide +kernel
theorem d_M_deliver_160 : decode m_M_deliver.2.1 160 = .ok (.bipush 20, 2) := by decide +kernel
theorem d_M_deliver_162 : decode m_M_deliver.2.1 162 = .ok (.iaload, 1) := by decide +kernel
theorem d_M_deliver_163 : decode m_M_deliver.2.1 163 = .ok (.iconst 2, 1) := by decide +kernel
theorem d_M_deliver_164 : decode m_M_deliver.2.1 164 = .ok (.if_icmp .ne 130, 3) := by decide +kernel
theorem d_M_deliver_167 : decode m_M_deliver.2.1 167 = .ok (.aload_n 0, 1) := by decide +kernel
theorem d_M_deliver_168 : decode m_M_deliver.2.1 168 = .ok (.getfield 104, 3) := by decide +kernel
theorem d_M_deliver_171 : decode m_M_deliver.2.1 171 = .ok (.bipush 20, 2) := by decide +kernel
theorem d_M_deliver_173 : decode m_M_deliver.2.1 173 = .ok (.iaload, 1) := by decide +kernel
theorem d_M_deliver_174 : decode m_M_deliver.2.1 174 = .ok (.aload_n 0, 1) := by decide +kernel
theorem d_M_deliver_175 : decode m_M_deliver.2.1 175 = .ok (.getfield 68, 3) := by decide +kernel
theorem d_M_deliver_178 : decode m_M_deliver.2.1 178 = .ok (.bipush 8, 2) := by decide +kernel
theorem d_M_deliver_180 : decode m_M_deliver.2.1 180 = .ok (.iload_n 2, 1) := by decide +kernel
theorem d_M_deliver_181 : decode m_M_deliver.2.1 181 = .ok (.iadd, 1) := by decide +kernel
theorem d_M_deliver_182 : decode m_M_deliver.2.1 182 = .ok (.iaload, 1) := by decide +kernel
theorem d_M_deliver_183 : decode m_M_deliver.2.1 183 = .ok (.if_icmp .le 174, 3) := by decide +kernel
theorem d_M_deliver_186 : decode m_M_deliver.2.1 186 = .ok (.aload_n 0, 1) := by decide +kernel
theorem d_M_deliver_187 : decode m_M_deliver.2.1 187 = .ok (.getfield 68, 3) := by decide +kernel
theorem d_M_deliver_190 : decode m_M_deliver.2.1 190 = .ok (.bipush 8, 2) := by decide +kernel
theorem d_M_deliver_192 : decode m_M_deliver.2.1 192 = .ok (.iload_n 2, 1) := by decide +kernel
theorem d_M_deliver_193 : decode m_M_deliver.2.1 193 = .ok (.iadd, 1) := by decide +kernel
theorem d_M_deliver_194 : decode m_M_deliver.2.1 194 = .ok (.aload_n 0, 1) := by decide +kernel
theorem d_M_deliver_195 : decode m_M_deliver.2.1 195 = .ok (.getfield 104, 3) := by decide +kernel
theorem d_M_deliver_198 : decode m_M_deliver.2.1 198 = .ok (.bipush 20, 2) := by decide +kernel
theorem d_M_deliver_200 : decode m_M_deliver.2.1 200 = .ok (.iaload, 1) := by decide +kernel
theorem d_M_deliver_201 : decode m_M_deliver.2.1 201 = .ok (.iastore, 1) := by decide +kernel
theorem d_M_deliver_202 : decode m_M_deliver.2.1 202 = .ok (.aload_n 0, 1) := by decide +kernel
theorem d_M_deliver_203 : decode m_M_deliver.2.1 203 = .ok (.getfield 71, 3) := by decide +kernel
theorem d_M_deliver_206 : decode m_M_deliver.2.1 206 = .ok (.bipush 8, 2) := by decide +kernel
theorem d_M_deliver_208 : decode m_M_deliver.2.1 208 = .ok (.iload_n 2, 1) := by decide +kernel
theorem d_M_deliver_209 : decode m_M_deliver.2.1 209 = .ok (.iadd, 1) := by decide +kernel
theorem d_M_deliver_210 : decode m_M_deliver.2.1 210 = .ok (.aload_n 0, 1) := by decide +kernel
theorem d_M_deliver_211 : decode m_M_deliver.2.1 211 = .ok (.getfield 110, 3) := by decide +kernel
theorem d_M_deliver_214 : decode m_M_deliver.2.1 214 = .ok (.bipush 20, 2) := by decide +kernel
theorem d_M_deliver_216 : decode m_M_deliver.2.1 216 = .ok (.iaload, 1) := by decide +kernel
theorem d_M_deliver_217 : decode m_M_deliver.2.1 217 = .ok (.iastore, 1) := by decide +kernel
theorem d_M_deliver_218 : decode m_M_deliver.2.1 218 = .ok (.aload_n 0, 1) := by decide +kernel
theorem d_M_deliver_219 : decode m_M_deliver.2.1 219 = .ok (.getfield 74, 3) := by decide +kernel
theorem d_M_deliver_222 : decode m_M_deliver.2.1 222 = .ok (.bipush 8, 2) := by decide +kernel
theorem d_M_deliver_224 : decode m_M_deliver.2.1 224 = .ok (.iload_n 2, 1) := by decide +kernel
theorem d_M_deliver_225 : decode m_M_deliver.2.1 225 = .ok (.iadd, 1) := by decide +kernel
theorem d_M_deliver_226 : decode m_M_deliver.2.1 226 = .ok (.aload_n 0, 1) := by decide +kernel
theorem d_M_deliver_227 : decode m_M_deliver.2.1 227 = .ok (.getfield 107, 3) := by decide +kernel
theorem d_M_deliver_230 : decode m_M_deliver.2.1 230 = .ok (.bipush 20, 2) := by decide +kernel
theorem d_M_deliver_232 : decode m_M_deliver.2.1 232 = .ok (.iaload, 1) := by decide +kernel
theorem d_M_deliver_233 : decode m_M_deliver.2.1 233 = .ok (.iastore, 1) := by decide +kernel
theorem d_M_deliver_234 : decode m_M_deliver.2.1 234 = .ok (.iconst 0, 1) := by decide +kernel
theorem d_M_deliver_235 : decode m_M_deliver.2.1 235 = .ok (.istore_n 3, 1) := by decide +kernel
theorem d_M_deliver_236 : decode m_M_deliver.2.1 236 = .ok (.iload_n 3, 1) := by decide +kernel
theorem d_M_deliver_237 : decode m_M_deliver.2.1 237 = .ok (.aload_n 0, 1) := by decide +kernel
theorem d_M_deliver_238 : decode m_M_deliver.2.1 238 = .ok (.getfield 107, 3) := by decide +kernel
theorem d_M_deliver_241 : decode m_M_deliver.2.1 241 = .ok (.bipush 20, 2) := by decide +kernel
theorem d_M_deliver_243 : decode m_M_deliver.2.1 243 = .ok (.iaload, 1) := by decide +kernel
theorem d_M_deliver_244 : decode m_M_deliver.2.1 244 = .ok (.if_icmp .ge 35, 3) := by decide +kernel
theorem d_M_deliver_247 : decode m_M_deliver.2.1 247 = .ok (.aload_n 0, 1) := by decide +kernel
theorem d_M_deliver_248 : decode m_M_deliver.2.1 248 = .ok (.getfield 77, 3) := by decide +kernel
theorem d_M_deliver_251 : decode m_M_deliver.2.1 251 = .ok (.sipush 2048, 3) := by decide +kernel
theorem d_M_deliver_254 : decode m_M_deliver.2.1 254 = .ok (.sipush 256, 3) := by decide +kernel
theorem d_M_deliver_257 : decode m_M_deliver.2.1 257 = .ok (.iload_n 2, 1) := by decide +kernel
theorem d_M_deliver_258 : decode m_M_deliver.2.1 258 = .ok (.imul, 1) := by decide +kernel
theorem d_M_deliver_259 : decode m_M_deliver.2.1 259 = .ok (.iadd, 1) := by decide +kernel
theorem d_M_deliver_260 : decode m_M_deliver.2.1 260 = .ok (.iload_n 3, 1) := by decide +kernel
theorem d_M_deliver_261 : decode m_M_deliver.2.1 261 = .ok (.iadd, 1) := by decide +kernel
theorem d_M_deliver_262 : decode m_M_deliver.2.1 262 = .ok (.aload_n 0, 1) := by decide +kernel
theorem d_M_deliver_263 : decode m_M_deliver.2.1 263 = .ok (.getfield 113, 3) := by decide +kernel
theorem d_M_deliver_266 : decode m_M_deliver.2.1 266 = .ok (.sipush 5120, 3) := by decide +kernel
theorem d_M_deliver_269 : decode m_M_deliver.2.1 269 = .ok (.iload_n 3, 1) := by decide +kernel
theorem d_M_deliver_270 : decode m_M_deliver.2.1 270 = .ok (.iadd, 1) := by decide +kernel
theorem d_M_deliver_271 : decode m_M_deliver.2.1 271 = .ok (.iaload, 1) := by decide +kernel
theorem d_M_deliver_272 : decode m_M_deliver.2.1 272 = .ok (.iastore, 1) := by decide +kernel
theorem d_M_deliver_273 : decode m_M_deliver.2.1 273 = .ok (.iinc 3 1, 3) := by decide +kernel
theorem d_M_deliver_276 : decode m_M_deliver.2.1 276 = .ok (.goto (-40), 3) := by decide +kernel
theorem d_M_deliver_279 : decode m_M_deliver.2.1 279 = .ok (.aload_n 0, 1) := by decide +kernel
theorem d_M_deliver_280 : decode m_M_deliver.2.1 280 = .ok (.iload_n 1, 1) := by decide +kernel
theorem d_M_deliver_281 : decode m_M_deliver.2.1 281 = .ok (.aload_n 0, 1) := by decide +kernel
theorem d_M_deliver_282 : decode m_M_deliver.2.1 282 = .ok (.getfield 104, 3) := by decide +kernel
theorem d_M_deliver_285 : decode m_M_deliver.2.1 285 = .ok (.bipush 20, 2) := by decide +kernel
theorem d_M_deliver_287 : decode m_M_deliver.2.1 287 = .ok (.iaload, 1) := by decide +kernel
theorem d_M_deliver_288 : decode m_M_deliver.2.1 288 = .ok (.invokevirtual 186, 3) := by decide +kernel
theorem d_M_deliver_291 : decode m_M_deliver.2.1 291 = .ok (.goto 66, 3) := by decide +kernel
theorem d_M_deliver_294 : decode m_M_deliver.2.1 294 = .ok (.aload_n 0, 1) := by decide +kernel
theorem d_M_deliver_295 : decode m_M_deliver.2.1 295 = .ok (.getfield 104, 3) := by decide +kernel
theorem d_M_deliver_298 : decode m_M_deliver.2.1 298 = .ok (.bipush 20, 2) := by decide +kernel
theorem d_M_deliver_300 : decode m_M_deliver.2.1 300 = .ok (.iaload, 1) := by decide +kernel
theorem d_M_deliver_301 : decode m_M_deliver.2.1 301 = .ok (.aload_n 0, 1) := by decide +kernel
theorem d_M_deliver_302 : decode m_M_deliver.2.1 302 = .ok (.getfield 80, 3) := by decide +kernel
theorem d_M_deliver_305 : decode m_M_deliver.2.1 305 = .ok (.iload_n 1, 1) := by decide +kernel
theorem d_M_deliver_306 : decode m_M_deliver.2.1 306 = .ok (.iaload, 1) := by decide +kernel
theorem d_M_deliver_307 : decode m_M_deliver.2.1 307 = .ok (.if_icmp .le 50, 3) := by decide +kernel
theorem d_M_deliver_310 : decode m_M_deliver.2.1 310 = .ok (.iconst 0, 1) := by decide +kernel
theorem d_M_deliver_311 : decode m_M_deliver.2.1 311 = .ok (.istore_n 3, 1) := by decide +kernel
theorem d_M_deliver_312 : decode m_M_deliver.2.1 312 = .ok (.iload_n 3, 1) := by decide +kernel
theorem d_M_deliver_313 : decode m_M_deliver.2.1 313 = .ok (.bipush 8, 2) := by decide +kernel
theorem d_M_deliver_315 : decode m_M_deliver.2.1 315 = .ok (.if_icmp .ge 30, 3) := by decide +kernel
theorem d_M_deliver_318 : decode m_M_deliver.2.1 318 = .ok (.aload_n 0, 1) := by decide +kernel
theorem d_M_deliver_319 : decode m_M_deliver.2.1 319 = .ok (.getfield 89, 3) := by decide +kernel
theorem d_M_deliver_322 : decode m_M_deliver.2.1 322 = .ok (.bipush 8, 2) := by decide +kernel
theorem d_M_deliver_324 : decode m_M_deliver.2.1 324 = .ok (.iload_n 1, 1) := by decide +kernel
theorem d_M_deliver_325 : decode m_M_deliver.2.1 325 = .ok (.imul, 1) := by decide +kernel
theorem d_M_deliver_326 : decode m_M_deliver.2.1 326 = .ok (.iload_n 3, 1) := by decide +kernel
theorem d_M_deliver_327 : decode m_M_deliver.2.1 327 = .ok (.iadd, 1) := by decide +kernel
theorem d_M_deliver_328 : decode m_M_deliver.2.1 328 = .ok (.aload_n 0, 1) := by decide +kernel
theorem d_M_deliver_329 : decode m_M_deliver.2.1 329 = .ok (.getfield 113, 3) := by decide +kernel
theorem d_M_deliver_332 : decode m_M_deliver.2.1 332 = .ok (.sipush 5120, 3) := by decide +kernel
theorem d_M_deliver_335 : decode m_M_deliver.2.1 335 = .ok (.iload_n 3, 1) := by decide +kernel
theorem d_M_deliver_336 : decode m_M_deliver.2.1 336 = .ok (.iadd, 1) := by decide +kernel
theorem d_M_deliver_337 : decode m_M_deliver.2.1 337 = .ok (.iaload, 1) := by decide +kernel
theorem d_M_deliver_338 : decode m_M_deliver.2.1 338 = .ok (.iastore, 1) := by decide +kernel
theorem d_M_deliver_339 : decode m_M_deliver.2.1 339 = .ok (.iinc 3 1, 3) := by decide +kernel
theorem d_M_deliver_342 : decode m_M_deliver.2.1 342 = .ok (.goto (-30), 3) := by decide +kernel
theorem d_M_deliver_345 : decode m_M_deliver.2.1 345 = .ok (.aload_n 0, 1) := by decide +kernel
theorem d_M_deliver_346 : decode m_M_deliver.2.1 346 = .ok (.iload_n 1, 1) := by decide +kernel
theorem d_M_deliver_347 : decode m_M_deliver.2.1 347 = .ok (.aload_n 0, 1) := by decide +kernel
theorem d_M_deliver_348 : decode m_M_deliver.2.1 348 = .ok (.getfield 104, 3) := by decide +kernel
theorem d_M_deliver_351 : decode m_M_deliver.2.1 351 = .ok (.bipush 20, 2) := by decide +kernel
theorem d_M_deliver_353 : decode m_M_deliver.2.1 353 = .ok (.iaload, 1) := by decide +kernel
theorem d_M_deliver_354 : decode m_M_deliver.2.1 354 = .ok (.invokevirtual 217, 3) := by decide +kernel
theorem d_M_deliver_357 : decode m_M_deliver.2.1 357 = .ok (.return_, 1) := by decide +kernel
theorem d_M_told_0 : decode m_M_told.2.1 0 = .ok (.aload_n 0, 1) := by decide +kernel
theorem d_M_told_1 : decode m_M_told.2.1 1 = .ok (.iconst 0, 1) := by decide +kernel
theorem d_M_told_2 : decode m_M_told.2.1 2 = .ok (.putfield 116, 3) := by decide +kernel
theorem d_M_told_5 : decode m_M_told.2.1 5 = .ok (.iload_n 1, 1) := by decide +kernel
theorem d_M_told_6 : decode m_M_told.2.1 6 = .ok (.iconst 0, 1) := by decide +kernel
theorem d_M_told_7 : decode m_M_told.2.1 7 = .ok (.aload_n 0, 1) := by decide +kernel
theorem d_M_told_8 : decode m_M_told.2.1 8 = .ok (.getfield 176, 3) := by decide +kernel
theorem d_M_told_11 : decode m_M_told.2.1 11 = .ok (.iconst 1, 1) := by decide +kernel
theorem d_M_told_12 : decode m_M_told.2.1 12 = .ok (.isub, 1) := by decide +kernel
theorem d_M_told_13 : decode m_M_told.2.1 13 = .ok (.invokestatic 127, 3) := by decide +kernel
theorem d_M_told_16 : decode m_M_told.2.1 16 = .ok (.ifCond .ne 5, 3) := by decide +kernel
theorem d_M_told_19 : decode m_M_told.2.1 19 = .ok (.iconst (-1), 1) := by decide +kernel
theorem d_M_told_20 : decode m_M_told.2.1 20 = .ok (.ireturn, 1) := by decide +kernel
theorem d_M_told_21 : decode m_M_told.2.1 21 = .ok (.iload_n 2, 1) := by decide +kernel
theorem d_M_told_22 : decode m_M_told.2.1 22 = .ok (.tableswitch 69 0 4 #[34, 41, 48, 55, 62], 34) := by decide +kernel
theorem d_M_told_56 : decode m_M_told.2.1 56 = .ok (.aload_n 0, 1) := by decide +kernel
theorem d_M_told_57 : decode m_M_told.2.1 57 = .ok (.getfield 95, 3) := by decide +kernel
theorem d_M_told_60 : decode m_M_told.2.1 60 = .ok (.iload_n 1, 1) := by decide +kernel
theorem d_M_told_61 : decode m_M_told.2.1 61 = .ok (.iaload, 1) := by decide +kernel
theorem d_M_told_62 : decode m_M_told.2.1 62 = .ok (.ireturn, 1) := by decide +kernel
theorem d_M_told_63 : decode m_M_told.2.1 63 = .ok (.aload_n 0, 1) := by decide +kernel
theorem d_M_told_64 : decode m_M_told.2.1 64 = .ok (.getfield 98, 3) := by decide +kernel
theorem d_M_told_67 : decode m_M_told.2.1 67 = .ok (.iload_n 1, 1) := by decide +kernel
theorem d_M_told_68 : decode m_M_told.2.1 68 = .ok (.iaload, 1) := by decide +kernel
theorem d_M_told_69 : decode m_M_told.2.1 69 = .ok (.ireturn, 1) := by decide +kernel
theorem d_M_told_70 : decode m_M_told.2.1 70 = .ok (.aload_n 0, 1) := by decide +kernel
theorem d_M_told_71 : decode m_M_told.2.1 71 = .ok (.getfield 101, 3) := by decide +kernel
theorem d_M_told_74 : decode m_M_told.2.1 74 = .ok (.iload_n 1, 1) := by decide +kernel
theorem d_M_told_75 : decode m_M_told.2.1 75 = .ok (.iaload, 1) := by decide +kernel
theorem d_M_told_76 : decode m_M_told.2.1 76 = .ok (.ireturn, 1) := by decide +kernel
theorem d_M_told_77 : decode m_M_told.2.1 77 = .ok (.aload_n 0, 1) := by decide +kernel
theorem d_M_told_78 : decode m_M_told.2.1 78 = .ok (.getfield 104, 3) := by decide +kernel
theorem d_M_told_81 : decode m_M_told.2.1 81 = .ok (.iload_n 1, 1) := by decide +kernel
theorem d_M_told_82 : decode m_M_told.2.1 82 = .ok (.iaload, 1) := by decide +kernel
theorem d_M_told_83 : decode m_M_told.2.1 83 = .ok (.ireturn, 1) := by decide +kernel
theorem d_M_told_84 : decode m_M_told.2.1 84 = .ok (.aload_n 0, 1) := by decide +kernel
theorem d_M_told_85 : decode m_M_told.2.1 85 = .ok (.getfield 107, 3) := by decide +kernel
theorem d_M_told_88 : decode m_M_told.2.1 88 = .ok (.iload_n 1, 1) := by decide +kernel
theorem d_M_told_89 : decode m_M_told.2.1 89 = .ok (.iaload, 1) := by decide +kernel
theorem d_M_told_90 : decode m_M_told.2.1 90 = .ok (.ireturn, 1) := by decide +kernel
theorem d_M_told_91 : decode m_M_told.2.1 91 = .ok (.aload_n 0, 1) := by decide +kernel
theorem d_M_told_92 : decode m_M_told.2.1 92 = .ok (.iload_n 1, 1) := by decide +kernel
theorem d_M_told_93 : decode m_M_told.2.1 93 = .ok (.iload_n 2, 1) := by decide +kernel
theorem d_M_told_94 : decode m_M_told.2.1 94 = .ok (.invokevirtual 229, 3) := by decide +kernel
theorem d_M_told_97 : decode m_M_told.2.1 97 = .ok (.ireturn, 1) := by decide +kernel

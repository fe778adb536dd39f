/-! DECODED: written by wip/whole/gen/dec.py -/
theorem d_W_change_0 : decode m_W_change.2.1 0 = .ok (.aload 6, 2) := by decide +kernel
theorem d_W_change_2 : decode m_W_change.2.1 2 = .ok (.iconst 0, 1) := by decide +kernel
theorem d_W_change_3 : decode m_W_change.2.1 3 = .ok (.aload_n 0, 1) := by decide +kernel
theorem d_W_change_4 : decode m_W_change.2.1 4 = .ok (.iload_n 1, 1) := by decide +kernel
theorem d_W_change_5 : decode m_W_change.2.1 5 = .ok (.iload_n 2, 1) := by decide +kernel
theorem d_W_change_6 : decode m_W_change.2.1 6 = .ok (.iload_n 3, 1) := by decide +kernel
theorem d_W_change_7 : decode m_W_change.2.1 7 = .ok (.iload 4, 2) := by decide +kernel
theorem d_W_change_9 : decode m_W_change.2.1 9 = .ok (.iload 5, 2) := by decide +kernel
theorem d_W_change_11 : decode m_W_change.2.1 11 = .ok (.invokevirtual 41, 3) := by decide +kernel
theorem d_W_change_14 : decode m_W_change.2.1 14 = .ok (.i2l, 1) := by decide +kernel
theorem d_W_change_15 : decode m_W_change.2.1 15 = .ok (.lastore, 1) := by decide +kernel
theorem d_W_change_16 : decode m_W_change.2.1 16 = .ok (.goto 11, 3) := by decide +kernel
theorem d_W_change_19 : decode m_W_change.2.1 19 = .ok (.astore 7, 2) := by decide +kernel
theorem d_W_change_21 : decode m_W_change.2.1 21 = .ok (.iconst 1, 1) := by decide +kernel
theorem d_W_change_22 : decode m_W_change.2.1 22 = .ok (.ireturn, 1) := by decide +kernel
theorem d_W_change_23 : decode m_W_change.2.1 23 = .ok (.astore 7, 2) := by decide +kernel
theorem d_W_change_25 : decode m_W_change.2.1 25 = .ok (.iconst 2, 1) := by decide +kernel
theorem d_W_change_26 : decode m_W_change.2.1 26 = .ok (.ireturn, 1) := by decide +kernel
theorem d_W_change_27 : decode m_W_change.2.1 27 = .ok (.iconst 0, 1) := by decide +kernel
theorem d_W_change_28 : decode m_W_change.2.1 28 = .ok (.ireturn, 1) := by decide +kernel

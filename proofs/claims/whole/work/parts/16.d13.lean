/-! DECODED: written by wip/whole/gen/dec.py -/
theorem d_M_separator_0 : decode m_M_separator.2.1 0 = .ok (.aload_n 0, 1) := by decide +kernel
theorem d_M_separator_1 : decode m_M_separator.2.1 1 = .ok (.iconst 0, 1) := by decide +kernel
theorem d_M_separator_2 : decode m_M_separator.2.1 2 = .ok (.putfield 116, 3) := by decide +kernel
theorem d_M_separator_5 : decode m_M_separator.2.1 5 = .ok (.aload_n 0, 1) := by decide +kernel
theorem d_M_separator_6 : decode m_M_separator.2.1 6 = .ok (.iload_n 1, 1) := by decide +kernel
theorem d_M_separator_7 : decode m_M_separator.2.1 7 = .ok (.invokevirtual 131, 3) := by decide +kernel
theorem d_M_separator_10 : decode m_M_separator.2.1 10 = .ok (.ifCond .eq 21, 3) := by decide +kernel
theorem d_M_separator_13 : decode m_M_separator.2.1 13 = .ok (.aload_n 0, 1) := by decide +kernel
theorem d_M_separator_14 : decode m_M_separator.2.1 14 = .ok (.getfield 41, 3) := by decide +kernel
theorem d_M_separator_17 : decode m_M_separator.2.1 17 = .ok (.iload_n 1, 1) := by decide +kernel
theorem d_M_separator_18 : decode m_M_separator.2.1 18 = .ok (.baload, 1) := by decide +kernel
theorem d_M_separator_19 : decode m_M_separator.2.1 19 = .ok (.ifCond .eq 12, 3) := by decide +kernel
theorem d_M_separator_22 : decode m_M_separator.2.1 22 = .ok (.aload_n 0, 1) := by decide +kernel
theorem d_M_separator_23 : decode m_M_separator.2.1 23 = .ok (.getfield 65, 3) := by decide +kernel
theorem d_M_separator_26 : decode m_M_separator.2.1 26 = .ok (.iload_n 1, 1) := by decide +kernel
theorem d_M_separator_27 : decode m_M_separator.2.1 27 = .ok (.iaload, 1) := by decide +kernel
theorem d_M_separator_28 : decode m_M_separator.2.1 28 = .ok (.goto 4, 3) := by decide +kernel
theorem d_M_separator_31 : decode m_M_separator.2.1 31 = .ok (.iconst (-1), 1) := by decide +kernel
theorem d_M_separator_32 : decode m_M_separator.2.1 32 = .ok (.ireturn, 1) := by decide +kernel
theorem d_M_entries_0 : decode m_M_entries.2.1 0 = .ok (.aload_n 0, 1) := by decide +kernel
theorem d_M_entries_1 : decode m_M_entries.2.1 1 = .ok (.iconst 0, 1) := by decide +kernel
theorem d_M_entries_2 : decode m_M_entries.2.1 2 = .ok (.putfield 116, 3) := by decide +kernel
theorem d_M_entries_5 : decode m_M_entries.2.1 5 = .ok (.aload_n 0, 1) := by decide +kernel
theorem d_M_entries_6 : decode m_M_entries.2.1 6 = .ok (.iload_n 1, 1) := by decide +kernel
theorem d_M_entries_7 : decode m_M_entries.2.1 7 = .ok (.invokevirtual 131, 3) := by decide +kernel
theorem d_M_entries_10 : decode m_M_entries.2.1 10 = .ok (.ifCond .eq 21, 3) := by decide +kernel
theorem d_M_entries_13 : decode m_M_entries.2.1 13 = .ok (.aload_n 0, 1) := by decide +kernel
theorem d_M_entries_14 : decode m_M_entries.2.1 14 = .ok (.getfield 68, 3) := by decide +kernel
theorem d_M_entries_17 : decode m_M_entries.2.1 17 = .ok (.iload_n 1, 1) := by decide +kernel
theorem d_M_entries_18 : decode m_M_entries.2.1 18 = .ok (.iaload, 1) := by decide +kernel
theorem d_M_entries_19 : decode m_M_entries.2.1 19 = .ok (.ifCond .le 12, 3) := by decide +kernel
theorem d_M_entries_22 : decode m_M_entries.2.1 22 = .ok (.aload_n 0, 1) := by decide +kernel
theorem d_M_entries_23 : decode m_M_entries.2.1 23 = .ok (.getfield 74, 3) := by decide +kernel
theorem d_M_entries_26 : decode m_M_entries.2.1 26 = .ok (.iload_n 1, 1) := by decide +kernel
theorem d_M_entries_27 : decode m_M_entries.2.1 27 = .ok (.iaload, 1) := by decide +kernel
theorem d_M_entries_28 : decode m_M_entries.2.1 28 = .ok (.goto 4, 3) := by decide +kernel
theorem d_M_entries_31 : decode m_M_entries.2.1 31 = .ok (.iconst (-1), 1) := by decide +kernel
theorem d_M_entries_32 : decode m_M_entries.2.1 32 = .ok (.ireturn, 1) := by decide +kernel
theorem d_M_tables_0 : decode m_M_tables.2.1 0 = .ok (.aload_n 0, 1) := by decide +kernel
theorem d_M_tables_1 : decode m_M_tables.2.1 1 = .ok (.iconst 0, 1) := by decide +kernel
theorem d_M_tables_2 : decode m_M_tables.2.1 2 = .ok (.putfield 116, 3) := by decide +kernel
theorem d_M_tables_5 : decode m_M_tables.2.1 5 = .ok (.aload_n 0, 1) := by decide +kernel
theorem d_M_tables_6 : decode m_M_tables.2.1 6 = .ok (.getfield 205, 3) := by decide +kernel
theorem d_M_tables_9 : decode m_M_tables.2.1 9 = .ok (.ireturn, 1) := by decide +kernel

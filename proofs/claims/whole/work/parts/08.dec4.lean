theorem d_lw_law_1162 : decode (q_cc m_lw_law) 1162 = .ok (.invokevirtual 148, 3) := by decide +kernel
theorem d_lw_law_1165 : decode (q_cc m_lw_law) 1165 = .ok (.aload_n 2, 1) := by decide +kernel
theorem d_lw_law_1166 : decode (q_cc m_lw_law) 1166 = .ok (.invokevirtual 151, 3) := by decide +kernel
theorem d_lw_law_1169 : decode (q_cc m_lw_law) 1169 = .ok (.if_icmp .eq 5, 3) := by decide +kernel
theorem d_lw_law_1172 : decode (q_cc m_lw_law) 1172 = .ok (.iconst 0, 1) := by decide +kernel
theorem d_lw_law_1173 : decode (q_cc m_lw_law) 1173 = .ok (.ireturn, 1) := by decide +kernel
theorem d_lw_law_1174 : decode (q_cc m_lw_law) 1174 = .ok (.iinc 3 6, 3) := by decide +kernel
theorem d_lw_law_1177 : decode (q_cc m_lw_law) 1177 = .ok (.goto (-1159), 3) := by decide +kernel
theorem d_lw_law_1180 : decode (q_cc m_lw_law) 1180 = .ok (.iconst 1, 1) := by decide +kernel
theorem d_lw_law_1181 : decode (q_cc m_lw_law) 1181 = .ok (.ireturn, 1) := by decide +kernel

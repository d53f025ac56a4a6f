theorem d_lw_law_1177 : decode (q_cc m_lw_law) 1177 = .ok (.goto (-1159), 3) := by decide +kernel
theorem d_lw_law_1180 : decode (q_cc m_lw_law) 1180 = .ok (.iconst 1, 1) := by decide +kernel
theorem d_lw_law_1181 : decode (q_cc m_lw_law) 1181 = .ok (.ireturn, 1) := by decide +kernel

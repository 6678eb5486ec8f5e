theorem d_L_law_1159 : decode code 1159 = .ok (.iconst 1, 1) := by decide +kernel
theorem d_L_law_1160 : decode code 1160 = .ok (.ireturn, 1) := by decide +kernel


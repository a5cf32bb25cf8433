theorem dd_W_law_0 : decode cc_W_law 0 = .ok (.new 8, 3) := by decide +kernel
theorem dd_W_law_3 : decode cc_W_law 3 = .ok (.dup, 1) := by decide +kernel
theorem dd_W_law_4 : decode cc_W_law 4 = .ok (.invokespecial 40, 3) := by decide +kernel
theorem dd_W_law_7 : decode cc_W_law 7 = .ok (.astore_n 1, 1) := by decide +kernel
theorem dd_W_law_8 : decode cc_W_law 8 = .ok (.new 41, 3) := by decide +kernel
theorem dd_W_law_11 : decode cc_W_law 11 = .ok (.dup, 1) := by decide +kernel
theorem dd_W_law_12 : decode cc_W_law 12 = .ok (.invokespecial 43, 3) := by decide +kernel
theorem dd_W_law_15 : decode cc_W_law 15 = .ok (.astore_n 2, 1) := by decide +kernel
theorem dd_W_law_16 : decode cc_W_law 16 = .ok (.iconst 1, 1) := by decide +kernel
theorem dd_W_law_17 : decode cc_W_law 17 = .ok (.newarray .long, 2) := by decide +kernel
theorem dd_W_law_19 : decode cc_W_law 19 = .ok (.astore_n 3, 1) := by decide +kernel
theorem dd_W_law_20 : decode cc_W_law 20 = .ok (.iconst 0, 1) := by decide +kernel
theorem dd_W_law_21 : decode cc_W_law 21 = .ok (.istore 4, 2) := by decide +kernel
theorem dd_W_law_23 : decode cc_W_law 23 = .ok (.iload 4, 2) := by decide +kernel
theorem dd_W_law_25 : decode cc_W_law 25 = .ok (.aload_n 0, 1) := by decide +kernel
theorem dd_W_law_26 : decode cc_W_law 26 = .ok (.arraylength, 1) := by decide +kernel
theorem dd_W_law_27 : decode cc_W_law 27 = .ok (.bipush 7, 2) := by decide +kernel
theorem dd_W_law_29 : decode cc_W_law 29 = .ok (.isub, 1) := by decide +kernel
theorem dd_W_law_30 : decode cc_W_law 30 = .ok (.if_icmp .gt 609, 3) := by decide +kernel
theorem dd_W_law_639 : decode cc_W_law 639 = .ok (.iconst 1, 1) := by decide +kernel
theorem dd_W_law_640 : decode cc_W_law 640 = .ok (.ireturn, 1) := by decide +kernel

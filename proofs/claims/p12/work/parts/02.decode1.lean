theorem dd_B_init_0 : decode cc_B_init 0 = .ok (.aload_n 0, 1) := by decide +kernel
theorem dd_B_init_1 : decode cc_B_init 1 = .ok (.invokespecial 3, 3) := by decide +kernel
theorem dd_B_init_4 : decode cc_B_init 4 = .ok (.aload_n 0, 1) := by decide +kernel
theorem dd_B_init_5 : decode cc_B_init 5 = .ok (.iload_n 1, 1) := by decide +kernel
theorem dd_B_init_6 : decode cc_B_init 6 = .ok (.ifCond .lt 7, 3) := by decide +kernel
theorem dd_B_init_9 : decode cc_B_init 9 = .ok (.iload_n 1, 1) := by decide +kernel
theorem dd_B_init_10 : decode cc_B_init 10 = .ok (.goto 4, 3) := by decide +kernel
theorem dd_B_init_14 : decode cc_B_init 14 = .ok (.newarray .byte, 2) := by decide +kernel
theorem dd_B_init_16 : decode cc_B_init 16 = .ok (.putfield 9, 3) := by decide +kernel
theorem dd_B_init_19 : decode cc_B_init 19 = .ok (.aload_n 0, 1) := by decide +kernel
theorem dd_B_init_20 : decode cc_B_init 20 = .ok (.iconst 0, 1) := by decide +kernel
theorem dd_B_init_21 : decode cc_B_init 21 = .ok (.putfield 15, 3) := by decide +kernel
theorem dd_B_init_24 : decode cc_B_init 24 = .ok (.return_, 1) := by decide +kernel
theorem dd_C_init_0 : decode cc_C_init 0 = .ok (.aload_n 0, 1) := by decide +kernel
theorem dd_C_init_1 : decode cc_C_init 1 = .ok (.invokespecial 3, 3) := by decide +kernel
theorem dd_C_init_4 : decode cc_C_init 4 = .ok (.aload_n 0, 1) := by decide +kernel
theorem dd_C_init_5 : decode cc_C_init 5 = .ok (.bipush 8, 2) := by decide +kernel
theorem dd_C_init_7 : decode cc_C_init 7 = .ok (.newarray .int, 2) := by decide +kernel
theorem dd_C_init_9 : decode cc_C_init 9 = .ok (.putfield 9, 3) := by decide +kernel
theorem dd_C_init_12 : decode cc_C_init 12 = .ok (.aload_n 0, 1) := by decide +kernel
theorem dd_C_init_13 : decode cc_C_init 13 = .ok (.bipush 16, 2) := by decide +kernel
theorem dd_C_init_15 : decode cc_C_init 15 = .ok (.newarray .int, 2) := by decide +kernel
theorem dd_C_init_17 : decode cc_C_init 17 = .ok (.putfield 15, 3) := by decide +kernel
theorem dd_C_init_20 : decode cc_C_init 20 = .ok (.aload_n 0, 1) := by decide +kernel
theorem dd_C_init_21 : decode cc_C_init 21 = .ok (.bipush 16, 2) := by decide +kernel
theorem dd_C_init_23 : decode cc_C_init 23 = .ok (.newarray .int, 2) := by decide +kernel
theorem dd_C_init_25 : decode cc_C_init 25 = .ok (.putfield 18, 3) := by decide +kernel
theorem dd_C_init_28 : decode cc_C_init 28 = .ok (.aload_n 0, 1) := by decide +kernel
theorem dd_C_init_29 : decode cc_C_init 29 = .ok (.bipush 16, 2) := by decide +kernel
theorem dd_C_init_31 : decode cc_C_init 31 = .ok (.newarray .long, 2) := by decide +kernel
theorem dd_C_init_33 : decode cc_C_init 33 = .ok (.putfield 21, 3) := by decide +kernel
theorem dd_C_init_36 : decode cc_C_init 36 = .ok (.aload_n 0, 1) := by decide +kernel
theorem dd_C_init_37 : decode cc_C_init 37 = .ok (.bipush 16, 2) := by decide +kernel
theorem dd_C_init_39 : decode cc_C_init 39 = .ok (.newarray .int, 2) := by decide +kernel
theorem dd_C_init_41 : decode cc_C_init 41 = .ok (.putfield 25, 3) := by decide +kernel
theorem dd_C_init_44 : decode cc_C_init 44 = .ok (.aload_n 0, 1) := by decide +kernel
theorem dd_C_init_45 : decode cc_C_init 45 = .ok (.bipush 16, 2) := by decide +kernel
theorem dd_C_init_47 : decode cc_C_init 47 = .ok (.newarray .int, 2) := by decide +kernel
theorem dd_C_init_49 : decode cc_C_init 49 = .ok (.putfield 28, 3) := by decide +kernel
theorem dd_C_init_52 : decode cc_C_init 52 = .ok (.return_, 1) := by decide +kernel
theorem dd_D_init_0 : decode cc_D_init 0 = .ok (.aload_n 0, 1) := by decide +kernel
theorem dd_D_init_1 : decode cc_D_init 1 = .ok (.invokespecial 3, 3) := by decide +kernel
theorem dd_D_init_4 : decode cc_D_init 4 = .ok (.aload_n 0, 1) := by decide +kernel
theorem dd_D_init_5 : decode cc_D_init 5 = .ok (.new 9, 3) := by decide +kernel
theorem dd_D_init_8 : decode cc_D_init 8 = .ok (.dup, 1) := by decide +kernel
theorem dd_D_init_9 : decode cc_D_init 9 = .ok (.sipush 4096, 3) := by decide +kernel
theorem dd_D_init_12 : decode cc_D_init 12 = .ok (.invokespecial 11, 3) := by decide +kernel
theorem dd_D_init_15 : decode cc_D_init 15 = .ok (.putfield 14, 3) := by decide +kernel
theorem dd_D_init_18 : decode cc_D_init 18 = .ok (.aload_n 0, 1) := by decide +kernel
theorem dd_D_init_19 : decode cc_D_init 19 = .ok (.iconst 0, 1) := by decide +kernel
theorem dd_D_init_20 : decode cc_D_init 20 = .ok (.putfield 20, 3) := by decide +kernel
theorem dd_D_init_23 : decode cc_D_init 23 = .ok (.aload_n 0, 1) := by decide +kernel
theorem dd_D_init_24 : decode cc_D_init 24 = .ok (.iconst (-1), 1) := by decide +kernel
theorem dd_D_init_25 : decode cc_D_init 25 = .ok (.putfield 24, 3) := by decide +kernel
theorem dd_D_init_28 : decode cc_D_init 28 = .ok (.aload_n 0, 1) := by decide +kernel
theorem dd_D_init_29 : decode cc_D_init 29 = .ok (.iconst 0, 1) := by decide +kernel
theorem dd_D_init_30 : decode cc_D_init 30 = .ok (.putfield 27, 3) := by decide +kernel
theorem dd_D_init_33 : decode cc_D_init 33 = .ok (.aload_n 0, 1) := by decide +kernel
theorem dd_D_init_34 : decode cc_D_init 34 = .ok (.iconst (-1), 1) := by decide +kernel
theorem dd_D_init_35 : decode cc_D_init 35 = .ok (.putfield 30, 3) := by decide +kernel
theorem dd_D_init_38 : decode cc_D_init 38 = .ok (.return_, 1) := by decide +kernel
theorem dd_X_init_0 : decode cc_X_init 0 = .ok (.aload_n 0, 1) := by decide +kernel
theorem dd_X_init_1 : decode cc_X_init 1 = .ok (.invokespecial 1, 3) := by decide +kernel
theorem dd_X_init_4 : decode cc_X_init 4 = .ok (.aload_n 0, 1) := by decide +kernel
theorem dd_X_init_5 : decode cc_X_init 5 = .ok (.new 7, 3) := by decide +kernel
theorem dd_X_init_8 : decode cc_X_init 8 = .ok (.dup, 1) := by decide +kernel
theorem dd_X_init_9 : decode cc_X_init 9 = .ok (.sipush 4096, 3) := by decide +kernel
theorem dd_X_init_12 : decode cc_X_init 12 = .ok (.invokespecial 11, 3) := by decide +kernel
theorem dd_X_init_15 : decode cc_X_init 15 = .ok (.putfield 14, 3) := by decide +kernel
theorem dd_X_init_18 : decode cc_X_init 18 = .ok (.aload_n 0, 1) := by decide +kernel
theorem dd_X_init_19 : decode cc_X_init 19 = .ok (.new 18, 3) := by decide +kernel
theorem dd_X_init_22 : decode cc_X_init 22 = .ok (.dup, 1) := by decide +kernel
theorem dd_X_init_23 : decode cc_X_init 23 = .ok (.invokespecial 20, 3) := by decide +kernel
theorem dd_X_init_26 : decode cc_X_init 26 = .ok (.putfield 21, 3) := by decide +kernel
theorem dd_X_init_29 : decode cc_X_init 29 = .ok (.aload_n 0, 1) := by decide +kernel
theorem dd_X_init_30 : decode cc_X_init 30 = .ok (.aload_n 0, 1) := by decide +kernel
theorem dd_X_init_31 : decode cc_X_init 31 = .ok (.getfield 21, 3) := by decide +kernel
theorem dd_X_init_34 : decode cc_X_init 34 = .ok (.getfield 25, 3) := by decide +kernel
theorem dd_X_init_37 : decode cc_X_init 37 = .ok (.putfield 28, 3) := by decide +kernel
theorem dd_X_init_40 : decode cc_X_init 40 = .ok (.aload_n 0, 1) := by decide +kernel
theorem dd_X_init_41 : decode cc_X_init 41 = .ok (.new 7, 3) := by decide +kernel
theorem dd_X_init_44 : decode cc_X_init 44 = .ok (.dup, 1) := by decide +kernel
theorem dd_X_init_45 : decode cc_X_init 45 = .ok (.sipush 320, 3) := by decide +kernel
theorem dd_X_init_48 : decode cc_X_init 48 = .ok (.invokespecial 11, 3) := by decide +kernel
theorem dd_X_init_51 : decode cc_X_init 51 = .ok (.putfield 31, 3) := by decide +kernel
theorem dd_X_init_54 : decode cc_X_init 54 = .ok (.aload_n 0, 1) := by decide +kernel
theorem dd_X_init_55 : decode cc_X_init 55 = .ok (.new 34, 3) := by decide +kernel
theorem dd_X_init_58 : decode cc_X_init 58 = .ok (.dup, 1) := by decide +kernel
theorem dd_X_init_59 : decode cc_X_init 59 = .ok (.invokespecial 36, 3) := by decide +kernel
theorem dd_X_init_62 : decode cc_X_init 62 = .ok (.putfield 37, 3) := by decide +kernel
theorem dd_X_init_65 : decode cc_X_init 65 = .ok (.aload_n 0, 1) := by decide +kernel
theorem dd_X_init_66 : decode cc_X_init 66 = .ok (.new 34, 3) := by decide +kernel
theorem dd_X_init_69 : decode cc_X_init 69 = .ok (.dup, 1) := by decide +kernel
theorem dd_X_init_70 : decode cc_X_init 70 = .ok (.invokespecial 36, 3) := by decide +kernel
theorem dd_X_init_73 : decode cc_X_init 73 = .ok (.putfield 41, 3) := by decide +kernel
theorem dd_X_init_76 : decode cc_X_init 76 = .ok (.aload_n 0, 1) := by decide +kernel
theorem dd_X_init_77 : decode cc_X_init 77 = .ok (.iconst 0, 1) := by decide +kernel
theorem dd_X_init_78 : decode cc_X_init 78 = .ok (.putfield 44, 3) := by decide +kernel
theorem dd_X_init_81 : decode cc_X_init 81 = .ok (.aload_n 0, 1) := by decide +kernel
theorem dd_X_init_82 : decode cc_X_init 82 = .ok (.iconst 0, 1) := by decide +kernel
theorem dd_X_init_83 : decode cc_X_init 83 = .ok (.putfield 48, 3) := by decide +kernel
theorem dd_X_init_86 : decode cc_X_init 86 = .ok (.return_, 1) := by decide +kernel

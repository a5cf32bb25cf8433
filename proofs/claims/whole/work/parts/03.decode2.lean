theorem dd_M_init_0 : decode cc_M_init 0 = .ok (.aload_n 0, 1) := by decide +kernel
theorem dd_M_init_1 : decode cc_M_init 1 = .ok (.invokespecial 1, 3) := by decide +kernel
theorem dd_M_init_4 : decode cc_M_init 4 = .ok (.aload_n 0, 1) := by decide +kernel
theorem dd_M_init_5 : decode cc_M_init 5 = .ok (.bipush 8, 2) := by decide +kernel
theorem dd_M_init_7 : decode cc_M_init 7 = .ok (.newarray .int, 2) := by decide +kernel
theorem dd_M_init_9 : decode cc_M_init 9 = .ok (.putfield 7, 3) := by decide +kernel
theorem dd_M_init_12 : decode cc_M_init 12 = .ok (.aload_n 0, 1) := by decide +kernel
theorem dd_M_init_13 : decode cc_M_init 13 = .ok (.bipush 16, 2) := by decide +kernel
theorem dd_M_init_15 : decode cc_M_init 15 = .ok (.newarray .int, 2) := by decide +kernel
theorem dd_M_init_17 : decode cc_M_init 17 = .ok (.putfield 13, 3) := by decide +kernel
theorem dd_M_init_20 : decode cc_M_init 20 = .ok (.aload_n 0, 1) := by decide +kernel
theorem dd_M_init_21 : decode cc_M_init 21 = .ok (.bipush 16, 2) := by decide +kernel
theorem dd_M_init_23 : decode cc_M_init 23 = .ok (.newarray .int, 2) := by decide +kernel
theorem dd_M_init_25 : decode cc_M_init 25 = .ok (.putfield 16, 3) := by decide +kernel
theorem dd_M_init_28 : decode cc_M_init 28 = .ok (.aload_n 0, 1) := by decide +kernel
theorem dd_M_init_29 : decode cc_M_init 29 = .ok (.bipush 16, 2) := by decide +kernel
theorem dd_M_init_31 : decode cc_M_init 31 = .ok (.newarray .long, 2) := by decide +kernel
theorem dd_M_init_33 : decode cc_M_init 33 = .ok (.putfield 19, 3) := by decide +kernel
theorem dd_M_init_36 : decode cc_M_init 36 = .ok (.aload_n 0, 1) := by decide +kernel
theorem dd_M_init_37 : decode cc_M_init 37 = .ok (.bipush 16, 2) := by decide +kernel
theorem dd_M_init_39 : decode cc_M_init 39 = .ok (.newarray .int, 2) := by decide +kernel
theorem dd_M_init_41 : decode cc_M_init 41 = .ok (.putfield 23, 3) := by decide +kernel
theorem dd_M_init_44 : decode cc_M_init 44 = .ok (.aload_n 0, 1) := by decide +kernel
theorem dd_M_init_45 : decode cc_M_init 45 = .ok (.bipush 16, 2) := by decide +kernel
theorem dd_M_init_47 : decode cc_M_init 47 = .ok (.newarray .int, 2) := by decide +kernel
theorem dd_M_init_49 : decode cc_M_init 49 = .ok (.putfield 26, 3) := by decide +kernel
theorem dd_M_init_52 : decode cc_M_init 52 = .ok (.aload_n 0, 1) := by decide +kernel
theorem dd_M_init_53 : decode cc_M_init 53 = .ok (.bipush 8, 2) := by decide +kernel
theorem dd_M_init_55 : decode cc_M_init 55 = .ok (.newarray .int, 2) := by decide +kernel
theorem dd_M_init_57 : decode cc_M_init 57 = .ok (.putfield 29, 3) := by decide +kernel
theorem dd_M_init_60 : decode cc_M_init 60 = .ok (.aload_n 0, 1) := by decide +kernel
theorem dd_M_init_61 : decode cc_M_init 61 = .ok (.bipush 16, 2) := by decide +kernel
theorem dd_M_init_63 : decode cc_M_init 63 = .ok (.newarray .int, 2) := by decide +kernel
theorem dd_M_init_65 : decode cc_M_init 65 = .ok (.putfield 32, 3) := by decide +kernel
theorem dd_M_init_68 : decode cc_M_init 68 = .ok (.aload_n 0, 1) := by decide +kernel
theorem dd_M_init_69 : decode cc_M_init 69 = .ok (.bipush 16, 2) := by decide +kernel
theorem dd_M_init_71 : decode cc_M_init 71 = .ok (.newarray .int, 2) := by decide +kernel
theorem dd_M_init_73 : decode cc_M_init 73 = .ok (.putfield 35, 3) := by decide +kernel
theorem dd_M_init_76 : decode cc_M_init 76 = .ok (.aload_n 0, 1) := by decide +kernel
theorem dd_M_init_77 : decode cc_M_init 77 = .ok (.bipush 16, 2) := by decide +kernel
theorem dd_M_init_79 : decode cc_M_init 79 = .ok (.newarray .long, 2) := by decide +kernel
theorem dd_M_init_81 : decode cc_M_init 81 = .ok (.putfield 38, 3) := by decide +kernel
theorem dd_M_init_84 : decode cc_M_init 84 = .ok (.aload_n 0, 1) := by decide +kernel
theorem dd_M_init_85 : decode cc_M_init 85 = .ok (.bipush 16, 2) := by decide +kernel
theorem dd_M_init_87 : decode cc_M_init 87 = .ok (.newarray .int, 2) := by decide +kernel
theorem dd_M_init_89 : decode cc_M_init 89 = .ok (.putfield 41, 3) := by decide +kernel
theorem dd_M_init_92 : decode cc_M_init 92 = .ok (.aload_n 0, 1) := by decide +kernel
theorem dd_M_init_93 : decode cc_M_init 93 = .ok (.bipush 16, 2) := by decide +kernel
theorem dd_M_init_95 : decode cc_M_init 95 = .ok (.newarray .int, 2) := by decide +kernel
theorem dd_M_init_97 : decode cc_M_init 97 = .ok (.putfield 44, 3) := by decide +kernel
theorem dd_M_init_100 : decode cc_M_init 100 = .ok (.aload_n 0, 1) := by decide +kernel
theorem dd_M_init_101 : decode cc_M_init 101 = .ok (.sipush 4096, 3) := by decide +kernel
theorem dd_M_init_104 : decode cc_M_init 104 = .ok (.newarray .byte, 2) := by decide +kernel
theorem dd_M_init_106 : decode cc_M_init 106 = .ok (.putfield 47, 3) := by decide +kernel
theorem dd_M_init_109 : decode cc_M_init 109 = .ok (.aload_n 0, 1) := by decide +kernel
theorem dd_M_init_110 : decode cc_M_init 110 = .ok (.sipush 4096, 3) := by decide +kernel
theorem dd_M_init_113 : decode cc_M_init 113 = .ok (.newarray .byte, 2) := by decide +kernel
theorem dd_M_init_115 : decode cc_M_init 115 = .ok (.putfield 51, 3) := by decide +kernel
theorem dd_M_init_118 : decode cc_M_init 118 = .ok (.aload_n 0, 1) := by decide +kernel
theorem dd_M_init_119 : decode cc_M_init 119 = .ok (.iconst (-1), 1) := by decide +kernel
theorem dd_M_init_120 : decode cc_M_init 120 = .ok (.putfield 54, 3) := by decide +kernel
theorem dd_M_init_123 : decode cc_M_init 123 = .ok (.aload_n 0, 1) := by decide +kernel
theorem dd_M_init_124 : decode cc_M_init 124 = .ok (.sipush 1400, 3) := by decide +kernel
theorem dd_M_init_127 : decode cc_M_init 127 = .ok (.newarray .byte, 2) := by decide +kernel
theorem dd_M_init_129 : decode cc_M_init 129 = .ok (.putfield 58, 3) := by decide +kernel
theorem dd_M_init_132 : decode cc_M_init 132 = .ok (.return_, 1) := by decide +kernel
theorem dd_M_thrown_0 : decode cc_M_thrown 0 = .ok (.aload_n 0, 1) := by decide +kernel
theorem dd_M_thrown_1 : decode cc_M_thrown 1 = .ok (.getfield 61, 3) := by decide +kernel
theorem dd_M_thrown_4 : decode cc_M_thrown 4 = .ok (.ireturn, 1) := by decide +kernel
theorem dd_M_isActor_0 : decode cc_M_isActor 0 = .ok (.iload_n 0, 1) := by decide +kernel
theorem dd_M_isActor_1 : decode cc_M_isActor 1 = .ok (.ifCond .lt 13, 3) := by decide +kernel
theorem dd_M_isActor_4 : decode cc_M_isActor 4 = .ok (.iload_n 0, 1) := by decide +kernel
theorem dd_M_isActor_5 : decode cc_M_isActor 5 = .ok (.bipush 8, 2) := by decide +kernel
theorem dd_M_isActor_7 : decode cc_M_isActor 7 = .ok (.if_icmp .ge 7, 3) := by decide +kernel
theorem dd_M_isActor_10 : decode cc_M_isActor 10 = .ok (.iconst 1, 1) := by decide +kernel
theorem dd_M_isActor_11 : decode cc_M_isActor 11 = .ok (.goto 4, 3) := by decide +kernel
theorem dd_M_isActor_14 : decode cc_M_isActor 14 = .ok (.iconst 0, 1) := by decide +kernel
theorem dd_M_isActor_15 : decode cc_M_isActor 15 = .ok (.ireturn, 1) := by decide +kernel
theorem dd_M_isId_0 : decode cc_M_isId 0 = .ok (.lload_n 0, 1) := by decide +kernel
theorem dd_M_isId_1 : decode cc_M_isId 1 = .ok (.ldc2_w 64, 3) := by decide +kernel
theorem dd_M_isId_4 : decode cc_M_isId 4 = .ok (.lcmp, 1) := by decide +kernel
theorem dd_M_isId_5 : decode cc_M_isId 5 = .ok (.ifCond .lt 15, 3) := by decide +kernel
theorem dd_M_isId_8 : decode cc_M_isId 8 = .ok (.lload_n 0, 1) := by decide +kernel
theorem dd_M_isId_9 : decode cc_M_isId 9 = .ok (.ldc2_w 66, 3) := by decide +kernel
theorem dd_M_isId_12 : decode cc_M_isId 12 = .ok (.lcmp, 1) := by decide +kernel
theorem dd_M_isId_13 : decode cc_M_isId 13 = .ok (.ifCond .gt 7, 3) := by decide +kernel
theorem dd_M_isId_16 : decode cc_M_isId 16 = .ok (.iconst 1, 1) := by decide +kernel
theorem dd_M_isId_17 : decode cc_M_isId 17 = .ok (.goto 4, 3) := by decide +kernel
theorem dd_M_isId_20 : decode cc_M_isId 20 = .ok (.iconst 0, 1) := by decide +kernel
theorem dd_M_isId_21 : decode cc_M_isId 21 = .ok (.ireturn, 1) := by decide +kernel
theorem dd_M_letters_0 : decode cc_M_letters 0 = .ok (.iconst 0, 1) := by decide +kernel
theorem dd_M_letters_1 : decode cc_M_letters 1 = .ok (.istore_n 2, 1) := by decide +kernel
theorem dd_M_letters_2 : decode cc_M_letters 2 = .ok (.iconst 1, 1) := by decide +kernel
theorem dd_M_letters_3 : decode cc_M_letters 3 = .ok (.istore_n 3, 1) := by decide +kernel
theorem dd_M_letters_4 : decode cc_M_letters 4 = .ok (.lload_n 0, 1) := by decide +kernel
theorem dd_M_letters_5 : decode cc_M_letters 5 = .ok (.lstore 4, 2) := by decide +kernel
theorem dd_M_letters_7 : decode cc_M_letters 7 = .ok (.lload 4, 2) := by decide +kernel
theorem dd_M_letters_9 : decode cc_M_letters 9 = .ok (.lconst 0, 1) := by decide +kernel
theorem dd_M_letters_10 : decode cc_M_letters 10 = .ok (.lcmp, 1) := by decide +kernel
theorem dd_M_letters_11 : decode cc_M_letters 11 = .ok (.ifCond .eq 49, 3) := by decide +kernel
theorem dd_M_letters_14 : decode cc_M_letters 14 = .ok (.lload 4, 2) := by decide +kernel
theorem dd_M_letters_16 : decode cc_M_letters 16 = .ok (.ldc2_w 68, 3) := by decide +kernel
theorem dd_M_letters_19 : decode cc_M_letters 19 = .ok (.land, 1) := by decide +kernel
theorem dd_M_letters_20 : decode cc_M_letters 20 = .ok (.l2i, 1) := by decide +kernel
theorem dd_M_letters_21 : decode cc_M_letters 21 = .ok (.istore 6, 2) := by decide +kernel
theorem dd_M_letters_23 : decode cc_M_letters 23 = .ok (.iload_n 3, 1) := by decide +kernel
theorem dd_M_letters_24 : decode cc_M_letters 24 = .ok (.ifCond .eq 21, 3) := by decide +kernel
theorem dd_M_letters_27 : decode cc_M_letters 27 = .ok (.iload 6, 2) := by decide +kernel
theorem dd_M_letters_29 : decode cc_M_letters 29 = .ok (.bipush 97, 2) := by decide +kernel
theorem dd_M_letters_31 : decode cc_M_letters 31 = .ok (.if_icmp .lt 14, 3) := by decide +kernel
theorem dd_M_letters_34 : decode cc_M_letters 34 = .ok (.iload 6, 2) := by decide +kernel
theorem dd_M_letters_36 : decode cc_M_letters 36 = .ok (.bipush 122, 2) := by decide +kernel
theorem dd_M_letters_38 : decode cc_M_letters 38 = .ok (.if_icmp .gt 7, 3) := by decide +kernel
theorem dd_M_letters_41 : decode cc_M_letters 41 = .ok (.iconst 1, 1) := by decide +kernel
theorem dd_M_letters_42 : decode cc_M_letters 42 = .ok (.goto 4, 3) := by decide +kernel
theorem dd_M_letters_45 : decode cc_M_letters 45 = .ok (.iconst 0, 1) := by decide +kernel
theorem dd_M_letters_46 : decode cc_M_letters 46 = .ok (.istore_n 3, 1) := by decide +kernel
theorem dd_M_letters_47 : decode cc_M_letters 47 = .ok (.iinc 2 1, 3) := by decide +kernel
theorem dd_M_letters_50 : decode cc_M_letters 50 = .ok (.lload 4, 2) := by decide +kernel
theorem dd_M_letters_52 : decode cc_M_letters 52 = .ok (.bipush 8, 2) := by decide +kernel
theorem dd_M_letters_54 : decode cc_M_letters 54 = .ok (.lushr, 1) := by decide +kernel
theorem dd_M_letters_55 : decode cc_M_letters 55 = .ok (.lstore 4, 2) := by decide +kernel
theorem dd_M_letters_57 : decode cc_M_letters 57 = .ok (.goto (-50), 3) := by decide +kernel
theorem dd_M_letters_60 : decode cc_M_letters 60 = .ok (.iload_n 3, 1) := by decide +kernel
theorem dd_M_letters_61 : decode cc_M_letters 61 = .ok (.ifCond .eq 7, 3) := by decide +kernel
theorem dd_M_letters_64 : decode cc_M_letters 64 = .ok (.iload_n 2, 1) := by decide +kernel
theorem dd_M_letters_65 : decode cc_M_letters 65 = .ok (.goto 4, 3) := by decide +kernel
theorem dd_M_letters_68 : decode cc_M_letters 68 = .ok (.iconst (-1), 1) := by decide +kernel
theorem dd_M_letters_69 : decode cc_M_letters 69 = .ok (.ireturn, 1) := by decide +kernel
theorem dd_M_idOf_0 : decode cc_M_idOf 0 = .ok (.aload_n 0, 1) := by decide +kernel
theorem dd_M_idOf_1 : decode cc_M_idOf 1 = .ok (.getfield 84, 3) := by decide +kernel
theorem dd_M_idOf_4 : decode cc_M_idOf 4 = .ok (.iload_n 1, 1) := by decide +kernel
theorem dd_M_idOf_5 : decode cc_M_idOf 5 = .ok (.iadd, 1) := by decide +kernel
theorem dd_M_idOf_6 : decode cc_M_idOf 6 = .ok (.bipush 8, 2) := by decide +kernel
theorem dd_M_idOf_8 : decode cc_M_idOf 8 = .ok (.imul, 1) := by decide +kernel
theorem dd_M_idOf_9 : decode cc_M_idOf 9 = .ok (.aload_n 0, 1) := by decide +kernel
theorem dd_M_idOf_10 : decode cc_M_idOf 10 = .ok (.getfield 87, 3) := by decide +kernel
theorem dd_M_idOf_13 : decode cc_M_idOf 13 = .ok (.iadd, 1) := by decide +kernel
theorem dd_M_idOf_14 : decode cc_M_idOf 14 = .ok (.ireturn, 1) := by decide +kernel
theorem dd_M_begin_0 : decode cc_M_begin 0 = .ok (.aload_n 0, 1) := by decide +kernel
theorem dd_M_begin_1 : decode cc_M_begin 1 = .ok (.iload_n 1, 1) := by decide +kernel
theorem dd_M_begin_2 : decode cc_M_begin 2 = .ok (.invokestatic 90, 3) := by decide +kernel
theorem dd_M_begin_5 : decode cc_M_begin 5 = .ok (.ifCond .eq 30, 3) := by decide +kernel
theorem dd_M_begin_8 : decode cc_M_begin 8 = .ok (.iload_n 2, 1) := by decide +kernel
theorem dd_M_begin_9 : decode cc_M_begin 9 = .ok (.iconst 1, 1) := by decide +kernel
theorem dd_M_begin_10 : decode cc_M_begin 10 = .ok (.if_icmp .lt 25, 3) := by decide +kernel
theorem dd_M_begin_13 : decode cc_M_begin 13 = .ok (.iload_n 2, 1) := by decide +kernel
theorem dd_M_begin_14 : decode cc_M_begin 14 = .ok (.sipush 10000, 3) := by decide +kernel
theorem dd_M_begin_17 : decode cc_M_begin 17 = .ok (.if_icmp .gt 18, 3) := by decide +kernel
theorem dd_M_begin_20 : decode cc_M_begin 20 = .ok (.iload_n 3, 1) := by decide +kernel
theorem dd_M_begin_21 : decode cc_M_begin 21 = .ok (.iconst 1, 1) := by decide +kernel
theorem dd_M_begin_22 : decode cc_M_begin 22 = .ok (.if_icmp .lt 13, 3) := by decide +kernel
theorem dd_M_begin_25 : decode cc_M_begin 25 = .ok (.iload_n 3, 1) := by decide +kernel
theorem dd_M_begin_26 : decode cc_M_begin 26 = .ok (.ldc 94, 2) := by decide +kernel
theorem dd_M_begin_28 : decode cc_M_begin 28 = .ok (.if_icmp .gt 7, 3) := by decide +kernel
theorem dd_M_begin_31 : decode cc_M_begin 31 = .ok (.iconst 0, 1) := by decide +kernel
theorem dd_M_begin_32 : decode cc_M_begin 32 = .ok (.goto 4, 3) := by decide +kernel
theorem dd_M_begin_35 : decode cc_M_begin 35 = .ok (.iconst 1, 1) := by decide +kernel
theorem dd_M_begin_36 : decode cc_M_begin 36 = .ok (.putfield 61, 3) := by decide +kernel
theorem dd_M_begin_39 : decode cc_M_begin 39 = .ok (.aload_n 0, 1) := by decide +kernel
theorem dd_M_begin_40 : decode cc_M_begin 40 = .ok (.getfield 61, 3) := by decide +kernel
theorem dd_M_begin_43 : decode cc_M_begin 43 = .ok (.ifCond .le 4, 3) := by decide +kernel
theorem dd_M_begin_46 : decode cc_M_begin 46 = .ok (.return_, 1) := by decide +kernel
theorem dd_M_begin_47 : decode cc_M_begin 47 = .ok (.aload_n 0, 1) := by decide +kernel
theorem dd_M_begin_48 : decode cc_M_begin 48 = .ok (.iconst 1, 1) := by decide +kernel
theorem dd_M_begin_49 : decode cc_M_begin 49 = .ok (.putfield 95, 3) := by decide +kernel
theorem dd_M_begin_52 : decode cc_M_begin 52 = .ok (.aload_n 0, 1) := by decide +kernel
theorem dd_M_begin_53 : decode cc_M_begin 53 = .ok (.iload_n 1, 1) := by decide +kernel
theorem dd_M_begin_54 : decode cc_M_begin 54 = .ok (.putfield 87, 3) := by decide +kernel
theorem dd_M_begin_57 : decode cc_M_begin 57 = .ok (.aload_n 0, 1) := by decide +kernel
theorem dd_M_begin_58 : decode cc_M_begin 58 = .ok (.iload_n 2, 1) := by decide +kernel
theorem dd_M_begin_59 : decode cc_M_begin 59 = .ok (.putfield 99, 3) := by decide +kernel
theorem dd_M_begin_62 : decode cc_M_begin 62 = .ok (.aload_n 0, 1) := by decide +kernel
theorem dd_M_begin_63 : decode cc_M_begin 63 = .ok (.iload_n 3, 1) := by decide +kernel
theorem dd_M_begin_64 : decode cc_M_begin 64 = .ok (.putfield 84, 3) := by decide +kernel
theorem dd_M_begin_67 : decode cc_M_begin 67 = .ok (.aload_n 0, 1) := by decide +kernel
theorem dd_M_begin_68 : decode cc_M_begin 68 = .ok (.iconst 0, 1) := by decide +kernel
theorem dd_M_begin_69 : decode cc_M_begin 69 = .ok (.putfield 102, 3) := by decide +kernel
theorem dd_M_begin_72 : decode cc_M_begin 72 = .ok (.iconst 0, 1) := by decide +kernel
theorem dd_M_begin_73 : decode cc_M_begin 73 = .ok (.istore 4, 2) := by decide +kernel
theorem dd_M_begin_75 : decode cc_M_begin 75 = .ok (.iload 4, 2) := by decide +kernel
theorem dd_M_begin_77 : decode cc_M_begin 77 = .ok (.bipush 8, 2) := by decide +kernel
theorem dd_M_begin_79 : decode cc_M_begin 79 = .ok (.if_icmp .ge 29, 3) := by decide +kernel
theorem dd_M_begin_82 : decode cc_M_begin 82 = .ok (.aload_n 0, 1) := by decide +kernel
theorem dd_M_begin_83 : decode cc_M_begin 83 = .ok (.getfield 7, 3) := by decide +kernel
theorem dd_M_begin_86 : decode cc_M_begin 86 = .ok (.iload 4, 2) := by decide +kernel
theorem dd_M_begin_88 : decode cc_M_begin 88 = .ok (.iload 4, 2) := by decide +kernel
theorem dd_M_begin_90 : decode cc_M_begin 90 = .ok (.iload_n 1, 1) := by decide +kernel
theorem dd_M_begin_91 : decode cc_M_begin 91 = .ok (.if_icmp .ne 9, 3) := by decide +kernel
theorem dd_M_begin_94 : decode cc_M_begin 94 = .ok (.iload_n 2, 1) := by decide +kernel
theorem dd_M_begin_95 : decode cc_M_begin 95 = .ok (.iconst 1, 1) := by decide +kernel
theorem dd_M_begin_96 : decode cc_M_begin 96 = .ok (.isub, 1) := by decide +kernel
theorem dd_M_begin_97 : decode cc_M_begin 97 = .ok (.goto 4, 3) := by decide +kernel
theorem dd_M_begin_100 : decode cc_M_begin 100 = .ok (.iconst 0, 1) := by decide +kernel
theorem dd_M_begin_101 : decode cc_M_begin 101 = .ok (.iastore, 1) := by decide +kernel
theorem dd_M_begin_102 : decode cc_M_begin 102 = .ok (.iinc 4 1, 3) := by decide +kernel
theorem dd_M_begin_105 : decode cc_M_begin 105 = .ok (.goto (-30), 3) := by decide +kernel
theorem dd_M_begin_108 : decode cc_M_begin 108 = .ok (.return_, 1) := by decide +kernel
theorem dd_M_hangs_0 : decode cc_M_hangs 0 = .ok (.aload_n 0, 1) := by decide +kernel
theorem dd_M_hangs_1 : decode cc_M_hangs 1 = .ok (.iconst 0, 1) := by decide +kernel
theorem dd_M_hangs_2 : decode cc_M_hangs 2 = .ok (.putfield 61, 3) := by decide +kernel
theorem dd_M_hangs_5 : decode cc_M_hangs 5 = .ok (.aload_n 0, 1) := by decide +kernel
theorem dd_M_hangs_6 : decode cc_M_hangs 6 = .ok (.getfield 95, 3) := by decide +kernel
theorem dd_M_hangs_9 : decode cc_M_hangs 9 = .ok (.ifCond .eq 29, 3) := by decide +kernel
theorem dd_M_hangs_12 : decode cc_M_hangs 12 = .ok (.iload_n 1, 1) := by decide +kernel
theorem dd_M_hangs_13 : decode cc_M_hangs 13 = .ok (.invokestatic 90, 3) := by decide +kernel
theorem dd_M_hangs_16 : decode cc_M_hangs 16 = .ok (.ifCond .eq 22, 3) := by decide +kernel
theorem dd_M_hangs_19 : decode cc_M_hangs 19 = .ok (.iload_n 1, 1) := by decide +kernel
theorem dd_M_hangs_20 : decode cc_M_hangs 20 = .ok (.aload_n 0, 1) := by decide +kernel
theorem dd_M_hangs_21 : decode cc_M_hangs 21 = .ok (.getfield 87, 3) := by decide +kernel
theorem dd_M_hangs_24 : decode cc_M_hangs 24 = .ok (.if_icmp .eq 14, 3) := by decide +kernel
theorem dd_M_hangs_27 : decode cc_M_hangs 27 = .ok (.iload_n 2, 1) := by decide +kernel
theorem dd_M_hangs_28 : decode cc_M_hangs 28 = .ok (.ifCond .lt 10, 3) := by decide +kernel
theorem dd_M_hangs_31 : decode cc_M_hangs 31 = .ok (.iload_n 2, 1) := by decide +kernel
theorem dd_M_hangs_32 : decode cc_M_hangs 32 = .ok (.sipush 10000, 3) := by decide +kernel
theorem dd_M_hangs_35 : decode cc_M_hangs 35 = .ok (.if_icmp .le 5, 3) := by decide +kernel
theorem dd_M_hangs_38 : decode cc_M_hangs 38 = .ok (.iconst 0, 1) := by decide +kernel
theorem dd_M_hangs_39 : decode cc_M_hangs 39 = .ok (.ireturn, 1) := by decide +kernel
theorem dd_M_hangs_40 : decode cc_M_hangs 40 = .ok (.aload_n 0, 1) := by decide +kernel
theorem dd_M_hangs_41 : decode cc_M_hangs 41 = .ok (.getfield 7, 3) := by decide +kernel
theorem dd_M_hangs_44 : decode cc_M_hangs 44 = .ok (.iload_n 1, 1) := by decide +kernel
theorem dd_M_hangs_45 : decode cc_M_hangs 45 = .ok (.iload_n 2, 1) := by decide +kernel
theorem dd_M_hangs_46 : decode cc_M_hangs 46 = .ok (.iastore, 1) := by decide +kernel
theorem dd_M_hangs_47 : decode cc_M_hangs 47 = .ok (.iconst 1, 1) := by decide +kernel
theorem dd_M_hangs_48 : decode cc_M_hangs 48 = .ok (.ireturn, 1) := by decide +kernel
theorem dd_M_undo_0 : decode cc_M_undo 0 = .ok (.aload_n 0, 1) := by decide +kernel
theorem dd_M_undo_1 : decode cc_M_undo 1 = .ok (.iconst 0, 1) := by decide +kernel
theorem dd_M_undo_2 : decode cc_M_undo 2 = .ok (.putfield 61, 3) := by decide +kernel
theorem dd_M_undo_5 : decode cc_M_undo 5 = .ok (.aload_n 0, 1) := by decide +kernel
theorem dd_M_undo_6 : decode cc_M_undo 6 = .ok (.getfield 95, 3) := by decide +kernel
theorem dd_M_undo_9 : decode cc_M_undo 9 = .ok (.ifCond .eq 10, 3) := by decide +kernel
theorem dd_M_undo_12 : decode cc_M_undo 12 = .ok (.aload_n 0, 1) := by decide +kernel
theorem dd_M_undo_13 : decode cc_M_undo 13 = .ok (.getfield 102, 3) := by decide +kernel
theorem dd_M_undo_16 : decode cc_M_undo 16 = .ok (.ifCond .ne 5, 3) := by decide +kernel
theorem dd_M_undo_19 : decode cc_M_undo 19 = .ok (.iconst 0, 1) := by decide +kernel
theorem dd_M_undo_20 : decode cc_M_undo 20 = .ok (.ireturn, 1) := by decide +kernel
theorem dd_M_undo_21 : decode cc_M_undo 21 = .ok (.aload_n 0, 1) := by decide +kernel
theorem dd_M_undo_22 : decode cc_M_undo 22 = .ok (.dup, 1) := by decide +kernel
theorem dd_M_undo_23 : decode cc_M_undo 23 = .ok (.getfield 102, 3) := by decide +kernel
theorem dd_M_undo_26 : decode cc_M_undo 26 = .ok (.iconst 1, 1) := by decide +kernel
theorem dd_M_undo_27 : decode cc_M_undo 27 = .ok (.isub, 1) := by decide +kernel
theorem dd_M_undo_28 : decode cc_M_undo 28 = .ok (.putfield 102, 3) := by decide +kernel
theorem dd_M_undo_31 : decode cc_M_undo 31 = .ok (.iconst 1, 1) := by decide +kernel
theorem dd_M_undo_32 : decode cc_M_undo 32 = .ok (.ireturn, 1) := by decide +kernel
theorem dd_M_lay_0 : decode cc_M_lay 0 = .ok (.aload_n 0, 1) := by decide +kernel
theorem dd_M_lay_1 : decode cc_M_lay 1 = .ok (.getfield 58, 3) := by decide +kernel
theorem dd_M_lay_4 : decode cc_M_lay 4 = .ok (.aload_n 0, 1) := by decide +kernel
theorem dd_M_lay_5 : decode cc_M_lay 5 = .ok (.getfield 113, 3) := by decide +kernel
theorem dd_M_lay_8 : decode cc_M_lay 8 = .ok (.iload_n 1, 1) := by decide +kernel
theorem dd_M_lay_9 : decode cc_M_lay 9 = .ok (.i2b, 1) := by decide +kernel
theorem dd_M_lay_10 : decode cc_M_lay 10 = .ok (.bastore, 1) := by decide +kernel
theorem dd_M_lay_11 : decode cc_M_lay 11 = .ok (.aload_n 0, 1) := by decide +kernel
theorem dd_M_lay_12 : decode cc_M_lay 12 = .ok (.dup, 1) := by decide +kernel
theorem dd_M_lay_13 : decode cc_M_lay 13 = .ok (.getfield 113, 3) := by decide +kernel
theorem dd_M_lay_16 : decode cc_M_lay 16 = .ok (.iconst 1, 1) := by decide +kernel
theorem dd_M_lay_17 : decode cc_M_lay 17 = .ok (.iadd, 1) := by decide +kernel
theorem dd_M_lay_18 : decode cc_M_lay 18 = .ok (.putfield 113, 3) := by decide +kernel
theorem dd_M_lay_21 : decode cc_M_lay 21 = .ok (.return_, 1) := by decide +kernel
theorem dd_M_layU_0 : decode cc_M_layU 0 = .ok (.iload_n 1, 1) := by decide +kernel
theorem dd_M_layU_1 : decode cc_M_layU 1 = .ok (.istore_n 2, 1) := by decide +kernel
theorem dd_M_layU_2 : decode cc_M_layU 2 = .ok (.iload_n 2, 1) := by decide +kernel
theorem dd_M_layU_3 : decode cc_M_layU 3 = .ok (.bipush 127, 2) := by decide +kernel
theorem dd_M_layU_5 : decode cc_M_layU 5 = .ok (.if_icmp .le 25, 3) := by decide +kernel
theorem dd_M_layU_8 : decode cc_M_layU 8 = .ok (.aload_n 0, 1) := by decide +kernel
theorem dd_M_layU_9 : decode cc_M_layU 9 = .ok (.sipush 128, 3) := by decide +kernel
theorem dd_M_layU_12 : decode cc_M_layU 12 = .ok (.iload_n 2, 1) := by decide +kernel
theorem dd_M_layU_13 : decode cc_M_layU 13 = .ok (.sipush 128, 3) := by decide +kernel
theorem dd_M_layU_16 : decode cc_M_layU 16 = .ok (.irem, 1) := by decide +kernel
theorem dd_M_layU_17 : decode cc_M_layU 17 = .ok (.iadd, 1) := by decide +kernel
theorem dd_M_layU_18 : decode cc_M_layU 18 = .ok (.invokevirtual 116, 3) := by decide +kernel
theorem dd_M_layU_21 : decode cc_M_layU 21 = .ok (.iload_n 2, 1) := by decide +kernel
theorem dd_M_layU_22 : decode cc_M_layU 22 = .ok (.sipush 128, 3) := by decide +kernel
theorem dd_M_layU_25 : decode cc_M_layU 25 = .ok (.idiv, 1) := by decide +kernel
theorem dd_M_layU_26 : decode cc_M_layU 26 = .ok (.istore_n 2, 1) := by decide +kernel
theorem dd_M_layU_27 : decode cc_M_layU 27 = .ok (.goto (-25), 3) := by decide +kernel
theorem dd_M_layU_30 : decode cc_M_layU 30 = .ok (.aload_n 0, 1) := by decide +kernel
theorem dd_M_layU_31 : decode cc_M_layU 31 = .ok (.iload_n 2, 1) := by decide +kernel
theorem dd_M_layU_32 : decode cc_M_layU 32 = .ok (.invokevirtual 116, 3) := by decide +kernel
theorem dd_M_layU_35 : decode cc_M_layU 35 = .ok (.return_, 1) := by decide +kernel
theorem dd_M_layS_0 : decode cc_M_layS 0 = .ok (.iload_n 1, 1) := by decide +kernel
theorem dd_M_layS_1 : decode cc_M_layS 1 = .ok (.istore_n 2, 1) := by decide +kernel
theorem dd_M_layS_2 : decode cc_M_layS 2 = .ok (.iload_n 2, 1) := by decide +kernel
theorem dd_M_layS_3 : decode cc_M_layS 3 = .ok (.bipush (-64), 2) := by decide +kernel
theorem dd_M_layS_5 : decode cc_M_layS 5 = .ok (.if_icmp .lt 9, 3) := by decide +kernel
theorem dd_M_layS_8 : decode cc_M_layS 8 = .ok (.iload_n 2, 1) := by decide +kernel
theorem dd_M_layS_9 : decode cc_M_layS 9 = .ok (.bipush 63, 2) := by decide +kernel
theorem dd_M_layS_11 : decode cc_M_layS 11 = .ok (.if_icmp .le 23, 3) := by decide +kernel
theorem dd_M_layS_14 : decode cc_M_layS 14 = .ok (.aload_n 0, 1) := by decide +kernel
theorem dd_M_layS_15 : decode cc_M_layS 15 = .ok (.iload_n 2, 1) := by decide +kernel
theorem dd_M_layS_16 : decode cc_M_layS 16 = .ok (.bipush 127, 2) := by decide +kernel
theorem dd_M_layS_18 : decode cc_M_layS 18 = .ok (.iand, 1) := by decide +kernel
theorem dd_M_layS_19 : decode cc_M_layS 19 = .ok (.sipush 128, 3) := by decide +kernel
theorem dd_M_layS_22 : decode cc_M_layS 22 = .ok (.ior, 1) := by decide +kernel
theorem dd_M_layS_23 : decode cc_M_layS 23 = .ok (.invokevirtual 116, 3) := by decide +kernel
theorem dd_M_layS_26 : decode cc_M_layS 26 = .ok (.iload_n 2, 1) := by decide +kernel
theorem dd_M_layS_27 : decode cc_M_layS 27 = .ok (.bipush 7, 2) := by decide +kernel
theorem dd_M_layS_29 : decode cc_M_layS 29 = .ok (.ishr, 1) := by decide +kernel
theorem dd_M_layS_30 : decode cc_M_layS 30 = .ok (.istore_n 2, 1) := by decide +kernel
theorem dd_M_layS_31 : decode cc_M_layS 31 = .ok (.goto (-29), 3) := by decide +kernel
theorem dd_M_layS_34 : decode cc_M_layS 34 = .ok (.aload_n 0, 1) := by decide +kernel
theorem dd_M_layS_35 : decode cc_M_layS 35 = .ok (.iload_n 2, 1) := by decide +kernel
theorem dd_M_layS_36 : decode cc_M_layS 36 = .ok (.bipush 127, 2) := by decide +kernel
theorem dd_M_layS_38 : decode cc_M_layS 38 = .ok (.iand, 1) := by decide +kernel
theorem dd_M_layS_39 : decode cc_M_layS 39 = .ok (.invokevirtual 116, 3) := by decide +kernel
theorem dd_M_layS_42 : decode cc_M_layS 42 = .ok (.return_, 1) := by decide +kernel
theorem dd_M_layLetters_0 : decode cc_M_layLetters 0 = .ok (.lload_n 1, 1) := by decide +kernel
theorem dd_M_layLetters_1 : decode cc_M_layLetters 1 = .ok (.invokestatic 72, 3) := by decide +kernel
theorem dd_M_layLetters_4 : decode cc_M_layLetters 4 = .ok (.istore_n 3, 1) := by decide +kernel
theorem dd_M_layLetters_5 : decode cc_M_layLetters 5 = .ok (.aload_n 0, 1) := by decide +kernel
theorem dd_M_layLetters_6 : decode cc_M_layLetters 6 = .ok (.iload_n 3, 1) := by decide +kernel
theorem dd_M_layLetters_7 : decode cc_M_layLetters 7 = .ok (.invokevirtual 116, 3) := by decide +kernel
theorem dd_M_layLetters_10 : decode cc_M_layLetters 10 = .ok (.iload_n 3, 1) := by decide +kernel
theorem dd_M_layLetters_11 : decode cc_M_layLetters 11 = .ok (.iconst 1, 1) := by decide +kernel
theorem dd_M_layLetters_12 : decode cc_M_layLetters 12 = .ok (.isub, 1) := by decide +kernel
theorem dd_M_layLetters_13 : decode cc_M_layLetters 13 = .ok (.istore 4, 2) := by decide +kernel
theorem dd_M_layLetters_15 : decode cc_M_layLetters 15 = .ok (.iload 4, 2) := by decide +kernel
theorem dd_M_layLetters_17 : decode cc_M_layLetters 17 = .ok (.ifCond .lt 25, 3) := by decide +kernel
theorem dd_M_layLetters_20 : decode cc_M_layLetters 20 = .ok (.aload_n 0, 1) := by decide +kernel
theorem dd_M_layLetters_21 : decode cc_M_layLetters 21 = .ok (.lload_n 1, 1) := by decide +kernel
theorem dd_M_layLetters_22 : decode cc_M_layLetters 22 = .ok (.bipush 8, 2) := by decide +kernel
theorem dd_M_layLetters_24 : decode cc_M_layLetters 24 = .ok (.iload 4, 2) := by decide +kernel
theorem dd_M_layLetters_26 : decode cc_M_layLetters 26 = .ok (.imul, 1) := by decide +kernel
theorem dd_M_layLetters_27 : decode cc_M_layLetters 27 = .ok (.lshr, 1) := by decide +kernel
theorem dd_M_layLetters_28 : decode cc_M_layLetters 28 = .ok (.ldc2_w 68, 3) := by decide +kernel
theorem dd_M_layLetters_31 : decode cc_M_layLetters 31 = .ok (.land, 1) := by decide +kernel
theorem dd_M_layLetters_32 : decode cc_M_layLetters 32 = .ok (.l2i, 1) := by decide +kernel
theorem dd_M_layLetters_33 : decode cc_M_layLetters 33 = .ok (.invokevirtual 116, 3) := by decide +kernel
theorem dd_M_layLetters_36 : decode cc_M_layLetters 36 = .ok (.iinc 4 (-1), 3) := by decide +kernel
theorem dd_M_layLetters_39 : decode cc_M_layLetters 39 = .ok (.goto (-24), 3) := by decide +kernel
theorem dd_M_layLetters_42 : decode cc_M_layLetters 42 = .ok (.return_, 1) := by decide +kernel
theorem dd_M_layRef_0 : decode cc_M_layRef 0 = .ok (.iload_n 2, 1) := by decide +kernel
theorem dd_M_layRef_1 : decode cc_M_layRef 1 = .ok (.ifCond .ne 11, 3) := by decide +kernel
theorem dd_M_layRef_4 : decode cc_M_layRef 4 = .ok (.aload_n 0, 1) := by decide +kernel
theorem dd_M_layRef_5 : decode cc_M_layRef 5 = .ok (.iconst 0, 1) := by decide +kernel
theorem dd_M_layRef_6 : decode cc_M_layRef 6 = .ok (.invokevirtual 116, 3) := by decide +kernel
theorem dd_M_layRef_9 : decode cc_M_layRef 9 = .ok (.goto 28, 3) := by decide +kernel
theorem dd_M_layRef_12 : decode cc_M_layRef 12 = .ok (.aload_n 0, 1) := by decide +kernel
theorem dd_M_layRef_13 : decode cc_M_layRef 13 = .ok (.aload_n 0, 1) := by decide +kernel
theorem dd_M_layRef_14 : decode cc_M_layRef 14 = .ok (.getfield 84, 3) := by decide +kernel
theorem dd_M_layRef_17 : decode cc_M_layRef 17 = .ok (.iload_n 1, 1) := by decide +kernel
theorem dd_M_layRef_18 : decode cc_M_layRef 18 = .ok (.iadd, 1) := by decide +kernel
theorem dd_M_layRef_19 : decode cc_M_layRef 19 = .ok (.iload_n 2, 1) := by decide +kernel
theorem dd_M_layRef_20 : decode cc_M_layRef 20 = .ok (.bipush 8, 2) := by decide +kernel
theorem dd_M_layRef_22 : decode cc_M_layRef 22 = .ok (.idiv, 1) := by decide +kernel
theorem dd_M_layRef_23 : decode cc_M_layRef 23 = .ok (.isub, 1) := by decide +kernel
theorem dd_M_layRef_24 : decode cc_M_layRef 24 = .ok (.bipush 8, 2) := by decide +kernel
theorem dd_M_layRef_26 : decode cc_M_layRef 26 = .ok (.imul, 1) := by decide +kernel
theorem dd_M_layRef_27 : decode cc_M_layRef 27 = .ok (.iload_n 2, 1) := by decide +kernel
theorem dd_M_layRef_28 : decode cc_M_layRef 28 = .ok (.bipush 8, 2) := by decide +kernel
theorem dd_M_layRef_30 : decode cc_M_layRef 30 = .ok (.irem, 1) := by decide +kernel
theorem dd_M_layRef_31 : decode cc_M_layRef 31 = .ok (.iadd, 1) := by decide +kernel
theorem dd_M_layRef_32 : decode cc_M_layRef 32 = .ok (.iconst 1, 1) := by decide +kernel
theorem dd_M_layRef_33 : decode cc_M_layRef 33 = .ok (.iadd, 1) := by decide +kernel
theorem dd_M_layRef_34 : decode cc_M_layRef 34 = .ok (.invokevirtual 120, 3) := by decide +kernel
theorem dd_M_layRef_37 : decode cc_M_layRef 37 = .ok (.return_, 1) := by decide +kernel
theorem dd_M_layOperation_0 : decode cc_M_layOperation 0 = .ok (.aload_n 0, 1) := by decide +kernel
theorem dd_M_layOperation_1 : decode cc_M_layOperation 1 = .ok (.getfield 13, 3) := by decide +kernel
theorem dd_M_layOperation_4 : decode cc_M_layOperation 4 = .ok (.iload_n 1, 1) := by decide +kernel
theorem dd_M_layOperation_5 : decode cc_M_layOperation 5 = .ok (.iaload, 1) := by decide +kernel
theorem dd_M_layOperation_6 : decode cc_M_layOperation 6 = .ok (.istore_n 2, 1) := by decide +kernel
theorem dd_M_layOperation_7 : decode cc_M_layOperation 7 = .ok (.aload_n 0, 1) := by decide +kernel
theorem dd_M_layOperation_8 : decode cc_M_layOperation 8 = .ok (.iload_n 2, 1) := by decide +kernel
theorem dd_M_layOperation_9 : decode cc_M_layOperation 9 = .ok (.bipush 8, 2) := by decide +kernel
theorem dd_M_layOperation_11 : decode cc_M_layOperation 11 = .ok (.aload_n 0, 1) := by decide +kernel
theorem dd_M_layOperation_12 : decode cc_M_layOperation 12 = .ok (.getfield 23, 3) := by decide +kernel
theorem dd_M_layOperation_15 : decode cc_M_layOperation 15 = .ok (.iload_n 1, 1) := by decide +kernel
theorem dd_M_layOperation_16 : decode cc_M_layOperation 16 = .ok (.iaload, 1) := by decide +kernel
theorem dd_M_layOperation_17 : decode cc_M_layOperation 17 = .ok (.imul, 1) := by decide +kernel
theorem dd_M_layOperation_18 : decode cc_M_layOperation 18 = .ok (.iadd, 1) := by decide +kernel
theorem dd_M_layOperation_19 : decode cc_M_layOperation 19 = .ok (.invokevirtual 116, 3) := by decide +kernel
theorem dd_M_layOperation_22 : decode cc_M_layOperation 22 = .ok (.aload_n 0, 1) := by decide +kernel
theorem dd_M_layOperation_23 : decode cc_M_layOperation 23 = .ok (.iload_n 1, 1) := by decide +kernel
theorem dd_M_layOperation_24 : decode cc_M_layOperation 24 = .ok (.aload_n 0, 1) := by decide +kernel
theorem dd_M_layOperation_25 : decode cc_M_layOperation 25 = .ok (.getfield 16, 3) := by decide +kernel
theorem dd_M_layOperation_28 : decode cc_M_layOperation 28 = .ok (.iload_n 1, 1) := by decide +kernel
theorem dd_M_layOperation_29 : decode cc_M_layOperation 29 = .ok (.iaload, 1) := by decide +kernel
theorem dd_M_layOperation_30 : decode cc_M_layOperation 30 = .ok (.invokevirtual 123, 3) := by decide +kernel
theorem dd_M_layOperation_33 : decode cc_M_layOperation 33 = .ok (.iload_n 2, 1) := by decide +kernel
theorem dd_M_layOperation_34 : decode cc_M_layOperation 34 = .ok (.iconst 2, 1) := by decide +kernel
theorem dd_M_layOperation_35 : decode cc_M_layOperation 35 = .ok (.if_icmp .ge 16, 3) := by decide +kernel
theorem dd_M_layOperation_38 : decode cc_M_layOperation 38 = .ok (.aload_n 0, 1) := by decide +kernel
theorem dd_M_layOperation_39 : decode cc_M_layOperation 39 = .ok (.aload_n 0, 1) := by decide +kernel
theorem dd_M_layOperation_40 : decode cc_M_layOperation 40 = .ok (.getfield 19, 3) := by decide +kernel
theorem dd_M_layOperation_43 : decode cc_M_layOperation 43 = .ok (.iload_n 1, 1) := by decide +kernel
theorem dd_M_layOperation_44 : decode cc_M_layOperation 44 = .ok (.laload, 1) := by decide +kernel
theorem dd_M_layOperation_45 : decode cc_M_layOperation 45 = .ok (.invokevirtual 127, 3) := by decide +kernel
theorem dd_M_layOperation_48 : decode cc_M_layOperation 48 = .ok (.goto 20, 3) := by decide +kernel
theorem dd_M_layOperation_51 : decode cc_M_layOperation 51 = .ok (.iload_n 2, 1) := by decide +kernel
theorem dd_M_layOperation_52 : decode cc_M_layOperation 52 = .ok (.iconst 2, 1) := by decide +kernel
theorem dd_M_layOperation_53 : decode cc_M_layOperation 53 = .ok (.if_icmp .le 15, 3) := by decide +kernel
theorem dd_M_layOperation_56 : decode cc_M_layOperation 56 = .ok (.aload_n 0, 1) := by decide +kernel
theorem dd_M_layOperation_57 : decode cc_M_layOperation 57 = .ok (.iload_n 1, 1) := by decide +kernel
theorem dd_M_layOperation_58 : decode cc_M_layOperation 58 = .ok (.aload_n 0, 1) := by decide +kernel
theorem dd_M_layOperation_59 : decode cc_M_layOperation 59 = .ok (.getfield 19, 3) := by decide +kernel
theorem dd_M_layOperation_62 : decode cc_M_layOperation 62 = .ok (.iload_n 1, 1) := by decide +kernel
theorem dd_M_layOperation_63 : decode cc_M_layOperation 63 = .ok (.laload, 1) := by decide +kernel
theorem dd_M_layOperation_64 : decode cc_M_layOperation 64 = .ok (.l2i, 1) := by decide +kernel
theorem dd_M_layOperation_65 : decode cc_M_layOperation 65 = .ok (.invokevirtual 123, 3) := by decide +kernel
theorem dd_M_layOperation_68 : decode cc_M_layOperation 68 = .ok (.iload_n 2, 1) := by decide +kernel
theorem dd_M_layOperation_69 : decode cc_M_layOperation 69 = .ok (.iconst 2, 1) := by decide +kernel
theorem dd_M_layOperation_70 : decode cc_M_layOperation 70 = .ok (.if_icmp .eq 23, 3) := by decide +kernel
theorem dd_M_layOperation_73 : decode cc_M_layOperation 73 = .ok (.aload_n 0, 1) := by decide +kernel
theorem dd_M_layOperation_74 : decode cc_M_layOperation 74 = .ok (.getfield 23, 3) := by decide +kernel
theorem dd_M_layOperation_77 : decode cc_M_layOperation 77 = .ok (.iload_n 1, 1) := by decide +kernel
theorem dd_M_layOperation_78 : decode cc_M_layOperation 78 = .ok (.iaload, 1) := by decide +kernel
theorem dd_M_layOperation_79 : decode cc_M_layOperation 79 = .ok (.iconst 2, 1) := by decide +kernel
theorem dd_M_layOperation_80 : decode cc_M_layOperation 80 = .ok (.if_icmp .eq 13, 3) := by decide +kernel
theorem dd_M_layOperation_83 : decode cc_M_layOperation 83 = .ok (.aload_n 0, 1) := by decide +kernel
theorem dd_M_layOperation_84 : decode cc_M_layOperation 84 = .ok (.getfield 23, 3) := by decide +kernel
theorem dd_M_layOperation_87 : decode cc_M_layOperation 87 = .ok (.iload_n 1, 1) := by decide +kernel
theorem dd_M_layOperation_88 : decode cc_M_layOperation 88 = .ok (.iaload, 1) := by decide +kernel
theorem dd_M_layOperation_89 : decode cc_M_layOperation 89 = .ok (.iconst 4, 1) := by decide +kernel
theorem dd_M_layOperation_90 : decode cc_M_layOperation 90 = .ok (.if_icmp .ne 16, 3) := by decide +kernel
theorem dd_M_layOperation_93 : decode cc_M_layOperation 93 = .ok (.aload_n 0, 1) := by decide +kernel
theorem dd_M_layOperation_94 : decode cc_M_layOperation 94 = .ok (.aload_n 0, 1) := by decide +kernel
theorem dd_M_layOperation_95 : decode cc_M_layOperation 95 = .ok (.getfield 26, 3) := by decide +kernel
theorem dd_M_layOperation_98 : decode cc_M_layOperation 98 = .ok (.iload_n 1, 1) := by decide +kernel
theorem dd_M_layOperation_99 : decode cc_M_layOperation 99 = .ok (.iaload, 1) := by decide +kernel
theorem dd_M_layOperation_100 : decode cc_M_layOperation 100 = .ok (.invokevirtual 131, 3) := by decide +kernel
theorem dd_M_layOperation_103 : decode cc_M_layOperation 103 = .ok (.goto 51, 3) := by decide +kernel
theorem dd_M_layOperation_106 : decode cc_M_layOperation 106 = .ok (.aload_n 0, 1) := by decide +kernel
theorem dd_M_layOperation_107 : decode cc_M_layOperation 107 = .ok (.getfield 23, 3) := by decide +kernel
theorem dd_M_layOperation_110 : decode cc_M_layOperation 110 = .ok (.iload_n 1, 1) := by decide +kernel
theorem dd_M_layOperation_111 : decode cc_M_layOperation 111 = .ok (.iaload, 1) := by decide +kernel
theorem dd_M_layOperation_112 : decode cc_M_layOperation 112 = .ok (.iconst 1, 1) := by decide +kernel
theorem dd_M_layOperation_113 : decode cc_M_layOperation 113 = .ok (.if_icmp .ne 16, 3) := by decide +kernel
theorem dd_M_layOperation_116 : decode cc_M_layOperation 116 = .ok (.aload_n 0, 1) := by decide +kernel
theorem dd_M_layOperation_117 : decode cc_M_layOperation 117 = .ok (.aload_n 0, 1) := by decide +kernel
theorem dd_M_layOperation_118 : decode cc_M_layOperation 118 = .ok (.getfield 26, 3) := by decide +kernel
theorem dd_M_layOperation_121 : decode cc_M_layOperation 121 = .ok (.iload_n 1, 1) := by decide +kernel
theorem dd_M_layOperation_122 : decode cc_M_layOperation 122 = .ok (.iaload, 1) := by decide +kernel
theorem dd_M_layOperation_123 : decode cc_M_layOperation 123 = .ok (.invokevirtual 116, 3) := by decide +kernel
theorem dd_M_layOperation_126 : decode cc_M_layOperation 126 = .ok (.goto 28, 3) := by decide +kernel
theorem dd_M_layOperation_129 : decode cc_M_layOperation 129 = .ok (.aload_n 0, 1) := by decide +kernel
theorem dd_M_layOperation_130 : decode cc_M_layOperation 130 = .ok (.getfield 23, 3) := by decide +kernel
theorem dd_M_layOperation_133 : decode cc_M_layOperation 133 = .ok (.iload_n 1, 1) := by decide +kernel
theorem dd_M_layOperation_134 : decode cc_M_layOperation 134 = .ok (.iaload, 1) := by decide +kernel
theorem dd_M_layOperation_135 : decode cc_M_layOperation 135 = .ok (.iconst 3, 1) := by decide +kernel
theorem dd_M_layOperation_136 : decode cc_M_layOperation 136 = .ok (.if_icmp .ne 18, 3) := by decide +kernel
theorem dd_M_layOperation_139 : decode cc_M_layOperation 139 = .ok (.aload_n 0, 1) := by decide +kernel
theorem dd_M_layOperation_140 : decode cc_M_layOperation 140 = .ok (.aload_n 0, 1) := by decide +kernel
theorem dd_M_layOperation_141 : decode cc_M_layOperation 141 = .ok (.getfield 26, 3) := by decide +kernel
theorem dd_M_layOperation_144 : decode cc_M_layOperation 144 = .ok (.iload_n 1, 1) := by decide +kernel
theorem dd_M_layOperation_145 : decode cc_M_layOperation 145 = .ok (.iaload, 1) := by decide +kernel
theorem dd_M_layOperation_146 : decode cc_M_layOperation 146 = .ok (.i2l, 1) := by decide +kernel
theorem dd_M_layOperation_147 : decode cc_M_layOperation 147 = .ok (.ldc2_w 70, 3) := by decide +kernel
theorem dd_M_layOperation_150 : decode cc_M_layOperation 150 = .ok (.land, 1) := by decide +kernel
theorem dd_M_layOperation_151 : decode cc_M_layOperation 151 = .ok (.invokevirtual 127, 3) := by decide +kernel
theorem dd_M_layOperation_154 : decode cc_M_layOperation 154 = .ok (.return_, 1) := by decide +kernel
theorem dd_M_layBody_0 : decode cc_M_layBody 0 = .ok (.aload_n 0, 1) := by decide +kernel
theorem dd_M_layBody_1 : decode cc_M_layBody 1 = .ok (.iconst 0, 1) := by decide +kernel
theorem dd_M_layBody_2 : decode cc_M_layBody 2 = .ok (.putfield 113, 3) := by decide +kernel
theorem dd_M_layBody_5 : decode cc_M_layBody 5 = .ok (.aload_n 0, 1) := by decide +kernel
theorem dd_M_layBody_6 : decode cc_M_layBody 6 = .ok (.aload_n 0, 1) := by decide +kernel
theorem dd_M_layBody_7 : decode cc_M_layBody 7 = .ok (.getfield 87, 3) := by decide +kernel
theorem dd_M_layBody_10 : decode cc_M_layBody 10 = .ok (.invokevirtual 116, 3) := by decide +kernel
theorem dd_M_layBody_13 : decode cc_M_layBody 13 = .ok (.aload_n 0, 1) := by decide +kernel
theorem dd_M_layBody_14 : decode cc_M_layBody 14 = .ok (.aload_n 0, 1) := by decide +kernel
theorem dd_M_layBody_15 : decode cc_M_layBody 15 = .ok (.getfield 99, 3) := by decide +kernel
theorem dd_M_layBody_18 : decode cc_M_layBody 18 = .ok (.invokevirtual 120, 3) := by decide +kernel
theorem dd_M_layBody_21 : decode cc_M_layBody 21 = .ok (.aload_n 0, 1) := by decide +kernel
theorem dd_M_layBody_22 : decode cc_M_layBody 22 = .ok (.aload_n 0, 1) := by decide +kernel
theorem dd_M_layBody_23 : decode cc_M_layBody 23 = .ok (.getfield 84, 3) := by decide +kernel
theorem dd_M_layBody_26 : decode cc_M_layBody 26 = .ok (.invokevirtual 120, 3) := by decide +kernel
theorem dd_M_layBody_29 : decode cc_M_layBody 29 = .ok (.iconst 0, 1) := by decide +kernel
theorem dd_M_layBody_30 : decode cc_M_layBody 30 = .ok (.istore_n 1, 1) := by decide +kernel
theorem dd_M_layBody_31 : decode cc_M_layBody 31 = .ok (.iconst 0, 1) := by decide +kernel
theorem dd_M_layBody_32 : decode cc_M_layBody 32 = .ok (.istore_n 2, 1) := by decide +kernel
theorem dd_M_layBody_33 : decode cc_M_layBody 33 = .ok (.iload_n 2, 1) := by decide +kernel
theorem dd_M_layBody_34 : decode cc_M_layBody 34 = .ok (.bipush 8, 2) := by decide +kernel
theorem dd_M_layBody_36 : decode cc_M_layBody 36 = .ok (.if_icmp .ge 36, 3) := by decide +kernel
theorem dd_M_layBody_39 : decode cc_M_layBody 39 = .ok (.iload_n 1, 1) := by decide +kernel
theorem dd_M_layBody_40 : decode cc_M_layBody 40 = .ok (.iload_n 2, 1) := by decide +kernel
theorem dd_M_layBody_41 : decode cc_M_layBody 41 = .ok (.aload_n 0, 1) := by decide +kernel
theorem dd_M_layBody_42 : decode cc_M_layBody 42 = .ok (.getfield 87, 3) := by decide +kernel
theorem dd_M_layBody_45 : decode cc_M_layBody 45 = .ok (.if_icmp .eq 18, 3) := by decide +kernel
theorem dd_M_layBody_48 : decode cc_M_layBody 48 = .ok (.aload_n 0, 1) := by decide +kernel
theorem dd_M_layBody_49 : decode cc_M_layBody 49 = .ok (.getfield 7, 3) := by decide +kernel
theorem dd_M_layBody_52 : decode cc_M_layBody 52 = .ok (.iload_n 2, 1) := by decide +kernel
theorem dd_M_layBody_53 : decode cc_M_layBody 53 = .ok (.iaload, 1) := by decide +kernel
theorem dd_M_layBody_54 : decode cc_M_layBody 54 = .ok (.ifCond .le 9, 3) := by decide +kernel
theorem dd_M_layBody_57 : decode cc_M_layBody 57 = .ok (.iconst 1, 1) := by decide +kernel
theorem dd_M_layBody_58 : decode cc_M_layBody 58 = .ok (.iload_n 2, 1) := by decide +kernel
theorem dd_M_layBody_59 : decode cc_M_layBody 59 = .ok (.ishl, 1) := by decide +kernel
theorem dd_M_layBody_60 : decode cc_M_layBody 60 = .ok (.goto 4, 3) := by decide +kernel
theorem dd_M_layBody_63 : decode cc_M_layBody 63 = .ok (.iconst 0, 1) := by decide +kernel
theorem dd_M_layBody_64 : decode cc_M_layBody 64 = .ok (.iadd, 1) := by decide +kernel
theorem dd_M_layBody_65 : decode cc_M_layBody 65 = .ok (.istore_n 1, 1) := by decide +kernel
theorem dd_M_layBody_66 : decode cc_M_layBody 66 = .ok (.iinc 2 1, 3) := by decide +kernel
theorem dd_M_layBody_69 : decode cc_M_layBody 69 = .ok (.goto (-36), 3) := by decide +kernel
theorem dd_M_layBody_72 : decode cc_M_layBody 72 = .ok (.aload_n 0, 1) := by decide +kernel
theorem dd_M_layBody_73 : decode cc_M_layBody 73 = .ok (.iload_n 1, 1) := by decide +kernel
theorem dd_M_layBody_74 : decode cc_M_layBody 74 = .ok (.invokevirtual 116, 3) := by decide +kernel
theorem dd_M_layBody_77 : decode cc_M_layBody 77 = .ok (.iconst 0, 1) := by decide +kernel
theorem dd_M_layBody_78 : decode cc_M_layBody 78 = .ok (.istore_n 2, 1) := by decide +kernel
theorem dd_M_layBody_79 : decode cc_M_layBody 79 = .ok (.iload_n 2, 1) := by decide +kernel
theorem dd_M_layBody_80 : decode cc_M_layBody 80 = .ok (.bipush 8, 2) := by decide +kernel
theorem dd_M_layBody_82 : decode cc_M_layBody 82 = .ok (.if_icmp .ge 28, 3) := by decide +kernel
theorem dd_M_layBody_85 : decode cc_M_layBody 85 = .ok (.iload_n 1, 1) := by decide +kernel
theorem dd_M_layBody_86 : decode cc_M_layBody 86 = .ok (.iload_n 2, 1) := by decide +kernel
theorem dd_M_layBody_87 : decode cc_M_layBody 87 = .ok (.ishr, 1) := by decide +kernel
theorem dd_M_layBody_88 : decode cc_M_layBody 88 = .ok (.iconst 1, 1) := by decide +kernel
theorem dd_M_layBody_89 : decode cc_M_layBody 89 = .ok (.iand, 1) := by decide +kernel
theorem dd_M_layBody_90 : decode cc_M_layBody 90 = .ok (.iconst 1, 1) := by decide +kernel
theorem dd_M_layBody_91 : decode cc_M_layBody 91 = .ok (.if_icmp .ne 13, 3) := by decide +kernel
theorem dd_M_layBody_94 : decode cc_M_layBody 94 = .ok (.aload_n 0, 1) := by decide +kernel
theorem dd_M_layBody_95 : decode cc_M_layBody 95 = .ok (.aload_n 0, 1) := by decide +kernel
theorem dd_M_layBody_96 : decode cc_M_layBody 96 = .ok (.getfield 7, 3) := by decide +kernel
theorem dd_M_layBody_99 : decode cc_M_layBody 99 = .ok (.iload_n 2, 1) := by decide +kernel
theorem dd_M_layBody_100 : decode cc_M_layBody 100 = .ok (.iaload, 1) := by decide +kernel
theorem dd_M_layBody_101 : decode cc_M_layBody 101 = .ok (.invokevirtual 120, 3) := by decide +kernel
theorem dd_M_layBody_104 : decode cc_M_layBody 104 = .ok (.iinc 2 1, 3) := by decide +kernel
theorem dd_M_layBody_107 : decode cc_M_layBody 107 = .ok (.goto (-28), 3) := by decide +kernel
theorem dd_M_layBody_110 : decode cc_M_layBody 110 = .ok (.aload_n 0, 1) := by decide +kernel
theorem dd_M_layBody_111 : decode cc_M_layBody 111 = .ok (.aload_n 0, 1) := by decide +kernel
theorem dd_M_layBody_112 : decode cc_M_layBody 112 = .ok (.getfield 102, 3) := by decide +kernel
theorem dd_M_layBody_115 : decode cc_M_layBody 115 = .ok (.invokevirtual 120, 3) := by decide +kernel
theorem dd_M_layBody_118 : decode cc_M_layBody 118 = .ok (.iconst 0, 1) := by decide +kernel
theorem dd_M_layBody_119 : decode cc_M_layBody 119 = .ok (.istore_n 2, 1) := by decide +kernel
theorem dd_M_layBody_120 : decode cc_M_layBody 120 = .ok (.iload_n 2, 1) := by decide +kernel
theorem dd_M_layBody_121 : decode cc_M_layBody 121 = .ok (.aload_n 0, 1) := by decide +kernel
theorem dd_M_layBody_122 : decode cc_M_layBody 122 = .ok (.getfield 102, 3) := by decide +kernel
theorem dd_M_layBody_125 : decode cc_M_layBody 125 = .ok (.if_icmp .ge 14, 3) := by decide +kernel
theorem dd_M_layBody_128 : decode cc_M_layBody 128 = .ok (.aload_n 0, 1) := by decide +kernel
theorem dd_M_layBody_129 : decode cc_M_layBody 129 = .ok (.iload_n 2, 1) := by decide +kernel
theorem dd_M_layBody_130 : decode cc_M_layBody 130 = .ok (.invokevirtual 134, 3) := by decide +kernel
theorem dd_M_layBody_133 : decode cc_M_layBody 133 = .ok (.iinc 2 1, 3) := by decide +kernel
theorem dd_M_layBody_136 : decode cc_M_layBody 136 = .ok (.goto (-16), 3) := by decide +kernel
theorem dd_M_layBody_139 : decode cc_M_layBody 139 = .ok (.return_, 1) := by decide +kernel
theorem dd_M_checkOf_0 : decode cc_M_checkOf 0 = .ok (.iconst (-1), 1) := by decide +kernel
theorem dd_M_checkOf_1 : decode cc_M_checkOf 1 = .ok (.istore_n 3, 1) := by decide +kernel
theorem dd_M_checkOf_2 : decode cc_M_checkOf 2 = .ok (.iload_n 1, 1) := by decide +kernel
theorem dd_M_checkOf_3 : decode cc_M_checkOf 3 = .ok (.istore 4, 2) := by decide +kernel
theorem dd_M_checkOf_5 : decode cc_M_checkOf 5 = .ok (.iload 4, 2) := by decide +kernel
theorem dd_M_checkOf_7 : decode cc_M_checkOf 7 = .ok (.iload_n 2, 1) := by decide +kernel
theorem dd_M_checkOf_8 : decode cc_M_checkOf 8 = .ok (.if_icmp .ge 56, 3) := by decide +kernel
theorem dd_M_checkOf_11 : decode cc_M_checkOf 11 = .ok (.iload_n 3, 1) := by decide +kernel
theorem dd_M_checkOf_12 : decode cc_M_checkOf 12 = .ok (.aload_n 0, 1) := by decide +kernel
theorem dd_M_checkOf_13 : decode cc_M_checkOf 13 = .ok (.iload 4, 2) := by decide +kernel
theorem dd_M_checkOf_15 : decode cc_M_checkOf 15 = .ok (.baload, 1) := by decide +kernel
theorem dd_M_checkOf_16 : decode cc_M_checkOf 16 = .ok (.sipush 255, 3) := by decide +kernel
theorem dd_M_checkOf_19 : decode cc_M_checkOf 19 = .ok (.iand, 1) := by decide +kernel
theorem dd_M_checkOf_20 : decode cc_M_checkOf 20 = .ok (.ixor, 1) := by decide +kernel
theorem dd_M_checkOf_21 : decode cc_M_checkOf 21 = .ok (.istore_n 3, 1) := by decide +kernel
theorem dd_M_checkOf_22 : decode cc_M_checkOf 22 = .ok (.iconst 0, 1) := by decide +kernel
theorem dd_M_checkOf_23 : decode cc_M_checkOf 23 = .ok (.istore 5, 2) := by decide +kernel
theorem dd_M_checkOf_25 : decode cc_M_checkOf 25 = .ok (.iload 5, 2) := by decide +kernel
theorem dd_M_checkOf_27 : decode cc_M_checkOf 27 = .ok (.bipush 8, 2) := by decide +kernel
theorem dd_M_checkOf_29 : decode cc_M_checkOf 29 = .ok (.if_icmp .ge 29, 3) := by decide +kernel
theorem dd_M_checkOf_32 : decode cc_M_checkOf 32 = .ok (.iload_n 3, 1) := by decide +kernel
theorem dd_M_checkOf_33 : decode cc_M_checkOf 33 = .ok (.iconst 1, 1) := by decide +kernel
theorem dd_M_checkOf_34 : decode cc_M_checkOf 34 = .ok (.iand, 1) := by decide +kernel
theorem dd_M_checkOf_35 : decode cc_M_checkOf 35 = .ok (.iconst 1, 1) := by decide +kernel
theorem dd_M_checkOf_36 : decode cc_M_checkOf 36 = .ok (.if_icmp .ne 12, 3) := by decide +kernel
theorem dd_M_checkOf_39 : decode cc_M_checkOf 39 = .ok (.iload_n 3, 1) := by decide +kernel
theorem dd_M_checkOf_40 : decode cc_M_checkOf 40 = .ok (.iconst 1, 1) := by decide +kernel
theorem dd_M_checkOf_41 : decode cc_M_checkOf 41 = .ok (.iushr, 1) := by decide +kernel
theorem dd_M_checkOf_42 : decode cc_M_checkOf 42 = .ok (.ldc 137, 2) := by decide +kernel
theorem dd_M_checkOf_44 : decode cc_M_checkOf 44 = .ok (.ixor, 1) := by decide +kernel
theorem dd_M_checkOf_45 : decode cc_M_checkOf 45 = .ok (.goto 6, 3) := by decide +kernel
theorem dd_M_checkOf_48 : decode cc_M_checkOf 48 = .ok (.iload_n 3, 1) := by decide +kernel
theorem dd_M_checkOf_49 : decode cc_M_checkOf 49 = .ok (.iconst 1, 1) := by decide +kernel
theorem dd_M_checkOf_50 : decode cc_M_checkOf 50 = .ok (.iushr, 1) := by decide +kernel
theorem dd_M_checkOf_51 : decode cc_M_checkOf 51 = .ok (.istore_n 3, 1) := by decide +kernel
theorem dd_M_checkOf_52 : decode cc_M_checkOf 52 = .ok (.iinc 5 1, 3) := by decide +kernel
theorem dd_M_checkOf_55 : decode cc_M_checkOf 55 = .ok (.goto (-30), 3) := by decide +kernel
theorem dd_M_checkOf_58 : decode cc_M_checkOf 58 = .ok (.iinc 4 1, 3) := by decide +kernel
theorem dd_M_checkOf_61 : decode cc_M_checkOf 61 = .ok (.goto (-56), 3) := by decide +kernel
theorem dd_M_checkOf_64 : decode cc_M_checkOf 64 = .ok (.iload_n 3, 1) := by decide +kernel
theorem dd_M_checkOf_65 : decode cc_M_checkOf 65 = .ok (.iconst (-1), 1) := by decide +kernel
theorem dd_M_checkOf_66 : decode cc_M_checkOf 66 = .ok (.ixor, 1) := by decide +kernel
theorem dd_M_checkOf_67 : decode cc_M_checkOf 67 = .ok (.ireturn, 1) := by decide +kernel
theorem dd_M_isWhole_0 : decode cc_M_isWhole 0 = .ok (.aload_n 0, 1) := by decide +kernel
theorem dd_M_isWhole_1 : decode cc_M_isWhole 1 = .ok (.aload_n 0, 1) := by decide +kernel
theorem dd_M_isWhole_2 : decode cc_M_isWhole 2 = .ok (.getfield 95, 3) := by decide +kernel
theorem dd_M_isWhole_5 : decode cc_M_isWhole 5 = .ok (.ifCond .eq 14, 3) := by decide +kernel
theorem dd_M_isWhole_8 : decode cc_M_isWhole 8 = .ok (.aload_n 0, 1) := by decide +kernel
theorem dd_M_isWhole_9 : decode cc_M_isWhole 9 = .ok (.getfield 102, 3) := by decide +kernel
theorem dd_M_isWhole_12 : decode cc_M_isWhole 12 = .ok (.ifCond .le 7, 3) := by decide +kernel
theorem dd_M_isWhole_15 : decode cc_M_isWhole 15 = .ok (.iconst 0, 1) := by decide +kernel
theorem dd_M_isWhole_16 : decode cc_M_isWhole 16 = .ok (.goto 4, 3) := by decide +kernel
theorem dd_M_isWhole_19 : decode cc_M_isWhole 19 = .ok (.iconst 1, 1) := by decide +kernel
theorem dd_M_isWhole_20 : decode cc_M_isWhole 20 = .ok (.putfield 61, 3) := by decide +kernel
theorem dd_M_isWhole_23 : decode cc_M_isWhole 23 = .ok (.aload_n 0, 1) := by decide +kernel
theorem dd_M_isWhole_24 : decode cc_M_isWhole 24 = .ok (.getfield 61, 3) := by decide +kernel
theorem dd_M_isWhole_27 : decode cc_M_isWhole 27 = .ok (.ifCond .ne 7, 3) := by decide +kernel
theorem dd_M_isWhole_30 : decode cc_M_isWhole 30 = .ok (.iconst 1, 1) := by decide +kernel
theorem dd_M_isWhole_31 : decode cc_M_isWhole 31 = .ok (.goto 4, 3) := by decide +kernel
theorem dd_M_isWhole_34 : decode cc_M_isWhole 34 = .ok (.iconst 0, 1) := by decide +kernel
theorem dd_M_isWhole_35 : decode cc_M_isWhole 35 = .ok (.ireturn, 1) := by decide +kernel
theorem dd_M_ahead_0 : decode cc_M_ahead 0 = .ok (.aload_n 0, 1) := by decide +kernel
theorem dd_M_ahead_1 : decode cc_M_ahead 1 = .ok (.getfield 113, 3) := by decide +kernel
theorem dd_M_ahead_4 : decode cc_M_ahead 4 = .ok (.bipush 127, 2) := by decide +kernel
theorem dd_M_ahead_6 : decode cc_M_ahead 6 = .ok (.if_icmp .le 7, 3) := by decide +kernel
theorem dd_M_ahead_9 : decode cc_M_ahead 9 = .ok (.iconst 2, 1) := by decide +kernel
theorem dd_M_ahead_10 : decode cc_M_ahead 10 = .ok (.goto 4, 3) := by decide +kernel
theorem dd_M_ahead_13 : decode cc_M_ahead 13 = .ok (.iconst 1, 1) := by decide +kernel
theorem dd_M_ahead_14 : decode cc_M_ahead 14 = .ok (.ireturn, 1) := by decide +kernel
theorem dd_M_size_0 : decode cc_M_size 0 = .ok (.aload_n 0, 1) := by decide +kernel
theorem dd_M_size_1 : decode cc_M_size 1 = .ok (.invokevirtual 138, 3) := by decide +kernel
theorem dd_M_size_4 : decode cc_M_size 4 = .ok (.ifCond .ne 5, 3) := by decide +kernel
theorem dd_M_size_7 : decode cc_M_size 7 = .ok (.iconst 0, 1) := by decide +kernel
theorem dd_M_size_8 : decode cc_M_size 8 = .ok (.ireturn, 1) := by decide +kernel
theorem dd_M_size_9 : decode cc_M_size 9 = .ok (.aload_n 0, 1) := by decide +kernel
theorem dd_M_size_10 : decode cc_M_size 10 = .ok (.invokevirtual 142, 3) := by decide +kernel
theorem dd_M_size_13 : decode cc_M_size 13 = .ok (.aload_n 0, 1) := by decide +kernel
theorem dd_M_size_14 : decode cc_M_size 14 = .ok (.invokevirtual 145, 3) := by decide +kernel
theorem dd_M_size_17 : decode cc_M_size 17 = .ok (.aload_n 0, 1) := by decide +kernel
theorem dd_M_size_18 : decode cc_M_size 18 = .ok (.getfield 113, 3) := by decide +kernel
theorem dd_M_size_21 : decode cc_M_size 21 = .ok (.iadd, 1) := by decide +kernel
theorem dd_M_size_22 : decode cc_M_size 22 = .ok (.iconst 4, 1) := by decide +kernel
theorem dd_M_size_23 : decode cc_M_size 23 = .ok (.iadd, 1) := by decide +kernel
theorem dd_M_size_24 : decode cc_M_size 24 = .ok (.ireturn, 1) := by decide +kernel
theorem dd_M_clear_0 : decode cc_M_clear 0 = .ok (.aload_n 0, 1) := by decide +kernel
theorem dd_M_clear_1 : decode cc_M_clear 1 = .ok (.iconst 0, 1) := by decide +kernel
theorem dd_M_clear_2 : decode cc_M_clear 2 = .ok (.putfield 61, 3) := by decide +kernel
theorem dd_M_clear_5 : decode cc_M_clear 5 = .ok (.aload_n 0, 1) := by decide +kernel
theorem dd_M_clear_6 : decode cc_M_clear 6 = .ok (.iconst 0, 1) := by decide +kernel
theorem dd_M_clear_7 : decode cc_M_clear 7 = .ok (.putfield 149, 3) := by decide +kernel
theorem dd_M_clear_10 : decode cc_M_clear 10 = .ok (.return_, 1) := by decide +kernel
theorem dd_M_give_0 : decode cc_M_give 0 = .ok (.aload_n 0, 1) := by decide +kernel
theorem dd_M_give_1 : decode cc_M_give 1 = .ok (.iconst 0, 1) := by decide +kernel
theorem dd_M_give_2 : decode cc_M_give 2 = .ok (.putfield 61, 3) := by decide +kernel
theorem dd_M_give_5 : decode cc_M_give 5 = .ok (.iload_n 3, 1) := by decide +kernel
theorem dd_M_give_6 : decode cc_M_give 6 = .ok (.iconst 1, 1) := by decide +kernel
theorem dd_M_give_7 : decode cc_M_give 7 = .ok (.if_icmp .lt 21, 3) := by decide +kernel
theorem dd_M_give_10 : decode cc_M_give 10 = .ok (.iload_n 3, 1) := by decide +kernel
theorem dd_M_give_11 : decode cc_M_give 11 = .ok (.bipush 8, 2) := by decide +kernel
theorem dd_M_give_13 : decode cc_M_give 13 = .ok (.if_icmp .gt 15, 3) := by decide +kernel
theorem dd_M_give_16 : decode cc_M_give 16 = .ok (.aload_n 0, 1) := by decide +kernel
theorem dd_M_give_17 : decode cc_M_give 17 = .ok (.getfield 156, 3) := by decide +kernel
theorem dd_M_give_20 : decode cc_M_give 20 = .ok (.iload_n 3, 1) := by decide +kernel
theorem dd_M_give_21 : decode cc_M_give 21 = .ok (.iadd, 1) := by decide +kernel
theorem dd_M_give_22 : decode cc_M_give 22 = .ok (.sipush 4096, 3) := by decide +kernel
theorem dd_M_give_25 : decode cc_M_give 25 = .ok (.if_icmp .le 5, 3) := by decide +kernel
theorem dd_M_give_28 : decode cc_M_give 28 = .ok (.iconst 0, 1) := by decide +kernel
theorem dd_M_give_29 : decode cc_M_give 29 = .ok (.ireturn, 1) := by decide +kernel
theorem dd_M_give_30 : decode cc_M_give 30 = .ok (.iload_n 3, 1) := by decide +kernel
theorem dd_M_give_31 : decode cc_M_give 31 = .ok (.iconst 1, 1) := by decide +kernel
theorem dd_M_give_32 : decode cc_M_give 32 = .ok (.isub, 1) := by decide +kernel
theorem dd_M_give_33 : decode cc_M_give 33 = .ok (.istore 4, 2) := by decide +kernel
theorem dd_M_give_35 : decode cc_M_give 35 = .ok (.iload 4, 2) := by decide +kernel
theorem dd_M_give_37 : decode cc_M_give 37 = .ok (.ifCond .lt 37, 3) := by decide +kernel
theorem dd_M_give_40 : decode cc_M_give 40 = .ok (.aload_n 0, 1) := by decide +kernel
theorem dd_M_give_41 : decode cc_M_give 41 = .ok (.getfield 51, 3) := by decide +kernel
theorem dd_M_give_44 : decode cc_M_give 44 = .ok (.aload_n 0, 1) := by decide +kernel
theorem dd_M_give_45 : decode cc_M_give 45 = .ok (.getfield 156, 3) := by decide +kernel
theorem dd_M_give_48 : decode cc_M_give 48 = .ok (.lload_n 1, 1) := by decide +kernel
theorem dd_M_give_49 : decode cc_M_give 49 = .ok (.bipush 8, 2) := by decide +kernel
theorem dd_M_give_51 : decode cc_M_give 51 = .ok (.iload 4, 2) := by decide +kernel
theorem dd_M_give_53 : decode cc_M_give 53 = .ok (.imul, 1) := by decide +kernel
theorem dd_M_give_54 : decode cc_M_give 54 = .ok (.lshr, 1) := by decide +kernel
theorem dd_M_give_55 : decode cc_M_give 55 = .ok (.l2i, 1) := by decide +kernel
theorem dd_M_give_56 : decode cc_M_give 56 = .ok (.i2b, 1) := by decide +kernel
theorem dd_M_give_57 : decode cc_M_give 57 = .ok (.bastore, 1) := by decide +kernel
theorem dd_M_give_58 : decode cc_M_give 58 = .ok (.aload_n 0, 1) := by decide +kernel
theorem dd_M_give_59 : decode cc_M_give 59 = .ok (.dup, 1) := by decide +kernel
theorem dd_M_give_60 : decode cc_M_give 60 = .ok (.getfield 156, 3) := by decide +kernel
theorem dd_M_give_63 : decode cc_M_give 63 = .ok (.iconst 1, 1) := by decide +kernel
theorem dd_M_give_64 : decode cc_M_give 64 = .ok (.iadd, 1) := by decide +kernel
theorem dd_M_give_65 : decode cc_M_give 65 = .ok (.putfield 156, 3) := by decide +kernel
theorem dd_M_give_68 : decode cc_M_give 68 = .ok (.iinc 4 (-1), 3) := by decide +kernel
theorem dd_M_give_71 : decode cc_M_give 71 = .ok (.goto (-36), 3) := by decide +kernel
theorem dd_M_give_74 : decode cc_M_give 74 = .ok (.iconst 1, 1) := by decide +kernel
theorem dd_M_give_75 : decode cc_M_give 75 = .ok (.ireturn, 1) := by decide +kernel
theorem dd_M_cut_0 : decode cc_M_cut 0 = .ok (.aload_n 0, 1) := by decide +kernel
theorem dd_M_cut_1 : decode cc_M_cut 1 = .ok (.iconst 0, 1) := by decide +kernel
theorem dd_M_cut_2 : decode cc_M_cut 2 = .ok (.putfield 61, 3) := by decide +kernel
theorem dd_M_cut_5 : decode cc_M_cut 5 = .ok (.iload_n 1, 1) := by decide +kernel
theorem dd_M_cut_6 : decode cc_M_cut 6 = .ok (.ifCond .lt 11, 3) := by decide +kernel
theorem dd_M_cut_9 : decode cc_M_cut 9 = .ok (.iload_n 1, 1) := by decide +kernel
theorem dd_M_cut_10 : decode cc_M_cut 10 = .ok (.aload_n 0, 1) := by decide +kernel
theorem dd_M_cut_11 : decode cc_M_cut 11 = .ok (.getfield 156, 3) := by decide +kernel
theorem dd_M_cut_14 : decode cc_M_cut 14 = .ok (.if_icmp .le 5, 3) := by decide +kernel
theorem dd_M_cut_17 : decode cc_M_cut 17 = .ok (.iconst 0, 1) := by decide +kernel
theorem dd_M_cut_18 : decode cc_M_cut 18 = .ok (.ireturn, 1) := by decide +kernel
theorem dd_M_cut_19 : decode cc_M_cut 19 = .ok (.aload_n 0, 1) := by decide +kernel
theorem dd_M_cut_20 : decode cc_M_cut 20 = .ok (.iload_n 1, 1) := by decide +kernel
theorem dd_M_cut_21 : decode cc_M_cut 21 = .ok (.putfield 156, 3) := by decide +kernel
theorem dd_M_cut_24 : decode cc_M_cut 24 = .ok (.aload_n 0, 1) := by decide +kernel
theorem dd_M_cut_25 : decode cc_M_cut 25 = .ok (.iconst 0, 1) := by decide +kernel
theorem dd_M_cut_26 : decode cc_M_cut 26 = .ok (.putfield 159, 3) := by decide +kernel
theorem dd_M_cut_29 : decode cc_M_cut 29 = .ok (.iconst 1, 1) := by decide +kernel
theorem dd_M_cut_30 : decode cc_M_cut 30 = .ok (.ireturn, 1) := by decide +kernel
theorem dd_M_turn_0 : decode cc_M_turn 0 = .ok (.aload_n 0, 1) := by decide +kernel
theorem dd_M_turn_1 : decode cc_M_turn 1 = .ok (.iconst 0, 1) := by decide +kernel
theorem dd_M_turn_2 : decode cc_M_turn 2 = .ok (.putfield 61, 3) := by decide +kernel
theorem dd_M_turn_5 : decode cc_M_turn 5 = .ok (.aload_n 0, 1) := by decide +kernel
theorem dd_M_turn_6 : decode cc_M_turn 6 = .ok (.aload_n 0, 1) := by decide +kernel
theorem dd_M_turn_7 : decode cc_M_turn 7 = .ok (.getfield 149, 3) := by decide +kernel
theorem dd_M_turn_10 : decode cc_M_turn 10 = .ok (.putfield 156, 3) := by decide +kernel
theorem dd_M_turn_13 : decode cc_M_turn 13 = .ok (.iconst 0, 1) := by decide +kernel
theorem dd_M_turn_14 : decode cc_M_turn 14 = .ok (.istore_n 1, 1) := by decide +kernel
theorem dd_M_turn_15 : decode cc_M_turn 15 = .ok (.iload_n 1, 1) := by decide +kernel
theorem dd_M_turn_16 : decode cc_M_turn 16 = .ok (.aload_n 0, 1) := by decide +kernel
theorem dd_M_turn_17 : decode cc_M_turn 17 = .ok (.getfield 149, 3) := by decide +kernel
theorem dd_M_turn_20 : decode cc_M_turn 20 = .ok (.if_icmp .ge 21, 3) := by decide +kernel
theorem dd_M_turn_23 : decode cc_M_turn 23 = .ok (.aload_n 0, 1) := by decide +kernel
theorem dd_M_turn_24 : decode cc_M_turn 24 = .ok (.getfield 51, 3) := by decide +kernel
theorem dd_M_turn_27 : decode cc_M_turn 27 = .ok (.iload_n 1, 1) := by decide +kernel
theorem dd_M_turn_28 : decode cc_M_turn 28 = .ok (.aload_n 0, 1) := by decide +kernel
theorem dd_M_turn_29 : decode cc_M_turn 29 = .ok (.getfield 47, 3) := by decide +kernel
theorem dd_M_turn_32 : decode cc_M_turn 32 = .ok (.iload_n 1, 1) := by decide +kernel
theorem dd_M_turn_33 : decode cc_M_turn 33 = .ok (.baload, 1) := by decide +kernel
theorem dd_M_turn_34 : decode cc_M_turn 34 = .ok (.bastore, 1) := by decide +kernel
theorem dd_M_turn_35 : decode cc_M_turn 35 = .ok (.iinc 1 1, 3) := by decide +kernel
theorem dd_M_turn_38 : decode cc_M_turn 38 = .ok (.goto (-23), 3) := by decide +kernel
theorem dd_M_turn_41 : decode cc_M_turn 41 = .ok (.aload_n 0, 1) := by decide +kernel
theorem dd_M_turn_42 : decode cc_M_turn 42 = .ok (.iconst 0, 1) := by decide +kernel
theorem dd_M_turn_43 : decode cc_M_turn 43 = .ok (.putfield 159, 3) := by decide +kernel
theorem dd_M_turn_46 : decode cc_M_turn 46 = .ok (.return_, 1) := by decide +kernel
theorem dd_M_of_0 : decode cc_M_of 0 = .ok (.aload_n 0, 1) := by decide +kernel
theorem dd_M_of_1 : decode cc_M_of 1 = .ok (.iconst 0, 1) := by decide +kernel
theorem dd_M_of_2 : decode cc_M_of 2 = .ok (.putfield 61, 3) := by decide +kernel
theorem dd_M_of_5 : decode cc_M_of 5 = .ok (.aload_n 0, 1) := by decide +kernel
theorem dd_M_of_6 : decode cc_M_of 6 = .ok (.getfield 95, 3) := by decide +kernel
theorem dd_M_of_9 : decode cc_M_of 9 = .ok (.ifCond .ne 5, 3) := by decide +kernel
theorem dd_M_of_12 : decode cc_M_of 12 = .ok (.iconst (-1), 1) := by decide +kernel
theorem dd_M_of_13 : decode cc_M_of 13 = .ok (.ireturn, 1) := by decide +kernel
theorem dd_M_of_14 : decode cc_M_of 14 = .ok (.iload_n 1, 1) := by decide +kernel
theorem dd_M_of_15 : decode cc_M_of 15 = .ok (.bipush 8, 2) := by decide +kernel
theorem dd_M_of_17 : decode cc_M_of 17 = .ok (.if_icmp .lt 19, 3) := by decide +kernel
theorem dd_M_of_20 : decode cc_M_of 20 = .ok (.iload_n 1, 1) := by decide +kernel
theorem dd_M_of_21 : decode cc_M_of 21 = .ok (.bipush 16, 2) := by decide +kernel
theorem dd_M_of_23 : decode cc_M_of 23 = .ok (.if_icmp .ge 13, 3) := by decide +kernel
theorem dd_M_of_26 : decode cc_M_of 26 = .ok (.aload_n 0, 1) := by decide +kernel
theorem dd_M_of_27 : decode cc_M_of 27 = .ok (.getfield 7, 3) := by decide +kernel
theorem dd_M_of_30 : decode cc_M_of 30 = .ok (.iload_n 1, 1) := by decide +kernel
theorem dd_M_of_31 : decode cc_M_of 31 = .ok (.bipush 8, 2) := by decide +kernel
theorem dd_M_of_33 : decode cc_M_of 33 = .ok (.isub, 1) := by decide +kernel
theorem dd_M_of_34 : decode cc_M_of 34 = .ok (.iaload, 1) := by decide +kernel
theorem dd_M_of_35 : decode cc_M_of 35 = .ok (.ireturn, 1) := by decide +kernel
theorem dd_M_of_36 : decode cc_M_of 36 = .ok (.iload_n 1, 1) := by decide +kernel
theorem dd_M_of_37 : decode cc_M_of 37 = .ok (.ifCond .ne 10, 3) := by decide +kernel
theorem dd_M_of_40 : decode cc_M_of 40 = .ok (.aload_n 0, 1) := by decide +kernel
theorem dd_M_of_41 : decode cc_M_of 41 = .ok (.getfield 87, 3) := by decide +kernel
theorem dd_M_of_44 : decode cc_M_of 44 = .ok (.goto 40, 3) := by decide +kernel
theorem dd_M_of_47 : decode cc_M_of 47 = .ok (.iload_n 1, 1) := by decide +kernel
theorem dd_M_of_48 : decode cc_M_of 48 = .ok (.iconst 1, 1) := by decide +kernel
theorem dd_M_of_49 : decode cc_M_of 49 = .ok (.if_icmp .ne 10, 3) := by decide +kernel
theorem dd_M_of_52 : decode cc_M_of 52 = .ok (.aload_n 0, 1) := by decide +kernel
theorem dd_M_of_53 : decode cc_M_of 53 = .ok (.getfield 99, 3) := by decide +kernel
theorem dd_M_of_56 : decode cc_M_of 56 = .ok (.goto 28, 3) := by decide +kernel
theorem dd_M_of_59 : decode cc_M_of 59 = .ok (.iload_n 1, 1) := by decide +kernel
theorem dd_M_of_60 : decode cc_M_of 60 = .ok (.iconst 2, 1) := by decide +kernel
theorem dd_M_of_61 : decode cc_M_of 61 = .ok (.if_icmp .ne 10, 3) := by decide +kernel
theorem dd_M_of_64 : decode cc_M_of 64 = .ok (.aload_n 0, 1) := by decide +kernel
theorem dd_M_of_65 : decode cc_M_of 65 = .ok (.getfield 84, 3) := by decide +kernel
theorem dd_M_of_68 : decode cc_M_of 68 = .ok (.goto 16, 3) := by decide +kernel
theorem dd_M_of_71 : decode cc_M_of 71 = .ok (.iload_n 1, 1) := by decide +kernel
theorem dd_M_of_72 : decode cc_M_of 72 = .ok (.iconst 3, 1) := by decide +kernel
theorem dd_M_of_73 : decode cc_M_of 73 = .ok (.if_icmp .ne 10, 3) := by decide +kernel
theorem dd_M_of_76 : decode cc_M_of 76 = .ok (.aload_n 0, 1) := by decide +kernel
theorem dd_M_of_77 : decode cc_M_of 77 = .ok (.getfield 102, 3) := by decide +kernel
theorem dd_M_of_80 : decode cc_M_of 80 = .ok (.goto 4, 3) := by decide +kernel
theorem dd_M_of_83 : decode cc_M_of 83 = .ok (.iconst (-1), 1) := by decide +kernel
theorem dd_M_of_84 : decode cc_M_of 84 = .ok (.ireturn, 1) := by decide +kernel
theorem dd_M_isIn_0 : decode cc_M_isIn 0 = .ok (.aload_n 0, 1) := by decide +kernel
theorem dd_M_isIn_1 : decode cc_M_isIn 1 = .ok (.getfield 95, 3) := by decide +kernel
theorem dd_M_isIn_4 : decode cc_M_isIn 4 = .ok (.ifCond .eq 19, 3) := by decide +kernel
theorem dd_M_isIn_7 : decode cc_M_isIn 7 = .ok (.iload_n 1, 1) := by decide +kernel
theorem dd_M_isIn_8 : decode cc_M_isIn 8 = .ok (.ifCond .lt 15, 3) := by decide +kernel
theorem dd_M_isIn_11 : decode cc_M_isIn 11 = .ok (.iload_n 1, 1) := by decide +kernel
theorem dd_M_isIn_12 : decode cc_M_isIn 12 = .ok (.aload_n 0, 1) := by decide +kernel
theorem dd_M_isIn_13 : decode cc_M_isIn 13 = .ok (.getfield 102, 3) := by decide +kernel
theorem dd_M_isIn_16 : decode cc_M_isIn 16 = .ok (.if_icmp .ge 7, 3) := by decide +kernel
theorem dd_M_isIn_19 : decode cc_M_isIn 19 = .ok (.iconst 1, 1) := by decide +kernel
theorem dd_M_isIn_20 : decode cc_M_isIn 20 = .ok (.goto 4, 3) := by decide +kernel
theorem dd_M_isIn_23 : decode cc_M_isIn 23 = .ok (.iconst 0, 1) := by decide +kernel
theorem dd_M_isIn_24 : decode cc_M_isIn 24 = .ok (.ireturn, 1) := by decide +kernel
theorem dd_M_operation_0 : decode cc_M_operation 0 = .ok (.aload_n 0, 1) := by decide +kernel
theorem dd_M_operation_1 : decode cc_M_operation 1 = .ok (.aload_n 0, 1) := by decide +kernel
theorem dd_M_operation_2 : decode cc_M_operation 2 = .ok (.iload_n 1, 1) := by decide +kernel
theorem dd_M_operation_3 : decode cc_M_operation 3 = .ok (.invokevirtual 224, 3) := by decide +kernel
theorem dd_M_operation_6 : decode cc_M_operation 6 = .ok (.ifCond .eq 16, 3) := by decide +kernel
theorem dd_M_operation_9 : decode cc_M_operation 9 = .ok (.iload_n 2, 1) := by decide +kernel
theorem dd_M_operation_10 : decode cc_M_operation 10 = .ok (.ifCond .lt 12, 3) := by decide +kernel
theorem dd_M_operation_13 : decode cc_M_operation 13 = .ok (.iload_n 2, 1) := by decide +kernel
theorem dd_M_operation_14 : decode cc_M_operation 14 = .ok (.iconst 4, 1) := by decide +kernel
theorem dd_M_operation_15 : decode cc_M_operation 15 = .ok (.if_icmp .gt 7, 3) := by decide +kernel
theorem dd_M_operation_18 : decode cc_M_operation 18 = .ok (.iconst 0, 1) := by decide +kernel
theorem dd_M_operation_19 : decode cc_M_operation 19 = .ok (.goto 4, 3) := by decide +kernel
theorem dd_M_operation_22 : decode cc_M_operation 22 = .ok (.iconst 1, 1) := by decide +kernel
theorem dd_M_operation_23 : decode cc_M_operation 23 = .ok (.putfield 61, 3) := by decide +kernel
theorem dd_M_operation_26 : decode cc_M_operation 26 = .ok (.aload_n 0, 1) := by decide +kernel
theorem dd_M_operation_27 : decode cc_M_operation 27 = .ok (.getfield 61, 3) := by decide +kernel
theorem dd_M_operation_30 : decode cc_M_operation 30 = .ok (.ifCond .le 5, 3) := by decide +kernel
theorem dd_M_operation_33 : decode cc_M_operation 33 = .ok (.iconst 0, 1) := by decide +kernel
theorem dd_M_operation_34 : decode cc_M_operation 34 = .ok (.ireturn, 1) := by decide +kernel
theorem dd_M_operation_35 : decode cc_M_operation 35 = .ok (.iload_n 2, 1) := by decide +kernel
theorem dd_M_operation_36 : decode cc_M_operation 36 = .ok (.ifCond .ne 12, 3) := by decide +kernel
theorem dd_M_operation_39 : decode cc_M_operation 39 = .ok (.aload_n 0, 1) := by decide +kernel
theorem dd_M_operation_40 : decode cc_M_operation 40 = .ok (.getfield 13, 3) := by decide +kernel
theorem dd_M_operation_43 : decode cc_M_operation 43 = .ok (.iload_n 1, 1) := by decide +kernel
theorem dd_M_operation_44 : decode cc_M_operation 44 = .ok (.iaload, 1) := by decide +kernel
theorem dd_M_operation_45 : decode cc_M_operation 45 = .ok (.goto 50, 3) := by decide +kernel
theorem dd_M_operation_48 : decode cc_M_operation 48 = .ok (.iload_n 2, 1) := by decide +kernel
theorem dd_M_operation_49 : decode cc_M_operation 49 = .ok (.iconst 1, 1) := by decide +kernel
theorem dd_M_operation_50 : decode cc_M_operation 50 = .ok (.if_icmp .ne 12, 3) := by decide +kernel
theorem dd_M_operation_53 : decode cc_M_operation 53 = .ok (.aload_n 0, 1) := by decide +kernel
theorem dd_M_operation_54 : decode cc_M_operation 54 = .ok (.getfield 16, 3) := by decide +kernel
theorem dd_M_operation_57 : decode cc_M_operation 57 = .ok (.iload_n 1, 1) := by decide +kernel
theorem dd_M_operation_58 : decode cc_M_operation 58 = .ok (.iaload, 1) := by decide +kernel
theorem dd_M_operation_59 : decode cc_M_operation 59 = .ok (.goto 36, 3) := by decide +kernel
theorem dd_M_operation_62 : decode cc_M_operation 62 = .ok (.iload_n 2, 1) := by decide +kernel
theorem dd_M_operation_63 : decode cc_M_operation 63 = .ok (.iconst 2, 1) := by decide +kernel
theorem dd_M_operation_64 : decode cc_M_operation 64 = .ok (.if_icmp .ne 12, 3) := by decide +kernel
theorem dd_M_operation_67 : decode cc_M_operation 67 = .ok (.aload_n 0, 1) := by decide +kernel
theorem dd_M_operation_68 : decode cc_M_operation 68 = .ok (.getfield 23, 3) := by decide +kernel
theorem dd_M_operation_71 : decode cc_M_operation 71 = .ok (.iload_n 1, 1) := by decide +kernel
theorem dd_M_operation_72 : decode cc_M_operation 72 = .ok (.iaload, 1) := by decide +kernel
theorem dd_M_operation_73 : decode cc_M_operation 73 = .ok (.goto 22, 3) := by decide +kernel
theorem dd_M_operation_76 : decode cc_M_operation 76 = .ok (.iload_n 2, 1) := by decide +kernel
theorem dd_M_operation_77 : decode cc_M_operation 77 = .ok (.iconst 3, 1) := by decide +kernel
theorem dd_M_operation_78 : decode cc_M_operation 78 = .ok (.if_icmp .ne 12, 3) := by decide +kernel
theorem dd_M_operation_81 : decode cc_M_operation 81 = .ok (.aload_n 0, 1) := by decide +kernel
theorem dd_M_operation_82 : decode cc_M_operation 82 = .ok (.getfield 26, 3) := by decide +kernel
theorem dd_M_operation_85 : decode cc_M_operation 85 = .ok (.iload_n 1, 1) := by decide +kernel
theorem dd_M_operation_86 : decode cc_M_operation 86 = .ok (.iaload, 1) := by decide +kernel
theorem dd_M_operation_87 : decode cc_M_operation 87 = .ok (.goto 8, 3) := by decide +kernel
theorem dd_M_operation_90 : decode cc_M_operation 90 = .ok (.aload_n 0, 1) := by decide +kernel
theorem dd_M_operation_91 : decode cc_M_operation 91 = .ok (.iload_n 1, 1) := by decide +kernel
theorem dd_M_operation_92 : decode cc_M_operation 92 = .ok (.invokevirtual 105, 3) := by decide +kernel
theorem dd_M_operation_95 : decode cc_M_operation 95 = .ok (.ireturn, 1) := by decide +kernel
theorem dd_M_key_0 : decode cc_M_key 0 = .ok (.aload_n 0, 1) := by decide +kernel
theorem dd_M_key_1 : decode cc_M_key 1 = .ok (.aload_n 0, 1) := by decide +kernel
theorem dd_M_key_2 : decode cc_M_key 2 = .ok (.iload_n 1, 1) := by decide +kernel
theorem dd_M_key_3 : decode cc_M_key 3 = .ok (.invokevirtual 224, 3) := by decide +kernel
theorem dd_M_key_6 : decode cc_M_key 6 = .ok (.ifCond .eq 7, 3) := by decide +kernel
theorem dd_M_key_9 : decode cc_M_key 9 = .ok (.iconst 0, 1) := by decide +kernel
theorem dd_M_key_10 : decode cc_M_key 10 = .ok (.goto 4, 3) := by decide +kernel
theorem dd_M_key_13 : decode cc_M_key 13 = .ok (.iconst 1, 1) := by decide +kernel
theorem dd_M_key_14 : decode cc_M_key 14 = .ok (.putfield 61, 3) := by decide +kernel
theorem dd_M_key_17 : decode cc_M_key 17 = .ok (.aload_n 0, 1) := by decide +kernel
theorem dd_M_key_18 : decode cc_M_key 18 = .ok (.getfield 61, 3) := by decide +kernel
theorem dd_M_key_21 : decode cc_M_key 21 = .ok (.ifCond .le 7, 3) := by decide +kernel
theorem dd_M_key_24 : decode cc_M_key 24 = .ok (.lconst 0, 1) := by decide +kernel
theorem dd_M_key_25 : decode cc_M_key 25 = .ok (.goto 9, 3) := by decide +kernel
theorem dd_M_key_28 : decode cc_M_key 28 = .ok (.aload_n 0, 1) := by decide +kernel
theorem dd_M_key_29 : decode cc_M_key 29 = .ok (.getfield 19, 3) := by decide +kernel
theorem dd_M_key_32 : decode cc_M_key 32 = .ok (.iload_n 1, 1) := by decide +kernel
theorem dd_M_key_33 : decode cc_M_key 33 = .ok (.laload, 1) := by decide +kernel
theorem dd_M_key_34 : decode cc_M_key 34 = .ok (.lreturn, 1) := by decide +kernel
theorem dd_M_output_0 : decode cc_M_output 0 = .ok (.aload_n 0, 1) := by decide +kernel
theorem dd_M_output_1 : decode cc_M_output 1 = .ok (.iconst 0, 1) := by decide +kernel
theorem dd_M_output_2 : decode cc_M_output 2 = .ok (.putfield 61, 3) := by decide +kernel
theorem dd_M_output_5 : decode cc_M_output 5 = .ok (.iload_n 1, 1) := by decide +kernel
theorem dd_M_output_6 : decode cc_M_output 6 = .ok (.ifCond .lt 11, 3) := by decide +kernel
theorem dd_M_output_9 : decode cc_M_output 9 = .ok (.iload_n 1, 1) := by decide +kernel
theorem dd_M_output_10 : decode cc_M_output 10 = .ok (.aload_n 0, 1) := by decide +kernel
theorem dd_M_output_11 : decode cc_M_output 11 = .ok (.getfield 149, 3) := by decide +kernel
theorem dd_M_output_14 : decode cc_M_output 14 = .ok (.if_icmp .lt 7, 3) := by decide +kernel
theorem dd_M_output_17 : decode cc_M_output 17 = .ok (.iconst (-1), 1) := by decide +kernel
theorem dd_M_output_18 : decode cc_M_output 18 = .ok (.goto 13, 3) := by decide +kernel
theorem dd_M_output_21 : decode cc_M_output 21 = .ok (.aload_n 0, 1) := by decide +kernel
theorem dd_M_output_22 : decode cc_M_output 22 = .ok (.getfield 47, 3) := by decide +kernel
theorem dd_M_output_25 : decode cc_M_output 25 = .ok (.iload_n 1, 1) := by decide +kernel
theorem dd_M_output_26 : decode cc_M_output 26 = .ok (.baload, 1) := by decide +kernel
theorem dd_M_output_27 : decode cc_M_output 27 = .ok (.sipush 255, 3) := by decide +kernel
theorem dd_M_output_30 : decode cc_M_output 30 = .ok (.iand, 1) := by decide +kernel
theorem dd_M_output_31 : decode cc_M_output 31 = .ok (.ireturn, 1) := by decide +kernel
theorem dd_M_look_0 : decode cc_M_look 0 = .ok (.aload_n 0, 1) := by decide +kernel
theorem dd_M_look_1 : decode cc_M_look 1 = .ok (.iconst 0, 1) := by decide +kernel
theorem dd_M_look_2 : decode cc_M_look 2 = .ok (.putfield 61, 3) := by decide +kernel
theorem dd_M_look_5 : decode cc_M_look 5 = .ok (.iload_n 1, 1) := by decide +kernel
theorem dd_M_look_6 : decode cc_M_look 6 = .ok (.ifCond .ne 10, 3) := by decide +kernel
theorem dd_M_look_9 : decode cc_M_look 9 = .ok (.aload_n 0, 1) := by decide +kernel
theorem dd_M_look_10 : decode cc_M_look 10 = .ok (.getfield 149, 3) := by decide +kernel
theorem dd_M_look_13 : decode cc_M_look 13 = .ok (.goto 52, 3) := by decide +kernel
theorem dd_M_look_16 : decode cc_M_look 16 = .ok (.iload_n 1, 1) := by decide +kernel
theorem dd_M_look_17 : decode cc_M_look 17 = .ok (.iconst 1, 1) := by decide +kernel
theorem dd_M_look_18 : decode cc_M_look 18 = .ok (.if_icmp .ne 10, 3) := by decide +kernel
theorem dd_M_look_21 : decode cc_M_look 21 = .ok (.aload_n 0, 1) := by decide +kernel
theorem dd_M_look_22 : decode cc_M_look 22 = .ok (.getfield 156, 3) := by decide +kernel
theorem dd_M_look_25 : decode cc_M_look 25 = .ok (.goto 40, 3) := by decide +kernel
theorem dd_M_look_28 : decode cc_M_look 28 = .ok (.iload_n 1, 1) := by decide +kernel
theorem dd_M_look_29 : decode cc_M_look 29 = .ok (.iconst 2, 1) := by decide +kernel
theorem dd_M_look_30 : decode cc_M_look 30 = .ok (.if_icmp .ne 10, 3) := by decide +kernel
theorem dd_M_look_33 : decode cc_M_look 33 = .ok (.aload_n 0, 1) := by decide +kernel
theorem dd_M_look_34 : decode cc_M_look 34 = .ok (.getfield 159, 3) := by decide +kernel
theorem dd_M_look_37 : decode cc_M_look 37 = .ok (.goto 28, 3) := by decide +kernel
theorem dd_M_look_40 : decode cc_M_look 40 = .ok (.iload_n 1, 1) := by decide +kernel
theorem dd_M_look_41 : decode cc_M_look 41 = .ok (.iconst 3, 1) := by decide +kernel
theorem dd_M_look_42 : decode cc_M_look 42 = .ok (.if_icmp .ne 10, 3) := by decide +kernel
theorem dd_M_look_45 : decode cc_M_look 45 = .ok (.aload_n 0, 1) := by decide +kernel
theorem dd_M_look_46 : decode cc_M_look 46 = .ok (.getfield 162, 3) := by decide +kernel
theorem dd_M_look_49 : decode cc_M_look 49 = .ok (.goto 16, 3) := by decide +kernel
theorem dd_M_look_52 : decode cc_M_look 52 = .ok (.iload_n 1, 1) := by decide +kernel
theorem dd_M_look_53 : decode cc_M_look 53 = .ok (.iconst 4, 1) := by decide +kernel
theorem dd_M_look_54 : decode cc_M_look 54 = .ok (.if_icmp .ne 10, 3) := by decide +kernel
theorem dd_M_look_57 : decode cc_M_look 57 = .ok (.aload_n 0, 1) := by decide +kernel
theorem dd_M_look_58 : decode cc_M_look 58 = .ok (.getfield 54, 3) := by decide +kernel
theorem dd_M_look_61 : decode cc_M_look 61 = .ok (.goto 4, 3) := by decide +kernel
theorem dd_M_look_64 : decode cc_M_look 64 = .ok (.iconst (-1), 1) := by decide +kernel
theorem dd_M_look_65 : decode cc_M_look 65 = .ok (.ireturn, 1) := by decide +kernel

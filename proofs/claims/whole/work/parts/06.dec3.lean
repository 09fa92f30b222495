theorem d_Mo_init_0 : decode c_Mo_init 0 = .ok (.aload_n 0, 1) := by decide +kernel
theorem d_Mo_init_1 : decode c_Mo_init 1 = .ok (.invokespecial 1, 3) := by decide +kernel
theorem d_Mo_init_4 : decode c_Mo_init 4 = .ok (.aload_n 0, 1) := by decide +kernel
theorem d_Mo_init_5 : decode c_Mo_init 5 = .ok (.sipush 200, 3) := by decide +kernel
theorem d_Mo_init_8 : decode c_Mo_init 8 = .ok (.newarray .byte, 2) := by decide +kernel
theorem d_Mo_init_10 : decode c_Mo_init 10 = .ok (.putfield 7, 3) := by decide +kernel
theorem d_Mo_init_13 : decode c_Mo_init 13 = .ok (.aload_n 0, 1) := by decide +kernel
theorem d_Mo_init_14 : decode c_Mo_init 14 = .ok (.bipush 64, 2) := by decide +kernel
theorem d_Mo_init_16 : decode c_Mo_init 16 = .ok (.newarray .byte, 2) := by decide +kernel
theorem d_Mo_init_18 : decode c_Mo_init 18 = .ok (.putfield 13, 3) := by decide +kernel
theorem d_Mo_init_21 : decode c_Mo_init 21 = .ok (.aload_n 0, 1) := by decide +kernel
theorem d_Mo_init_22 : decode c_Mo_init 22 = .ok (.bipush 8, 2) := by decide +kernel
theorem d_Mo_init_24 : decode c_Mo_init 24 = .ok (.newarray .int, 2) := by decide +kernel
theorem d_Mo_init_26 : decode c_Mo_init 26 = .ok (.putfield 16, 3) := by decide +kernel
theorem d_Mo_init_29 : decode c_Mo_init 29 = .ok (.aload_n 0, 1) := by decide +kernel
theorem d_Mo_init_30 : decode c_Mo_init 30 = .ok (.bipush 8, 2) := by decide +kernel
theorem d_Mo_init_32 : decode c_Mo_init 32 = .ok (.newarray .boolean, 2) := by decide +kernel
theorem d_Mo_init_34 : decode c_Mo_init 34 = .ok (.putfield 20, 3) := by decide +kernel
theorem d_Mo_init_37 : decode c_Mo_init 37 = .ok (.aload_n 0, 1) := by decide +kernel
theorem d_Mo_init_38 : decode c_Mo_init 38 = .ok (.sipush 200, 3) := by decide +kernel
theorem d_Mo_init_41 : decode c_Mo_init 41 = .ok (.newarray .byte, 2) := by decide +kernel
theorem d_Mo_init_43 : decode c_Mo_init 43 = .ok (.putfield 24, 3) := by decide +kernel
theorem d_Mo_init_46 : decode c_Mo_init 46 = .ok (.aload_n 0, 1) := by decide +kernel
theorem d_Mo_init_47 : decode c_Mo_init 47 = .ok (.sipush 160, 3) := by decide +kernel
theorem d_Mo_init_50 : decode c_Mo_init 50 = .ok (.newarray .int, 2) := by decide +kernel
theorem d_Mo_init_52 : decode c_Mo_init 52 = .ok (.putfield 27, 3) := by decide +kernel
theorem d_Mo_init_55 : decode c_Mo_init 55 = .ok (.aload_n 0, 1) := by decide +kernel
theorem d_Mo_init_56 : decode c_Mo_init 56 = .ok (.bipush 40, 2) := by decide +kernel
theorem d_Mo_init_58 : decode c_Mo_init 58 = .ok (.newarray .int, 2) := by decide +kernel
theorem d_Mo_init_60 : decode c_Mo_init 60 = .ok (.putfield 30, 3) := by decide +kernel
theorem d_Mo_init_63 : decode c_Mo_init 63 = .ok (.aload_n 0, 1) := by decide +kernel
theorem d_Mo_init_64 : decode c_Mo_init 64 = .ok (.bipush 80, 2) := by decide +kernel
theorem d_Mo_init_66 : decode c_Mo_init 66 = .ok (.newarray .int, 2) := by decide +kernel
theorem d_Mo_init_68 : decode c_Mo_init 68 = .ok (.putfield 33, 3) := by decide +kernel
theorem d_Mo_init_71 : decode c_Mo_init 71 = .ok (.aload_n 0, 1) := by decide +kernel
theorem d_Mo_init_72 : decode c_Mo_init 72 = .ok (.sipush 1760, 3) := by decide +kernel
theorem d_Mo_init_75 : decode c_Mo_init 75 = .ok (.newarray .int, 2) := by decide +kernel
theorem d_Mo_init_77 : decode c_Mo_init 77 = .ok (.putfield 36, 3) := by decide +kernel
theorem d_Mo_init_80 : decode c_Mo_init 80 = .ok (.aload_n 0, 1) := by decide +kernel
theorem d_Mo_init_81 : decode c_Mo_init 81 = .ok (.bipush 11, 2) := by decide +kernel
theorem d_Mo_init_83 : decode c_Mo_init 83 = .ok (.newarray .int, 2) := by decide +kernel
theorem d_Mo_init_85 : decode c_Mo_init 85 = .ok (.putfield 39, 3) := by decide +kernel
theorem d_Mo_init_88 : decode c_Mo_init 88 = .ok (.aload_n 0, 1) := by decide +kernel
theorem d_Mo_init_89 : decode c_Mo_init 89 = .ok (.bipush 10, 2) := by decide +kernel
theorem d_Mo_init_91 : decode c_Mo_init 91 = .ok (.newarray .boolean, 2) := by decide +kernel
theorem d_Mo_init_93 : decode c_Mo_init 93 = .ok (.putfield 42, 3) := by decide +kernel
theorem d_Mo_init_96 : decode c_Mo_init 96 = .ok (.aload_n 0, 1) := by decide +kernel
theorem d_Mo_init_97 : decode c_Mo_init 97 = .ok (.bipush 10, 2) := by decide +kernel
theorem d_Mo_init_99 : decode c_Mo_init 99 = .ok (.newarray .long, 2) := by decide +kernel
theorem d_Mo_init_101 : decode c_Mo_init 101 = .ok (.putfield 45, 3) := by decide +kernel
theorem d_Mo_init_104 : decode c_Mo_init 104 = .ok (.aload_n 0, 1) := by decide +kernel
theorem d_Mo_init_105 : decode c_Mo_init 105 = .ok (.bipush 61, 2) := by decide +kernel
theorem d_Mo_init_107 : decode c_Mo_init 107 = .ok (.newarray .long, 2) := by decide +kernel
theorem d_Mo_init_109 : decode c_Mo_init 109 = .ok (.putfield 49, 3) := by decide +kernel
theorem d_Mo_init_112 : decode c_Mo_init 112 = .ok (.aload_n 0, 1) := by decide +kernel
theorem d_Mo_init_113 : decode c_Mo_init 113 = .ok (.sipush 976, 3) := by decide +kernel
theorem d_Mo_init_116 : decode c_Mo_init 116 = .ok (.newarray .int, 2) := by decide +kernel
theorem d_Mo_init_118 : decode c_Mo_init 118 = .ok (.putfield 52, 3) := by decide +kernel
theorem d_Mo_init_121 : decode c_Mo_init 121 = .ok (.aload_n 0, 1) := by decide +kernel
theorem d_Mo_init_122 : decode c_Mo_init 122 = .ok (.bipush 61, 2) := by decide +kernel
theorem d_Mo_init_124 : decode c_Mo_init 124 = .ok (.newarray .int, 2) := by decide +kernel
theorem d_Mo_init_126 : decode c_Mo_init 126 = .ok (.putfield 55, 3) := by decide +kernel
theorem d_Mo_init_129 : decode c_Mo_init 129 = .ok (.aload_n 0, 1) := by decide +kernel
theorem d_Mo_init_130 : decode c_Mo_init 130 = .ok (.bipush 41, 2) := by decide +kernel
theorem d_Mo_init_132 : decode c_Mo_init 132 = .ok (.newarray .boolean, 2) := by decide +kernel
theorem d_Mo_init_134 : decode c_Mo_init 134 = .ok (.putfield 58, 3) := by decide +kernel
theorem d_Mo_init_137 : decode c_Mo_init 137 = .ok (.aload_n 0, 1) := by decide +kernel
theorem d_Mo_init_138 : decode c_Mo_init 138 = .ok (.bipush 60, 2) := by decide +kernel
theorem d_Mo_init_140 : decode c_Mo_init 140 = .ok (.newarray .int, 2) := by decide +kernel
theorem d_Mo_init_142 : decode c_Mo_init 142 = .ok (.putfield 61, 3) := by decide +kernel
theorem d_Mo_init_145 : decode c_Mo_init 145 = .ok (.aload_n 0, 1) := by decide +kernel
theorem d_Mo_init_146 : decode c_Mo_init 146 = .ok (.bipush 9, 2) := by decide +kernel
theorem d_Mo_init_148 : decode c_Mo_init 148 = .ok (.newarray .int, 2) := by decide +kernel
theorem d_Mo_init_150 : decode c_Mo_init 150 = .ok (.putfield 64, 3) := by decide +kernel
theorem d_Mo_init_153 : decode c_Mo_init 153 = .ok (.aload_n 0, 1) := by decide +kernel
theorem d_Mo_init_154 : decode c_Mo_init 154 = .ok (.bipush 9, 2) := by decide +kernel
theorem d_Mo_init_156 : decode c_Mo_init 156 = .ok (.newarray .int, 2) := by decide +kernel
theorem d_Mo_init_158 : decode c_Mo_init 158 = .ok (.putfield 67, 3) := by decide +kernel
theorem d_Mo_init_161 : decode c_Mo_init 161 = .ok (.return_, 1) := by decide +kernel
theorem d_Mo_sign_0 : decode c_Mo_sign 0 = .ok (.aload_n 0, 1) := by decide +kernel
theorem d_Mo_sign_1 : decode c_Mo_sign 1 = .ok (.iconst 0, 1) := by decide +kernel
theorem d_Mo_sign_2 : decode c_Mo_sign 2 = .ok (.putfield 70, 3) := by decide +kernel
theorem d_Mo_sign_5 : decode c_Mo_sign 5 = .ok (.aload_n 0, 1) := by decide +kernel
theorem d_Mo_sign_6 : decode c_Mo_sign 6 = .ok (.getfield 74, 3) := by decide +kernel
theorem d_Mo_sign_9 : decode c_Mo_sign 9 = .ok (.sipush 200, 3) := by decide +kernel
theorem d_Mo_sign_12 : decode c_Mo_sign 12 = .ok (.if_icmp .ge 24, 3) := by decide +kernel
theorem d_Mo_sign_15 : decode c_Mo_sign 15 = .ok (.aload_n 0, 1) := by decide +kernel
theorem d_Mo_sign_16 : decode c_Mo_sign 16 = .ok (.getfield 7, 3) := by decide +kernel
theorem d_Mo_sign_19 : decode c_Mo_sign 19 = .ok (.aload_n 0, 1) := by decide +kernel
theorem d_Mo_sign_20 : decode c_Mo_sign 20 = .ok (.getfield 74, 3) := by decide +kernel
theorem d_Mo_sign_23 : decode c_Mo_sign 23 = .ok (.iload_n 1, 1) := by decide +kernel
theorem d_Mo_sign_24 : decode c_Mo_sign 24 = .ok (.i2b, 1) := by decide +kernel
theorem d_Mo_sign_25 : decode c_Mo_sign 25 = .ok (.bastore, 1) := by decide +kernel
theorem d_Mo_sign_26 : decode c_Mo_sign 26 = .ok (.aload_n 0, 1) := by decide +kernel
theorem d_Mo_sign_27 : decode c_Mo_sign 27 = .ok (.dup, 1) := by decide +kernel
theorem d_Mo_sign_28 : decode c_Mo_sign 28 = .ok (.getfield 74, 3) := by decide +kernel
theorem d_Mo_sign_31 : decode c_Mo_sign 31 = .ok (.iconst 1, 1) := by decide +kernel
theorem d_Mo_sign_32 : decode c_Mo_sign 32 = .ok (.iadd, 1) := by decide +kernel
theorem d_Mo_sign_33 : decode c_Mo_sign 33 = .ok (.putfield 74, 3) := by decide +kernel
theorem d_Mo_sign_36 : decode c_Mo_sign 36 = .ok (.return_, 1) := by decide +kernel
theorem d_Mo_look_0 : decode c_Mo_look 0 = .ok (.iload_n 1, 1) := by decide +kernel
theorem d_Mo_look_1 : decode c_Mo_look 1 = .ok (.aload_n 0, 1) := by decide +kernel
theorem d_Mo_look_2 : decode c_Mo_look 2 = .ok (.getfield 74, 3) := by decide +kernel
theorem d_Mo_look_5 : decode c_Mo_look 5 = .ok (.if_icmp .ge 16, 3) := by decide +kernel
theorem d_Mo_look_8 : decode c_Mo_look 8 = .ok (.aload_n 0, 1) := by decide +kernel
theorem d_Mo_look_9 : decode c_Mo_look 9 = .ok (.getfield 7, 3) := by decide +kernel
theorem d_Mo_look_12 : decode c_Mo_look 12 = .ok (.iload_n 1, 1) := by decide +kernel
theorem d_Mo_look_13 : decode c_Mo_look 13 = .ok (.baload, 1) := by decide +kernel
theorem d_Mo_look_14 : decode c_Mo_look 14 = .ok (.sipush 255, 3) := by decide +kernel
theorem d_Mo_look_17 : decode c_Mo_look 17 = .ok (.iand, 1) := by decide +kernel
theorem d_Mo_look_18 : decode c_Mo_look 18 = .ok (.goto 4, 3) := by decide +kernel
theorem d_Mo_look_21 : decode c_Mo_look 21 = .ok (.iconst (-1), 1) := by decide +kernel
theorem d_Mo_look_22 : decode c_Mo_look 22 = .ok (.ireturn, 1) := by decide +kernel
theorem d_Mo_isLetter_0 : decode c_Mo_isLetter 0 = .ok (.iload_n 0, 1) := by decide +kernel
theorem d_Mo_isLetter_1 : decode c_Mo_isLetter 1 = .ok (.bipush 97, 2) := by decide +kernel
theorem d_Mo_isLetter_3 : decode c_Mo_isLetter 3 = .ok (.if_icmp .lt 13, 3) := by decide +kernel
theorem d_Mo_isLetter_6 : decode c_Mo_isLetter 6 = .ok (.iload_n 0, 1) := by decide +kernel
theorem d_Mo_isLetter_7 : decode c_Mo_isLetter 7 = .ok (.bipush 122, 2) := by decide +kernel
theorem d_Mo_isLetter_9 : decode c_Mo_isLetter 9 = .ok (.if_icmp .gt 7, 3) := by decide +kernel
theorem d_Mo_isLetter_12 : decode c_Mo_isLetter 12 = .ok (.iconst 1, 1) := by decide +kernel
theorem d_Mo_isLetter_13 : decode c_Mo_isLetter 13 = .ok (.goto 4, 3) := by decide +kernel
theorem d_Mo_isLetter_16 : decode c_Mo_isLetter 16 = .ok (.iconst 0, 1) := by decide +kernel
theorem d_Mo_isLetter_17 : decode c_Mo_isLetter 17 = .ok (.ireturn, 1) := by decide +kernel
theorem d_Mo_isDigit_0 : decode c_Mo_isDigit 0 = .ok (.iload_n 0, 1) := by decide +kernel
theorem d_Mo_isDigit_1 : decode c_Mo_isDigit 1 = .ok (.bipush 48, 2) := by decide +kernel
theorem d_Mo_isDigit_3 : decode c_Mo_isDigit 3 = .ok (.if_icmp .lt 13, 3) := by decide +kernel
theorem d_Mo_isDigit_6 : decode c_Mo_isDigit 6 = .ok (.iload_n 0, 1) := by decide +kernel
theorem d_Mo_isDigit_7 : decode c_Mo_isDigit 7 = .ok (.bipush 57, 2) := by decide +kernel
theorem d_Mo_isDigit_9 : decode c_Mo_isDigit 9 = .ok (.if_icmp .gt 7, 3) := by decide +kernel
theorem d_Mo_isDigit_12 : decode c_Mo_isDigit 12 = .ok (.iconst 1, 1) := by decide +kernel
theorem d_Mo_isDigit_13 : decode c_Mo_isDigit 13 = .ok (.goto 4, 3) := by decide +kernel
theorem d_Mo_isDigit_16 : decode c_Mo_isDigit 16 = .ok (.iconst 0, 1) := by decide +kernel
theorem d_Mo_isDigit_17 : decode c_Mo_isDigit 17 = .ok (.ireturn, 1) := by decide +kernel
theorem d_Mo_letters_0 : decode c_Mo_letters 0 = .ok (.iconst 0, 1) := by decide +kernel
theorem d_Mo_letters_1 : decode c_Mo_letters 1 = .ok (.istore_n 2, 1) := by decide +kernel
theorem d_Mo_letters_2 : decode c_Mo_letters 2 = .ok (.aload_n 0, 1) := by decide +kernel
theorem d_Mo_letters_3 : decode c_Mo_letters 3 = .ok (.iload_n 1, 1) := by decide +kernel
theorem d_Mo_letters_4 : decode c_Mo_letters 4 = .ok (.iload_n 2, 1) := by decide +kernel
theorem d_Mo_letters_5 : decode c_Mo_letters 5 = .ok (.iadd, 1) := by decide +kernel
theorem d_Mo_letters_6 : decode c_Mo_letters 6 = .ok (.invokevirtual 77, 3) := by decide +kernel
theorem d_Mo_letters_9 : decode c_Mo_letters 9 = .ok (.invokestatic 81, 3) := by decide +kernel
theorem d_Mo_letters_12 : decode c_Mo_letters 12 = .ok (.ifCond .eq 9, 3) := by decide +kernel
theorem d_Mo_letters_15 : decode c_Mo_letters 15 = .ok (.iinc 2 1, 3) := by decide +kernel
theorem d_Mo_letters_18 : decode c_Mo_letters 18 = .ok (.goto (-16), 3) := by decide +kernel
theorem d_Mo_letters_21 : decode c_Mo_letters 21 = .ok (.iload_n 2, 1) := by decide +kernel
theorem d_Mo_letters_22 : decode c_Mo_letters 22 = .ok (.ireturn, 1) := by decide +kernel
theorem d_Mo_named_0 : decode c_Mo_named 0 = .ok (.iconst 0, 1) := by decide +kernel
theorem d_Mo_named_1 : decode c_Mo_named 1 = .ok (.istore_n 3, 1) := by decide +kernel
theorem d_Mo_named_2 : decode c_Mo_named 2 = .ok (.iload_n 3, 1) := by decide +kernel
theorem d_Mo_named_3 : decode c_Mo_named 3 = .ok (.aload_n 0, 1) := by decide +kernel
theorem d_Mo_named_4 : decode c_Mo_named 4 = .ok (.getfield 85, 3) := by decide +kernel
theorem d_Mo_named_7 : decode c_Mo_named 7 = .ok (.if_icmp .ge 84, 3) := by decide +kernel
theorem d_Mo_named_10 : decode c_Mo_named 10 = .ok (.aload_n 0, 1) := by decide +kernel
theorem d_Mo_named_11 : decode c_Mo_named 11 = .ok (.getfield 16, 3) := by decide +kernel
theorem d_Mo_named_14 : decode c_Mo_named 14 = .ok (.iload_n 3, 1) := by decide +kernel
theorem d_Mo_named_15 : decode c_Mo_named 15 = .ok (.iaload, 1) := by decide +kernel
theorem d_Mo_named_16 : decode c_Mo_named 16 = .ok (.iload_n 2, 1) := by decide +kernel
theorem d_Mo_named_17 : decode c_Mo_named 17 = .ok (.if_icmp .ne 7, 3) := by decide +kernel
theorem d_Mo_named_20 : decode c_Mo_named 20 = .ok (.iconst 1, 1) := by decide +kernel
theorem d_Mo_named_21 : decode c_Mo_named 21 = .ok (.goto 4, 3) := by decide +kernel
theorem d_Mo_named_24 : decode c_Mo_named 24 = .ok (.iconst 0, 1) := by decide +kernel
theorem d_Mo_named_25 : decode c_Mo_named 25 = .ok (.istore 4, 2) := by decide +kernel
theorem d_Mo_named_27 : decode c_Mo_named 27 = .ok (.iconst 0, 1) := by decide +kernel
theorem d_Mo_named_28 : decode c_Mo_named 28 = .ok (.istore 5, 2) := by decide +kernel
theorem d_Mo_named_30 : decode c_Mo_named 30 = .ok (.iload 5, 2) := by decide +kernel
theorem d_Mo_named_32 : decode c_Mo_named 32 = .ok (.iload_n 2, 1) := by decide +kernel
theorem d_Mo_named_33 : decode c_Mo_named 33 = .ok (.if_icmp .ge 45, 3) := by decide +kernel
theorem d_Mo_named_36 : decode c_Mo_named 36 = .ok (.iload 4, 2) := by decide +kernel
theorem d_Mo_named_38 : decode c_Mo_named 38 = .ok (.ifCond .eq 40, 3) := by decide +kernel
theorem d_Mo_named_41 : decode c_Mo_named 41 = .ok (.aload_n 0, 1) := by decide +kernel
theorem d_Mo_named_42 : decode c_Mo_named 42 = .ok (.getfield 13, 3) := by decide +kernel
theorem d_Mo_named_45 : decode c_Mo_named 45 = .ok (.bipush 8, 2) := by decide +kernel
theorem d_Mo_named_47 : decode c_Mo_named 47 = .ok (.iload_n 3, 1) := by decide +kernel
theorem d_Mo_named_48 : decode c_Mo_named 48 = .ok (.imul, 1) := by decide +kernel
theorem d_Mo_named_49 : decode c_Mo_named 49 = .ok (.iload 5, 2) := by decide +kernel
theorem d_Mo_named_51 : decode c_Mo_named 51 = .ok (.iadd, 1) := by decide +kernel
theorem d_Mo_named_52 : decode c_Mo_named 52 = .ok (.baload, 1) := by decide +kernel
theorem d_Mo_named_53 : decode c_Mo_named 53 = .ok (.aload_n 0, 1) := by decide +kernel
theorem d_Mo_named_54 : decode c_Mo_named 54 = .ok (.getfield 7, 3) := by decide +kernel
theorem d_Mo_named_57 : decode c_Mo_named 57 = .ok (.iload_n 1, 1) := by decide +kernel
theorem d_Mo_named_58 : decode c_Mo_named 58 = .ok (.iload 5, 2) := by decide +kernel
theorem d_Mo_named_60 : decode c_Mo_named 60 = .ok (.iadd, 1) := by decide +kernel
theorem d_Mo_named_61 : decode c_Mo_named 61 = .ok (.baload, 1) := by decide +kernel
theorem d_Mo_named_62 : decode c_Mo_named 62 = .ok (.if_icmp .ne 7, 3) := by decide +kernel
theorem d_Mo_named_65 : decode c_Mo_named 65 = .ok (.iconst 1, 1) := by decide +kernel
theorem d_Mo_named_66 : decode c_Mo_named 66 = .ok (.goto 4, 3) := by decide +kernel
theorem d_Mo_named_69 : decode c_Mo_named 69 = .ok (.iconst 0, 1) := by decide +kernel
theorem d_Mo_named_70 : decode c_Mo_named 70 = .ok (.istore 4, 2) := by decide +kernel
theorem d_Mo_named_72 : decode c_Mo_named 72 = .ok (.iinc 5 1, 3) := by decide +kernel
theorem d_Mo_named_75 : decode c_Mo_named 75 = .ok (.goto (-45), 3) := by decide +kernel
theorem d_Mo_named_78 : decode c_Mo_named 78 = .ok (.iload 4, 2) := by decide +kernel
theorem d_Mo_named_80 : decode c_Mo_named 80 = .ok (.ifCond .eq 5, 3) := by decide +kernel
theorem d_Mo_named_83 : decode c_Mo_named 83 = .ok (.iload_n 3, 1) := by decide +kernel
theorem d_Mo_named_84 : decode c_Mo_named 84 = .ok (.ireturn, 1) := by decide +kernel
theorem d_Mo_named_85 : decode c_Mo_named 85 = .ok (.iinc 3 1, 3) := by decide +kernel
theorem d_Mo_named_88 : decode c_Mo_named 88 = .ok (.goto (-86), 3) := by decide +kernel
theorem d_Mo_named_91 : decode c_Mo_named 91 = .ok (.iconst (-1), 1) := by decide +kernel
theorem d_Mo_named_92 : decode c_Mo_named 92 = .ok (.ireturn, 1) := by decide +kernel
theorem d_Mo_word_0 : decode c_Mo_word 0 = .ok (.aload_n 0, 1) := by decide +kernel
theorem d_Mo_word_1 : decode c_Mo_word 1 = .ok (.iload_n 1, 1) := by decide +kernel
theorem d_Mo_word_2 : decode c_Mo_word 2 = .ok (.invokevirtual 77, 3) := by decide +kernel
theorem d_Mo_word_5 : decode c_Mo_word 5 = .ok (.istore_n 3, 1) := by decide +kernel
theorem d_Mo_word_6 : decode c_Mo_word 6 = .ok (.aload_n 0, 1) := by decide +kernel
theorem d_Mo_word_7 : decode c_Mo_word 7 = .ok (.iload_n 1, 1) := by decide +kernel
theorem d_Mo_word_8 : decode c_Mo_word 8 = .ok (.iconst 1, 1) := by decide +kernel
theorem d_Mo_word_9 : decode c_Mo_word 9 = .ok (.iadd, 1) := by decide +kernel
theorem d_Mo_word_10 : decode c_Mo_word 10 = .ok (.invokevirtual 77, 3) := by decide +kernel
theorem d_Mo_word_13 : decode c_Mo_word 13 = .ok (.istore 4, 2) := by decide +kernel
theorem d_Mo_word_15 : decode c_Mo_word 15 = .ok (.aload_n 0, 1) := by decide +kernel
theorem d_Mo_word_16 : decode c_Mo_word 16 = .ok (.iload_n 1, 1) := by decide +kernel
theorem d_Mo_word_17 : decode c_Mo_word 17 = .ok (.iconst 2, 1) := by decide +kernel
theorem d_Mo_word_18 : decode c_Mo_word 18 = .ok (.iadd, 1) := by decide +kernel
theorem d_Mo_word_19 : decode c_Mo_word 19 = .ok (.invokevirtual 77, 3) := by decide +kernel
theorem d_Mo_word_22 : decode c_Mo_word 22 = .ok (.istore 5, 2) := by decide +kernel
theorem d_Mo_word_24 : decode c_Mo_word 24 = .ok (.iload_n 2, 1) := by decide +kernel
theorem d_Mo_word_25 : decode c_Mo_word 25 = .ok (.iconst 3, 1) := by decide +kernel
theorem d_Mo_word_26 : decode c_Mo_word 26 = .ok (.if_icmp .ne 27, 3) := by decide +kernel
theorem d_Mo_word_29 : decode c_Mo_word 29 = .ok (.iload_n 3, 1) := by decide +kernel
theorem d_Mo_word_30 : decode c_Mo_word 30 = .ok (.bipush 97, 2) := by decide +kernel
theorem d_Mo_word_32 : decode c_Mo_word 32 = .ok (.if_icmp .ne 21, 3) := by decide +kernel
theorem d_Mo_word_35 : decode c_Mo_word 35 = .ok (.iload 4, 2) := by decide +kernel
theorem d_Mo_word_37 : decode c_Mo_word 37 = .ok (.bipush 110, 2) := by decide +kernel
theorem d_Mo_word_39 : decode c_Mo_word 39 = .ok (.if_icmp .ne 14, 3) := by decide +kernel
theorem d_Mo_word_42 : decode c_Mo_word 42 = .ok (.iload 5, 2) := by decide +kernel
theorem d_Mo_word_44 : decode c_Mo_word 44 = .ok (.bipush 100, 2) := by decide +kernel
theorem d_Mo_word_46 : decode c_Mo_word 46 = .ok (.if_icmp .ne 7, 3) := by decide +kernel
theorem d_Mo_word_49 : decode c_Mo_word 49 = .ok (.iconst 3, 1) := by decide +kernel
theorem d_Mo_word_50 : decode c_Mo_word 50 = .ok (.goto 55, 3) := by decide +kernel
theorem d_Mo_word_53 : decode c_Mo_word 53 = .ok (.iload_n 2, 1) := by decide +kernel
theorem d_Mo_word_54 : decode c_Mo_word 54 = .ok (.iconst 2, 1) := by decide +kernel
theorem d_Mo_word_55 : decode c_Mo_word 55 = .ok (.if_icmp .ne 20, 3) := by decide +kernel
theorem d_Mo_word_58 : decode c_Mo_word 58 = .ok (.iload_n 3, 1) := by decide +kernel
theorem d_Mo_word_59 : decode c_Mo_word 59 = .ok (.bipush 111, 2) := by decide +kernel
theorem d_Mo_word_61 : decode c_Mo_word 61 = .ok (.if_icmp .ne 14, 3) := by decide +kernel
theorem d_Mo_word_64 : decode c_Mo_word 64 = .ok (.iload 4, 2) := by decide +kernel
theorem d_Mo_word_66 : decode c_Mo_word 66 = .ok (.bipush 114, 2) := by decide +kernel
theorem d_Mo_word_68 : decode c_Mo_word 68 = .ok (.if_icmp .ne 7, 3) := by decide +kernel
theorem d_Mo_word_71 : decode c_Mo_word 71 = .ok (.iconst 4, 1) := by decide +kernel
theorem d_Mo_word_72 : decode c_Mo_word 72 = .ok (.goto 33, 3) := by decide +kernel
theorem d_Mo_word_75 : decode c_Mo_word 75 = .ok (.iload_n 2, 1) := by decide +kernel
theorem d_Mo_word_76 : decode c_Mo_word 76 = .ok (.iconst 3, 1) := by decide +kernel
theorem d_Mo_word_77 : decode c_Mo_word 77 = .ok (.if_icmp .ne 27, 3) := by decide +kernel
theorem d_Mo_word_80 : decode c_Mo_word 80 = .ok (.iload_n 3, 1) := by decide +kernel
theorem d_Mo_word_81 : decode c_Mo_word 81 = .ok (.bipush 110, 2) := by decide +kernel
theorem d_Mo_word_83 : decode c_Mo_word 83 = .ok (.if_icmp .ne 21, 3) := by decide +kernel
theorem d_Mo_word_86 : decode c_Mo_word 86 = .ok (.iload 4, 2) := by decide +kernel
theorem d_Mo_word_88 : decode c_Mo_word 88 = .ok (.bipush 111, 2) := by decide +kernel
theorem d_Mo_word_90 : decode c_Mo_word 90 = .ok (.if_icmp .ne 14, 3) := by decide +kernel
theorem d_Mo_word_93 : decode c_Mo_word 93 = .ok (.iload 5, 2) := by decide +kernel
theorem d_Mo_word_95 : decode c_Mo_word 95 = .ok (.bipush 116, 2) := by decide +kernel
theorem d_Mo_word_97 : decode c_Mo_word 97 = .ok (.if_icmp .ne 7, 3) := by decide +kernel
theorem d_Mo_word_100 : decode c_Mo_word 100 = .ok (.iconst 5, 1) := by decide +kernel
theorem d_Mo_word_101 : decode c_Mo_word 101 = .ok (.goto 4, 3) := by decide +kernel
theorem d_Mo_word_104 : decode c_Mo_word 104 = .ok (.iconst 0, 1) := by decide +kernel
theorem d_Mo_word_105 : decode c_Mo_word 105 = .ok (.ireturn, 1) := by decide +kernel
theorem d_Mo_index_0 : decode c_Mo_index 0 = .ok (.aload_n 0, 1) := by decide +kernel
theorem d_Mo_index_1 : decode c_Mo_index 1 = .ok (.iconst 0, 1) := by decide +kernel
theorem d_Mo_index_2 : decode c_Mo_index 2 = .ok (.putfield 70, 3) := by decide +kernel
theorem d_Mo_index_5 : decode c_Mo_index 5 = .ok (.aload_n 0, 1) := by decide +kernel
theorem d_Mo_index_6 : decode c_Mo_index 6 = .ok (.iconst 0, 1) := by decide +kernel
theorem d_Mo_index_7 : decode c_Mo_index 7 = .ok (.invokevirtual 88, 3) := by decide +kernel
theorem d_Mo_index_10 : decode c_Mo_index 10 = .ok (.istore_n 1, 1) := by decide +kernel
theorem d_Mo_index_11 : decode c_Mo_index 11 = .ok (.iload_n 1, 1) := by decide +kernel
theorem d_Mo_index_12 : decode c_Mo_index 12 = .ok (.ifCond .le 49, 3) := by decide +kernel
theorem d_Mo_index_15 : decode c_Mo_index 15 = .ok (.iload_n 1, 1) := by decide +kernel
theorem d_Mo_index_16 : decode c_Mo_index 16 = .ok (.bipush 9, 2) := by decide +kernel
theorem d_Mo_index_18 : decode c_Mo_index 18 = .ok (.if_icmp .ge 43, 3) := by decide +kernel
theorem d_Mo_index_21 : decode c_Mo_index 21 = .ok (.iload_n 1, 1) := by decide +kernel
theorem d_Mo_index_22 : decode c_Mo_index 22 = .ok (.aload_n 0, 1) := by decide +kernel
theorem d_Mo_index_23 : decode c_Mo_index 23 = .ok (.getfield 74, 3) := by decide +kernel
theorem d_Mo_index_26 : decode c_Mo_index 26 = .ok (.if_icmp .ne 35, 3) := by decide +kernel
theorem d_Mo_index_29 : decode c_Mo_index 29 = .ok (.aload_n 0, 1) := by decide +kernel
theorem d_Mo_index_30 : decode c_Mo_index 30 = .ok (.iconst 0, 1) := by decide +kernel
theorem d_Mo_index_31 : decode c_Mo_index 31 = .ok (.iload_n 1, 1) := by decide +kernel
theorem d_Mo_index_32 : decode c_Mo_index 32 = .ok (.invokevirtual 91, 3) := by decide +kernel
theorem d_Mo_index_35 : decode c_Mo_index 35 = .ok (.ifCond .ne 26, 3) := by decide +kernel
theorem d_Mo_index_38 : decode c_Mo_index 38 = .ok (.aload_n 0, 1) := by decide +kernel
theorem d_Mo_index_39 : decode c_Mo_index 39 = .ok (.iconst 0, 1) := by decide +kernel
theorem d_Mo_index_40 : decode c_Mo_index 40 = .ok (.iload_n 1, 1) := by decide +kernel
theorem d_Mo_index_41 : decode c_Mo_index 41 = .ok (.invokevirtual 95, 3) := by decide +kernel
theorem d_Mo_index_44 : decode c_Mo_index 44 = .ok (.iconst (-1), 1) := by decide +kernel
theorem d_Mo_index_45 : decode c_Mo_index 45 = .ok (.if_icmp .ne 16, 3) := by decide +kernel
theorem d_Mo_index_48 : decode c_Mo_index 48 = .ok (.aload_n 0, 1) := by decide +kernel
theorem d_Mo_index_49 : decode c_Mo_index 49 = .ok (.getfield 85, 3) := by decide +kernel
theorem d_Mo_index_52 : decode c_Mo_index 52 = .ok (.bipush 8, 2) := by decide +kernel
theorem d_Mo_index_54 : decode c_Mo_index 54 = .ok (.if_icmp .ge 7, 3) := by decide +kernel
theorem d_Mo_index_57 : decode c_Mo_index 57 = .ok (.iconst 1, 1) := by decide +kernel
theorem d_Mo_index_58 : decode c_Mo_index 58 = .ok (.goto 4, 3) := by decide +kernel
theorem d_Mo_index_61 : decode c_Mo_index 61 = .ok (.iconst 0, 1) := by decide +kernel
theorem d_Mo_index_62 : decode c_Mo_index 62 = .ok (.istore_n 2, 1) := by decide +kernel
theorem d_Mo_index_63 : decode c_Mo_index 63 = .ok (.aload_n 0, 1) := by decide +kernel
theorem d_Mo_index_64 : decode c_Mo_index 64 = .ok (.iconst 0, 1) := by decide +kernel
theorem d_Mo_index_65 : decode c_Mo_index 65 = .ok (.putfield 74, 3) := by decide +kernel
theorem d_Mo_index_68 : decode c_Mo_index 68 = .ok (.iload_n 2, 1) := by decide +kernel
theorem d_Mo_index_69 : decode c_Mo_index 69 = .ok (.ifCond .ne 5, 3) := by decide +kernel
theorem d_Mo_index_72 : decode c_Mo_index 72 = .ok (.iconst (-1), 1) := by decide +kernel
theorem d_Mo_index_73 : decode c_Mo_index 73 = .ok (.ireturn, 1) := by decide +kernel
theorem d_Mo_index_74 : decode c_Mo_index 74 = .ok (.iconst 0, 1) := by decide +kernel
theorem d_Mo_index_75 : decode c_Mo_index 75 = .ok (.istore_n 3, 1) := by decide +kernel
theorem d_Mo_index_76 : decode c_Mo_index 76 = .ok (.iload_n 3, 1) := by decide +kernel
theorem d_Mo_index_77 : decode c_Mo_index 77 = .ok (.iload_n 1, 1) := by decide +kernel
theorem d_Mo_index_78 : decode c_Mo_index 78 = .ok (.if_icmp .ge 29, 3) := by decide +kernel
theorem d_Mo_index_81 : decode c_Mo_index 81 = .ok (.aload_n 0, 1) := by decide +kernel
theorem d_Mo_index_82 : decode c_Mo_index 82 = .ok (.getfield 13, 3) := by decide +kernel
theorem d_Mo_index_85 : decode c_Mo_index 85 = .ok (.bipush 8, 2) := by decide +kernel
theorem d_Mo_index_87 : decode c_Mo_index 87 = .ok (.aload_n 0, 1) := by decide +kernel
theorem d_Mo_index_88 : decode c_Mo_index 88 = .ok (.getfield 85, 3) := by decide +kernel
theorem d_Mo_index_91 : decode c_Mo_index 91 = .ok (.imul, 1) := by decide +kernel
theorem d_Mo_index_92 : decode c_Mo_index 92 = .ok (.iload_n 3, 1) := by decide +kernel
theorem d_Mo_index_93 : decode c_Mo_index 93 = .ok (.iadd, 1) := by decide +kernel
theorem d_Mo_index_94 : decode c_Mo_index 94 = .ok (.aload_n 0, 1) := by decide +kernel
theorem d_Mo_index_95 : decode c_Mo_index 95 = .ok (.getfield 7, 3) := by decide +kernel
theorem d_Mo_index_98 : decode c_Mo_index 98 = .ok (.iload_n 3, 1) := by decide +kernel
theorem d_Mo_index_99 : decode c_Mo_index 99 = .ok (.baload, 1) := by decide +kernel
theorem d_Mo_index_100 : decode c_Mo_index 100 = .ok (.bastore, 1) := by decide +kernel
theorem d_Mo_index_101 : decode c_Mo_index 101 = .ok (.iinc 3 1, 3) := by decide +kernel
theorem d_Mo_index_104 : decode c_Mo_index 104 = .ok (.goto (-28), 3) := by decide +kernel
theorem d_Mo_index_107 : decode c_Mo_index 107 = .ok (.aload_n 0, 1) := by decide +kernel
theorem d_Mo_index_108 : decode c_Mo_index 108 = .ok (.getfield 16, 3) := by decide +kernel
theorem d_Mo_index_111 : decode c_Mo_index 111 = .ok (.aload_n 0, 1) := by decide +kernel
theorem d_Mo_index_112 : decode c_Mo_index 112 = .ok (.getfield 85, 3) := by decide +kernel
theorem d_Mo_index_115 : decode c_Mo_index 115 = .ok (.iload_n 1, 1) := by decide +kernel
theorem d_Mo_index_116 : decode c_Mo_index 116 = .ok (.iastore, 1) := by decide +kernel
theorem d_Mo_index_117 : decode c_Mo_index 117 = .ok (.aload_n 0, 1) := by decide +kernel
theorem d_Mo_index_118 : decode c_Mo_index 118 = .ok (.dup, 1) := by decide +kernel
theorem d_Mo_index_119 : decode c_Mo_index 119 = .ok (.getfield 85, 3) := by decide +kernel
theorem d_Mo_index_122 : decode c_Mo_index 122 = .ok (.iconst 1, 1) := by decide +kernel
theorem d_Mo_index_123 : decode c_Mo_index 123 = .ok (.iadd, 1) := by decide +kernel
theorem d_Mo_index_124 : decode c_Mo_index 124 = .ok (.putfield 85, 3) := by decide +kernel
theorem d_Mo_index_127 : decode c_Mo_index 127 = .ok (.aload_n 0, 1) := by decide +kernel
theorem d_Mo_index_128 : decode c_Mo_index 128 = .ok (.getfield 85, 3) := by decide +kernel
theorem d_Mo_index_131 : decode c_Mo_index 131 = .ok (.iconst 1, 1) := by decide +kernel
theorem d_Mo_index_132 : decode c_Mo_index 132 = .ok (.isub, 1) := by decide +kernel
theorem d_Mo_index_133 : decode c_Mo_index 133 = .ok (.ireturn, 1) := by decide +kernel
theorem d_Mo_on_0 : decode c_Mo_on 0 = .ok (.aload_n 0, 1) := by decide +kernel
theorem d_Mo_on_1 : decode c_Mo_on 1 = .ok (.iconst 0, 1) := by decide +kernel
theorem d_Mo_on_2 : decode c_Mo_on 2 = .ok (.putfield 70, 3) := by decide +kernel
theorem d_Mo_on_5 : decode c_Mo_on 5 = .ok (.iload_n 1, 1) := by decide +kernel
theorem d_Mo_on_6 : decode c_Mo_on 6 = .ok (.ifCond .lt 11, 3) := by decide +kernel
theorem d_Mo_on_9 : decode c_Mo_on 9 = .ok (.iload_n 1, 1) := by decide +kernel
theorem d_Mo_on_10 : decode c_Mo_on 10 = .ok (.aload_n 0, 1) := by decide +kernel
theorem d_Mo_on_11 : decode c_Mo_on 11 = .ok (.getfield 85, 3) := by decide +kernel
theorem d_Mo_on_14 : decode c_Mo_on 14 = .ok (.if_icmp .lt 5, 3) := by decide +kernel
theorem d_Mo_on_17 : decode c_Mo_on 17 = .ok (.iconst 0, 1) := by decide +kernel
theorem d_Mo_on_18 : decode c_Mo_on 18 = .ok (.ireturn, 1) := by decide +kernel
theorem d_Mo_on_19 : decode c_Mo_on 19 = .ok (.aload_n 0, 1) := by decide +kernel
theorem d_Mo_on_20 : decode c_Mo_on 20 = .ok (.getfield 20, 3) := by decide +kernel
theorem d_Mo_on_23 : decode c_Mo_on 23 = .ok (.iload_n 1, 1) := by decide +kernel
theorem d_Mo_on_24 : decode c_Mo_on 24 = .ok (.baload, 1) := by decide +kernel
theorem d_Mo_on_25 : decode c_Mo_on 25 = .ok (.ifCond .ne 7, 3) := by decide +kernel
theorem d_Mo_on_28 : decode c_Mo_on 28 = .ok (.iconst 1, 1) := by decide +kernel
theorem d_Mo_on_29 : decode c_Mo_on 29 = .ok (.goto 4, 3) := by decide +kernel
theorem d_Mo_on_32 : decode c_Mo_on 32 = .ok (.iconst 0, 1) := by decide +kernel
theorem d_Mo_on_33 : decode c_Mo_on 33 = .ok (.istore_n 3, 1) := by decide +kernel
theorem d_Mo_on_34 : decode c_Mo_on 34 = .ok (.aload_n 0, 1) := by decide +kernel
theorem d_Mo_on_35 : decode c_Mo_on 35 = .ok (.getfield 20, 3) := by decide +kernel
theorem d_Mo_on_38 : decode c_Mo_on 38 = .ok (.iload_n 1, 1) := by decide +kernel
theorem d_Mo_on_39 : decode c_Mo_on 39 = .ok (.iload_n 2, 1) := by decide +kernel
theorem d_Mo_on_40 : decode c_Mo_on 40 = .ok (.ifCond .ne 7, 3) := by decide +kernel
theorem d_Mo_on_43 : decode c_Mo_on 43 = .ok (.iconst 1, 1) := by decide +kernel
theorem d_Mo_on_44 : decode c_Mo_on 44 = .ok (.goto 4, 3) := by decide +kernel
theorem d_Mo_on_47 : decode c_Mo_on 47 = .ok (.iconst 0, 1) := by decide +kernel
theorem d_Mo_on_48 : decode c_Mo_on 48 = .ok (.bastore, 1) := by decide +kernel
theorem d_Mo_on_49 : decode c_Mo_on 49 = .ok (.iload_n 3, 1) := by decide +kernel
theorem d_Mo_on_50 : decode c_Mo_on 50 = .ok (.ireturn, 1) := by decide +kernel
theorem d_Mo_bad_0 : decode c_Mo_bad 0 = .ok (.aload_n 0, 1) := by decide +kernel
theorem d_Mo_bad_1 : decode c_Mo_bad 1 = .ok (.iload_n 1, 1) := by decide +kernel
theorem d_Mo_bad_2 : decode c_Mo_bad 2 = .ok (.putfield 98, 3) := by decide +kernel
theorem d_Mo_bad_5 : decode c_Mo_bad 5 = .ok (.iconst 0, 1) := by decide +kernel
theorem d_Mo_bad_6 : decode c_Mo_bad 6 = .ok (.ireturn, 1) := by decide +kernel
theorem d_Mo_must_0 : decode c_Mo_must 0 = .ok (.aload_n 0, 1) := by decide +kernel
theorem d_Mo_must_1 : decode c_Mo_must 1 = .ok (.aload_n 0, 1) := by decide +kernel
theorem d_Mo_must_2 : decode c_Mo_must 2 = .ok (.getfield 101, 3) := by decide +kernel
theorem d_Mo_must_5 : decode c_Mo_must 5 = .ok (.invokevirtual 77, 3) := by decide +kernel
theorem d_Mo_must_8 : decode c_Mo_must 8 = .ok (.iload_n 1, 1) := by decide +kernel
theorem d_Mo_must_9 : decode c_Mo_must 9 = .ok (.if_icmp .eq 12, 3) := by decide +kernel
theorem d_Mo_must_12 : decode c_Mo_must 12 = .ok (.aload_n 0, 1) := by decide +kernel
theorem d_Mo_must_13 : decode c_Mo_must 13 = .ok (.aload_n 0, 1) := by decide +kernel
theorem d_Mo_must_14 : decode c_Mo_must 14 = .ok (.getfield 101, 3) := by decide +kernel
theorem d_Mo_must_17 : decode c_Mo_must 17 = .ok (.invokevirtual 104, 3) := by decide +kernel
theorem d_Mo_must_20 : decode c_Mo_must 20 = .ok (.ireturn, 1) := by decide +kernel
theorem d_Mo_must_21 : decode c_Mo_must 21 = .ok (.aload_n 0, 1) := by decide +kernel
theorem d_Mo_must_22 : decode c_Mo_must 22 = .ok (.dup, 1) := by decide +kernel
theorem d_Mo_must_23 : decode c_Mo_must 23 = .ok (.getfield 101, 3) := by decide +kernel
theorem d_Mo_must_26 : decode c_Mo_must 26 = .ok (.iconst 1, 1) := by decide +kernel
theorem d_Mo_must_27 : decode c_Mo_must 27 = .ok (.iadd, 1) := by decide +kernel
theorem d_Mo_must_28 : decode c_Mo_must 28 = .ok (.putfield 101, 3) := by decide +kernel
theorem d_Mo_must_31 : decode c_Mo_must 31 = .ok (.iconst 1, 1) := by decide +kernel
theorem d_Mo_must_32 : decode c_Mo_must 32 = .ok (.ireturn, 1) := by decide +kernel
theorem d_Mo_must2_0 : decode c_Mo_must2 0 = .ok (.aload_n 0, 1) := by decide +kernel
theorem d_Mo_must2_1 : decode c_Mo_must2 1 = .ok (.iload_n 1, 1) := by decide +kernel
theorem d_Mo_must2_2 : decode c_Mo_must2 2 = .ok (.invokevirtual 107, 3) := by decide +kernel
theorem d_Mo_must2_5 : decode c_Mo_must2 5 = .ok (.ifCond .eq 15, 3) := by decide +kernel
theorem d_Mo_must2_8 : decode c_Mo_must2 8 = .ok (.aload_n 0, 1) := by decide +kernel
theorem d_Mo_must2_9 : decode c_Mo_must2 9 = .ok (.iload_n 2, 1) := by decide +kernel
theorem d_Mo_must2_10 : decode c_Mo_must2 10 = .ok (.invokevirtual 107, 3) := by decide +kernel
theorem d_Mo_must2_13 : decode c_Mo_must2 13 = .ok (.ifCond .eq 7, 3) := by decide +kernel
theorem d_Mo_must2_16 : decode c_Mo_must2 16 = .ok (.iconst 1, 1) := by decide +kernel
theorem d_Mo_must2_17 : decode c_Mo_must2 17 = .ok (.goto 4, 3) := by decide +kernel
theorem d_Mo_must2_20 : decode c_Mo_must2 20 = .ok (.iconst 0, 1) := by decide +kernel
theorem d_Mo_must2_21 : decode c_Mo_must2 21 = .ok (.ireturn, 1) := by decide +kernel
theorem d_Mo_value_0 : decode c_Mo_value 0 = .ok (.aload_n 0, 1) := by decide +kernel
theorem d_Mo_value_1 : decode c_Mo_value 1 = .ok (.getfield 101, 3) := by decide +kernel
theorem d_Mo_value_4 : decode c_Mo_value 4 = .ok (.istore_n 1, 1) := by decide +kernel
theorem d_Mo_value_5 : decode c_Mo_value 5 = .ok (.iconst 0, 1) := by decide +kernel
theorem d_Mo_value_6 : decode c_Mo_value 6 = .ok (.istore_n 2, 1) := by decide +kernel
theorem d_Mo_value_7 : decode c_Mo_value 7 = .ok (.aload_n 0, 1) := by decide +kernel
theorem d_Mo_value_8 : decode c_Mo_value 8 = .ok (.aload_n 0, 1) := by decide +kernel
theorem d_Mo_value_9 : decode c_Mo_value 9 = .ok (.getfield 101, 3) := by decide +kernel
theorem d_Mo_value_12 : decode c_Mo_value 12 = .ok (.invokevirtual 77, 3) := by decide +kernel
theorem d_Mo_value_15 : decode c_Mo_value 15 = .ok (.invokestatic 110, 3) := by decide +kernel
theorem d_Mo_value_18 : decode c_Mo_value 18 = .ok (.ifCond .eq 43, 3) := by decide +kernel
theorem d_Mo_value_21 : decode c_Mo_value 21 = .ok (.aload_n 0, 1) := by decide +kernel
theorem d_Mo_value_22 : decode c_Mo_value 22 = .ok (.getfield 101, 3) := by decide +kernel
theorem d_Mo_value_25 : decode c_Mo_value 25 = .ok (.iload_n 1, 1) := by decide +kernel
theorem d_Mo_value_26 : decode c_Mo_value 26 = .ok (.isub, 1) := by decide +kernel
theorem d_Mo_value_27 : decode c_Mo_value 27 = .ok (.iconst 5, 1) := by decide +kernel
theorem d_Mo_value_28 : decode c_Mo_value 28 = .ok (.if_icmp .ge 33, 3) := by decide +kernel
theorem d_Mo_value_31 : decode c_Mo_value 31 = .ok (.bipush 10, 2) := by decide +kernel
theorem d_Mo_value_33 : decode c_Mo_value 33 = .ok (.iload_n 2, 1) := by decide +kernel
theorem d_Mo_value_34 : decode c_Mo_value 34 = .ok (.imul, 1) := by decide +kernel
theorem d_Mo_value_35 : decode c_Mo_value 35 = .ok (.aload_n 0, 1) := by decide +kernel
theorem d_Mo_value_36 : decode c_Mo_value 36 = .ok (.aload_n 0, 1) := by decide +kernel
theorem d_Mo_value_37 : decode c_Mo_value 37 = .ok (.getfield 101, 3) := by decide +kernel
theorem d_Mo_value_40 : decode c_Mo_value 40 = .ok (.invokevirtual 77, 3) := by decide +kernel
theorem d_Mo_value_43 : decode c_Mo_value 43 = .ok (.iadd, 1) := by decide +kernel
theorem d_Mo_value_44 : decode c_Mo_value 44 = .ok (.bipush 48, 2) := by decide +kernel
theorem d_Mo_value_46 : decode c_Mo_value 46 = .ok (.isub, 1) := by decide +kernel
theorem d_Mo_value_47 : decode c_Mo_value 47 = .ok (.istore_n 2, 1) := by decide +kernel
theorem d_Mo_value_48 : decode c_Mo_value 48 = .ok (.aload_n 0, 1) := by decide +kernel
theorem d_Mo_value_49 : decode c_Mo_value 49 = .ok (.dup, 1) := by decide +kernel
theorem d_Mo_value_50 : decode c_Mo_value 50 = .ok (.getfield 101, 3) := by decide +kernel
theorem d_Mo_value_53 : decode c_Mo_value 53 = .ok (.iconst 1, 1) := by decide +kernel
theorem d_Mo_value_54 : decode c_Mo_value 54 = .ok (.iadd, 1) := by decide +kernel
theorem d_Mo_value_55 : decode c_Mo_value 55 = .ok (.putfield 101, 3) := by decide +kernel
theorem d_Mo_value_58 : decode c_Mo_value 58 = .ok (.goto (-51), 3) := by decide +kernel
theorem d_Mo_value_61 : decode c_Mo_value 61 = .ok (.aload_n 0, 1) := by decide +kernel
theorem d_Mo_value_62 : decode c_Mo_value 62 = .ok (.getfield 101, 3) := by decide +kernel
theorem d_Mo_value_65 : decode c_Mo_value 65 = .ok (.iload_n 1, 1) := by decide +kernel
theorem d_Mo_value_66 : decode c_Mo_value 66 = .ok (.if_icmp .eq 17, 3) := by decide +kernel
theorem d_Mo_value_69 : decode c_Mo_value 69 = .ok (.aload_n 0, 1) := by decide +kernel
theorem d_Mo_value_70 : decode c_Mo_value 70 = .ok (.aload_n 0, 1) := by decide +kernel
theorem d_Mo_value_71 : decode c_Mo_value 71 = .ok (.getfield 101, 3) := by decide +kernel
theorem d_Mo_value_74 : decode c_Mo_value 74 = .ok (.invokevirtual 77, 3) := by decide +kernel
theorem d_Mo_value_77 : decode c_Mo_value 77 = .ok (.invokestatic 110, 3) := by decide +kernel
theorem d_Mo_value_80 : decode c_Mo_value 80 = .ok (.ifCond .eq 13, 3) := by decide +kernel
theorem d_Mo_value_83 : decode c_Mo_value 83 = .ok (.aload_n 0, 1) := by decide +kernel
theorem d_Mo_value_84 : decode c_Mo_value 84 = .ok (.aload_n 0, 1) := by decide +kernel
theorem d_Mo_value_85 : decode c_Mo_value 85 = .ok (.getfield 101, 3) := by decide +kernel
theorem d_Mo_value_88 : decode c_Mo_value 88 = .ok (.putfield 98, 3) := by decide +kernel
theorem d_Mo_value_91 : decode c_Mo_value 91 = .ok (.iconst (-1), 1) := by decide +kernel
theorem d_Mo_value_92 : decode c_Mo_value 92 = .ok (.ireturn, 1) := by decide +kernel
theorem d_Mo_value_93 : decode c_Mo_value 93 = .ok (.iload_n 2, 1) := by decide +kernel
theorem d_Mo_value_94 : decode c_Mo_value 94 = .ok (.ireturn, 1) := by decide +kernel
theorem d_Mo_name_0 : decode c_Mo_name 0 = .ok (.aload_n 0, 1) := by decide +kernel
theorem d_Mo_name_1 : decode c_Mo_name 1 = .ok (.aload_n 0, 1) := by decide +kernel
theorem d_Mo_name_2 : decode c_Mo_name 2 = .ok (.getfield 101, 3) := by decide +kernel
theorem d_Mo_name_5 : decode c_Mo_name 5 = .ok (.invokevirtual 88, 3) := by decide +kernel
theorem d_Mo_name_8 : decode c_Mo_name 8 = .ok (.istore_n 1, 1) := by decide +kernel
theorem d_Mo_name_9 : decode c_Mo_name 9 = .ok (.aload_n 0, 1) := by decide +kernel
theorem d_Mo_name_10 : decode c_Mo_name 10 = .ok (.aload_n 0, 1) := by decide +kernel
theorem d_Mo_name_11 : decode c_Mo_name 11 = .ok (.getfield 101, 3) := by decide +kernel
theorem d_Mo_name_14 : decode c_Mo_name 14 = .ok (.iload_n 1, 1) := by decide +kernel
theorem d_Mo_name_15 : decode c_Mo_name 15 = .ok (.invokevirtual 95, 3) := by decide +kernel
theorem d_Mo_name_18 : decode c_Mo_name 18 = .ok (.istore_n 2, 1) := by decide +kernel
theorem d_Mo_name_19 : decode c_Mo_name 19 = .ok (.iload_n 2, 1) := by decide +kernel
theorem d_Mo_name_20 : decode c_Mo_name 20 = .ok (.iconst (-1), 1) := by decide +kernel
theorem d_Mo_name_21 : decode c_Mo_name 21 = .ok (.if_icmp .ne 46, 3) := by decide +kernel
theorem d_Mo_name_24 : decode c_Mo_name 24 = .ok (.aload_n 0, 1) := by decide +kernel
theorem d_Mo_name_25 : decode c_Mo_name 25 = .ok (.aload_n 0, 1) := by decide +kernel
theorem d_Mo_name_26 : decode c_Mo_name 26 = .ok (.getfield 101, 3) := by decide +kernel
theorem d_Mo_name_29 : decode c_Mo_name 29 = .ok (.putfield 98, 3) := by decide +kernel
theorem d_Mo_name_32 : decode c_Mo_name 32 = .ok (.aload_n 0, 1) := by decide +kernel
theorem d_Mo_name_33 : decode c_Mo_name 33 = .ok (.iload_n 1, 1) := by decide +kernel
theorem d_Mo_name_34 : decode c_Mo_name 34 = .ok (.putfield 113, 3) := by decide +kernel
theorem d_Mo_name_37 : decode c_Mo_name 37 = .ok (.iconst 0, 1) := by decide +kernel
theorem d_Mo_name_38 : decode c_Mo_name 38 = .ok (.istore_n 3, 1) := by decide +kernel
theorem d_Mo_name_39 : decode c_Mo_name 39 = .ok (.iload_n 3, 1) := by decide +kernel
theorem d_Mo_name_40 : decode c_Mo_name 40 = .ok (.iload_n 1, 1) := by decide +kernel
theorem d_Mo_name_41 : decode c_Mo_name 41 = .ok (.if_icmp .ge 26, 3) := by decide +kernel
theorem d_Mo_name_44 : decode c_Mo_name 44 = .ok (.aload_n 0, 1) := by decide +kernel
theorem d_Mo_name_45 : decode c_Mo_name 45 = .ok (.getfield 24, 3) := by decide +kernel
theorem d_Mo_name_48 : decode c_Mo_name 48 = .ok (.iload_n 3, 1) := by decide +kernel
theorem d_Mo_name_49 : decode c_Mo_name 49 = .ok (.aload_n 0, 1) := by decide +kernel
theorem d_Mo_name_50 : decode c_Mo_name 50 = .ok (.getfield 7, 3) := by decide +kernel
theorem d_Mo_name_53 : decode c_Mo_name 53 = .ok (.aload_n 0, 1) := by decide +kernel
theorem d_Mo_name_54 : decode c_Mo_name 54 = .ok (.getfield 101, 3) := by decide +kernel
theorem d_Mo_name_57 : decode c_Mo_name 57 = .ok (.iload_n 3, 1) := by decide +kernel
theorem d_Mo_name_58 : decode c_Mo_name 58 = .ok (.iadd, 1) := by decide +kernel
theorem d_Mo_name_59 : decode c_Mo_name 59 = .ok (.baload, 1) := by decide +kernel
theorem d_Mo_name_60 : decode c_Mo_name 60 = .ok (.bastore, 1) := by decide +kernel
theorem d_Mo_name_61 : decode c_Mo_name 61 = .ok (.iinc 3 1, 3) := by decide +kernel
theorem d_Mo_name_64 : decode c_Mo_name 64 = .ok (.goto (-25), 3) := by decide +kernel
theorem d_Mo_name_67 : decode c_Mo_name 67 = .ok (.iload_n 2, 1) := by decide +kernel
theorem d_Mo_name_68 : decode c_Mo_name 68 = .ok (.ireturn, 1) := by decide +kernel
theorem d_Mo_add_0 : decode c_Mo_add 0 = .ok (.iconst 4, 1) := by decide +kernel
theorem d_Mo_add_1 : decode c_Mo_add 1 = .ok (.aload_n 0, 1) := by decide +kernel
theorem d_Mo_add_2 : decode c_Mo_add 2 = .ok (.getfield 116, 3) := by decide +kernel
theorem d_Mo_add_5 : decode c_Mo_add 5 = .ok (.imul, 1) := by decide +kernel
theorem d_Mo_add_6 : decode c_Mo_add 6 = .ok (.istore 5, 2) := by decide +kernel
theorem d_Mo_add_8 : decode c_Mo_add 8 = .ok (.aload_n 0, 1) := by decide +kernel
theorem d_Mo_add_9 : decode c_Mo_add 9 = .ok (.getfield 27, 3) := by decide +kernel
theorem d_Mo_add_12 : decode c_Mo_add 12 = .ok (.iload 5, 2) := by decide +kernel
theorem d_Mo_add_14 : decode c_Mo_add 14 = .ok (.iload_n 1, 1) := by decide +kernel
theorem d_Mo_add_15 : decode c_Mo_add 15 = .ok (.iastore, 1) := by decide +kernel
theorem d_Mo_add_16 : decode c_Mo_add 16 = .ok (.aload_n 0, 1) := by decide +kernel
theorem d_Mo_add_17 : decode c_Mo_add 17 = .ok (.getfield 27, 3) := by decide +kernel
theorem d_Mo_add_20 : decode c_Mo_add 20 = .ok (.iload 5, 2) := by decide +kernel
theorem d_Mo_add_22 : decode c_Mo_add 22 = .ok (.iconst 1, 1) := by decide +kernel
theorem d_Mo_add_23 : decode c_Mo_add 23 = .ok (.iadd, 1) := by decide +kernel
theorem d_Mo_add_24 : decode c_Mo_add 24 = .ok (.iload_n 2, 1) := by decide +kernel
theorem d_Mo_add_25 : decode c_Mo_add 25 = .ok (.iastore, 1) := by decide +kernel
theorem d_Mo_add_26 : decode c_Mo_add 26 = .ok (.aload_n 0, 1) := by decide +kernel
theorem d_Mo_add_27 : decode c_Mo_add 27 = .ok (.getfield 27, 3) := by decide +kernel
theorem d_Mo_add_30 : decode c_Mo_add 30 = .ok (.iload 5, 2) := by decide +kernel
theorem d_Mo_add_32 : decode c_Mo_add 32 = .ok (.iconst 2, 1) := by decide +kernel
theorem d_Mo_add_33 : decode c_Mo_add 33 = .ok (.iadd, 1) := by decide +kernel
theorem d_Mo_add_34 : decode c_Mo_add 34 = .ok (.iload_n 3, 1) := by decide +kernel
theorem d_Mo_add_35 : decode c_Mo_add 35 = .ok (.iastore, 1) := by decide +kernel
theorem d_Mo_add_36 : decode c_Mo_add 36 = .ok (.aload_n 0, 1) := by decide +kernel
theorem d_Mo_add_37 : decode c_Mo_add 37 = .ok (.getfield 27, 3) := by decide +kernel
theorem d_Mo_add_40 : decode c_Mo_add 40 = .ok (.iload 5, 2) := by decide +kernel
theorem d_Mo_add_42 : decode c_Mo_add 42 = .ok (.iconst 3, 1) := by decide +kernel
theorem d_Mo_add_43 : decode c_Mo_add 43 = .ok (.iadd, 1) := by decide +kernel
theorem d_Mo_add_44 : decode c_Mo_add 44 = .ok (.iload 4, 2) := by decide +kernel
theorem d_Mo_add_46 : decode c_Mo_add 46 = .ok (.iastore, 1) := by decide +kernel
theorem d_Mo_add_47 : decode c_Mo_add 47 = .ok (.aload_n 0, 1) := by decide +kernel
theorem d_Mo_add_48 : decode c_Mo_add 48 = .ok (.getfield 30, 3) := by decide +kernel
theorem d_Mo_add_51 : decode c_Mo_add 51 = .ok (.aload_n 0, 1) := by decide +kernel
theorem d_Mo_add_52 : decode c_Mo_add 52 = .ok (.getfield 116, 3) := by decide +kernel
theorem d_Mo_add_55 : decode c_Mo_add 55 = .ok (.aload_n 0, 1) := by decide +kernel
theorem d_Mo_add_56 : decode c_Mo_add 56 = .ok (.getfield 116, 3) := by decide +kernel
theorem d_Mo_add_59 : decode c_Mo_add 59 = .ok (.iastore, 1) := by decide +kernel
theorem d_Mo_add_60 : decode c_Mo_add 60 = .ok (.aload_n 0, 1) := by decide +kernel
theorem d_Mo_add_61 : decode c_Mo_add 61 = .ok (.dup, 1) := by decide +kernel
theorem d_Mo_add_62 : decode c_Mo_add 62 = .ok (.getfield 116, 3) := by decide +kernel
theorem d_Mo_add_65 : decode c_Mo_add 65 = .ok (.iconst 1, 1) := by decide +kernel
theorem d_Mo_add_66 : decode c_Mo_add 66 = .ok (.iadd, 1) := by decide +kernel
theorem d_Mo_add_67 : decode c_Mo_add 67 = .ok (.putfield 116, 3) := by decide +kernel
theorem d_Mo_add_70 : decode c_Mo_add 70 = .ok (.return_, 1) := by decide +kernel
theorem d_Mo_join_0 : decode c_Mo_join 0 = .ok (.aload_n 0, 1) := by decide +kernel
theorem d_Mo_join_1 : decode c_Mo_join 1 = .ok (.getfield 30, 3) := by decide +kernel
theorem d_Mo_join_4 : decode c_Mo_join 4 = .ok (.aload_n 0, 1) := by decide +kernel
theorem d_Mo_join_5 : decode c_Mo_join 5 = .ok (.getfield 116, 3) := by decide +kernel
theorem d_Mo_join_8 : decode c_Mo_join 8 = .ok (.iconst 1, 1) := by decide +kernel
theorem d_Mo_join_9 : decode c_Mo_join 9 = .ok (.isub, 1) := by decide +kernel
theorem d_Mo_join_10 : decode c_Mo_join 10 = .ok (.iaload, 1) := by decide +kernel
theorem d_Mo_join_11 : decode c_Mo_join 11 = .ok (.istore_n 2, 1) := by decide +kernel
theorem d_Mo_join_12 : decode c_Mo_join 12 = .ok (.aload_n 0, 1) := by decide +kernel
theorem d_Mo_join_13 : decode c_Mo_join 13 = .ok (.getfield 30, 3) := by decide +kernel
theorem d_Mo_join_16 : decode c_Mo_join 16 = .ok (.iload_n 2, 1) := by decide +kernel
theorem d_Mo_join_17 : decode c_Mo_join 17 = .ok (.iconst 1, 1) := by decide +kernel
theorem d_Mo_join_18 : decode c_Mo_join 18 = .ok (.isub, 1) := by decide +kernel
theorem d_Mo_join_19 : decode c_Mo_join 19 = .ok (.iaload, 1) := by decide +kernel
theorem d_Mo_join_20 : decode c_Mo_join 20 = .ok (.istore_n 3, 1) := by decide +kernel
theorem d_Mo_join_21 : decode c_Mo_join 21 = .ok (.aload_n 0, 1) := by decide +kernel
theorem d_Mo_join_22 : decode c_Mo_join 22 = .ok (.iload_n 1, 1) := by decide +kernel
theorem d_Mo_join_23 : decode c_Mo_join 23 = .ok (.iconst (-1), 1) := by decide +kernel
theorem d_Mo_join_24 : decode c_Mo_join 24 = .ok (.iconst (-1), 1) := by decide +kernel
theorem d_Mo_join_25 : decode c_Mo_join 25 = .ok (.iconst (-1), 1) := by decide +kernel
theorem d_Mo_join_26 : decode c_Mo_join 26 = .ok (.invokevirtual 119, 3) := by decide +kernel
theorem d_Mo_join_29 : decode c_Mo_join 29 = .ok (.aload_n 0, 1) := by decide +kernel
theorem d_Mo_join_30 : decode c_Mo_join 30 = .ok (.getfield 30, 3) := by decide +kernel
theorem d_Mo_join_33 : decode c_Mo_join 33 = .ok (.aload_n 0, 1) := by decide +kernel
theorem d_Mo_join_34 : decode c_Mo_join 34 = .ok (.getfield 116, 3) := by decide +kernel
theorem d_Mo_join_37 : decode c_Mo_join 37 = .ok (.iconst 1, 1) := by decide +kernel
theorem d_Mo_join_38 : decode c_Mo_join 38 = .ok (.isub, 1) := by decide +kernel
theorem d_Mo_join_39 : decode c_Mo_join 39 = .ok (.iload_n 3, 1) := by decide +kernel
theorem d_Mo_join_40 : decode c_Mo_join 40 = .ok (.iastore, 1) := by decide +kernel
theorem d_Mo_join_41 : decode c_Mo_join 41 = .ok (.return_, 1) := by decide +kernel
theorem d_Mo_range_0 : decode c_Mo_range 0 = .ok (.aload_n 0, 1) := by decide +kernel
theorem d_Mo_range_1 : decode c_Mo_range 1 = .ok (.getfield 101, 3) := by decide +kernel
theorem d_Mo_range_4 : decode c_Mo_range 4 = .ok (.istore_n 3, 1) := by decide +kernel
theorem d_Mo_range_5 : decode c_Mo_range 5 = .ok (.aload_n 0, 1) := by decide +kernel
theorem d_Mo_range_6 : decode c_Mo_range 6 = .ok (.invokevirtual 123, 3) := by decide +kernel
theorem d_Mo_range_9 : decode c_Mo_range 9 = .ok (.istore 4, 2) := by decide +kernel
theorem d_Mo_range_11 : decode c_Mo_range 11 = .ok (.iload 4, 2) := by decide +kernel
theorem d_Mo_range_13 : decode c_Mo_range 13 = .ok (.iconst (-1), 1) := by decide +kernel
theorem d_Mo_range_14 : decode c_Mo_range 14 = .ok (.if_icmp .ne 5, 3) := by decide +kernel
theorem d_Mo_range_17 : decode c_Mo_range 17 = .ok (.iconst 0, 1) := by decide +kernel
theorem d_Mo_range_18 : decode c_Mo_range 18 = .ok (.ireturn, 1) := by decide +kernel
theorem d_Mo_range_19 : decode c_Mo_range 19 = .ok (.iload 4, 2) := by decide +kernel
theorem d_Mo_range_21 : decode c_Mo_range 21 = .ok (.iload_n 2, 1) := by decide +kernel
theorem d_Mo_range_22 : decode c_Mo_range 22 = .ok (.if_icmp .ge 9, 3) := by decide +kernel
theorem d_Mo_range_25 : decode c_Mo_range 25 = .ok (.aload_n 0, 1) := by decide +kernel
theorem d_Mo_range_26 : decode c_Mo_range 26 = .ok (.iload_n 3, 1) := by decide +kernel
theorem d_Mo_range_27 : decode c_Mo_range 27 = .ok (.invokevirtual 104, 3) := by decide +kernel
theorem d_Mo_range_30 : decode c_Mo_range 30 = .ok (.ireturn, 1) := by decide +kernel
theorem d_Mo_range_31 : decode c_Mo_range 31 = .ok (.aload_n 0, 1) := by decide +kernel
theorem d_Mo_range_32 : decode c_Mo_range 32 = .ok (.iconst 1, 1) := by decide +kernel
theorem d_Mo_range_33 : decode c_Mo_range 33 = .ok (.iload_n 1, 1) := by decide +kernel
theorem d_Mo_range_34 : decode c_Mo_range 34 = .ok (.iload_n 2, 1) := by decide +kernel
theorem d_Mo_range_35 : decode c_Mo_range 35 = .ok (.iload 4, 2) := by decide +kernel
theorem d_Mo_range_37 : decode c_Mo_range 37 = .ok (.invokevirtual 119, 3) := by decide +kernel
theorem d_Mo_range_40 : decode c_Mo_range 40 = .ok (.iconst 1, 1) := by decide +kernel
theorem d_Mo_range_41 : decode c_Mo_range 41 = .ok (.ireturn, 1) := by decide +kernel
theorem d_Mo_leaf_0 : decode c_Mo_leaf 0 = .ok (.aload_n 0, 1) := by decide +kernel
theorem d_Mo_leaf_1 : decode c_Mo_leaf 1 = .ok (.getfield 101, 3) := by decide +kernel
theorem d_Mo_leaf_4 : decode c_Mo_leaf 4 = .ok (.istore_n 1, 1) := by decide +kernel
theorem d_Mo_leaf_5 : decode c_Mo_leaf 5 = .ok (.aload_n 0, 1) := by decide +kernel
theorem d_Mo_leaf_6 : decode c_Mo_leaf 6 = .ok (.aload_n 0, 1) := by decide +kernel
theorem d_Mo_leaf_7 : decode c_Mo_leaf 7 = .ok (.getfield 101, 3) := by decide +kernel
theorem d_Mo_leaf_10 : decode c_Mo_leaf 10 = .ok (.invokevirtual 77, 3) := by decide +kernel
theorem d_Mo_leaf_13 : decode c_Mo_leaf 13 = .ok (.invokestatic 81, 3) := by decide +kernel
theorem d_Mo_leaf_16 : decode c_Mo_leaf 16 = .ok (.ifCond .ne 12, 3) := by decide +kernel
theorem d_Mo_leaf_19 : decode c_Mo_leaf 19 = .ok (.aload_n 0, 1) := by decide +kernel
theorem d_Mo_leaf_20 : decode c_Mo_leaf 20 = .ok (.aload_n 0, 1) := by decide +kernel
theorem d_Mo_leaf_21 : decode c_Mo_leaf 21 = .ok (.getfield 101, 3) := by decide +kernel
theorem d_Mo_leaf_24 : decode c_Mo_leaf 24 = .ok (.invokevirtual 104, 3) := by decide +kernel
theorem d_Mo_leaf_27 : decode c_Mo_leaf 27 = .ok (.ireturn, 1) := by decide +kernel
theorem d_Mo_leaf_28 : decode c_Mo_leaf 28 = .ok (.aload_n 0, 1) := by decide +kernel
theorem d_Mo_leaf_29 : decode c_Mo_leaf 29 = .ok (.invokevirtual 127, 3) := by decide +kernel
theorem d_Mo_leaf_32 : decode c_Mo_leaf 32 = .ok (.istore_n 2, 1) := by decide +kernel
theorem d_Mo_leaf_33 : decode c_Mo_leaf 33 = .ok (.iload_n 2, 1) := by decide +kernel
theorem d_Mo_leaf_34 : decode c_Mo_leaf 34 = .ok (.iconst (-1), 1) := by decide +kernel
theorem d_Mo_leaf_35 : decode c_Mo_leaf 35 = .ok (.if_icmp .eq 20, 3) := by decide +kernel
theorem d_Mo_leaf_38 : decode c_Mo_leaf 38 = .ok (.aload_n 0, 1) := by decide +kernel
theorem d_Mo_leaf_39 : decode c_Mo_leaf 39 = .ok (.invokevirtual 130, 3) := by decide +kernel
theorem d_Mo_leaf_42 : decode c_Mo_leaf 42 = .ok (.bipush 40, 2) := by decide +kernel
theorem d_Mo_leaf_44 : decode c_Mo_leaf 44 = .ok (.if_icmp .ne 13, 3) := by decide +kernel
theorem d_Mo_leaf_47 : decode c_Mo_leaf 47 = .ok (.aload_n 0, 1) := by decide +kernel
theorem d_Mo_leaf_48 : decode c_Mo_leaf 48 = .ok (.iload_n 1, 1) := by decide +kernel
theorem d_Mo_leaf_49 : decode c_Mo_leaf 49 = .ok (.invokevirtual 104, 3) := by decide +kernel
theorem d_Mo_leaf_52 : decode c_Mo_leaf 52 = .ok (.ifCond .ne 5, 3) := by decide +kernel
theorem d_Mo_leaf_55 : decode c_Mo_leaf 55 = .ok (.iconst 0, 1) := by decide +kernel
theorem d_Mo_leaf_56 : decode c_Mo_leaf 56 = .ok (.ireturn, 1) := by decide +kernel
theorem d_Mo_leaf_57 : decode c_Mo_leaf 57 = .ok (.aload_n 0, 1) := by decide +kernel
theorem d_Mo_leaf_58 : decode c_Mo_leaf 58 = .ok (.dup, 1) := by decide +kernel
theorem d_Mo_leaf_59 : decode c_Mo_leaf 59 = .ok (.getfield 101, 3) := by decide +kernel
theorem d_Mo_leaf_62 : decode c_Mo_leaf 62 = .ok (.aload_n 0, 1) := by decide +kernel
theorem d_Mo_leaf_63 : decode c_Mo_leaf 63 = .ok (.aload_n 0, 1) := by decide +kernel
theorem d_Mo_leaf_64 : decode c_Mo_leaf 64 = .ok (.getfield 101, 3) := by decide +kernel
theorem d_Mo_leaf_67 : decode c_Mo_leaf 67 = .ok (.invokevirtual 88, 3) := by decide +kernel
theorem d_Mo_leaf_70 : decode c_Mo_leaf 70 = .ok (.iadd, 1) := by decide +kernel
theorem d_Mo_leaf_71 : decode c_Mo_leaf 71 = .ok (.putfield 101, 3) := by decide +kernel
theorem d_Mo_leaf_74 : decode c_Mo_leaf 74 = .ok (.aload_n 0, 1) := by decide +kernel
theorem d_Mo_leaf_75 : decode c_Mo_leaf 75 = .ok (.bipush 61, 2) := by decide +kernel
theorem d_Mo_leaf_77 : decode c_Mo_leaf 77 = .ok (.invokevirtual 107, 3) := by decide +kernel
theorem d_Mo_leaf_80 : decode c_Mo_leaf 80 = .ok (.ifCond .ne 5, 3) := by decide +kernel
theorem d_Mo_leaf_83 : decode c_Mo_leaf 83 = .ok (.iconst 0, 1) := by decide +kernel
theorem d_Mo_leaf_84 : decode c_Mo_leaf 84 = .ok (.ireturn, 1) := by decide +kernel
theorem d_Mo_leaf_85 : decode c_Mo_leaf 85 = .ok (.aload_n 0, 1) := by decide +kernel
theorem d_Mo_leaf_86 : decode c_Mo_leaf 86 = .ok (.invokevirtual 123, 3) := by decide +kernel
theorem d_Mo_leaf_89 : decode c_Mo_leaf 89 = .ok (.istore_n 3, 1) := by decide +kernel
theorem d_Mo_leaf_90 : decode c_Mo_leaf 90 = .ok (.iload_n 3, 1) := by decide +kernel
theorem d_Mo_leaf_91 : decode c_Mo_leaf 91 = .ok (.iconst (-1), 1) := by decide +kernel
theorem d_Mo_leaf_92 : decode c_Mo_leaf 92 = .ok (.if_icmp .ne 5, 3) := by decide +kernel
theorem d_Mo_leaf_95 : decode c_Mo_leaf 95 = .ok (.iconst 0, 1) := by decide +kernel
theorem d_Mo_leaf_96 : decode c_Mo_leaf 96 = .ok (.ireturn, 1) := by decide +kernel
theorem d_Mo_leaf_97 : decode c_Mo_leaf 97 = .ok (.aload_n 0, 1) := by decide +kernel
theorem d_Mo_leaf_98 : decode c_Mo_leaf 98 = .ok (.aload_n 0, 1) := by decide +kernel
theorem d_Mo_leaf_99 : decode c_Mo_leaf 99 = .ok (.getfield 101, 3) := by decide +kernel
theorem d_Mo_leaf_102 : decode c_Mo_leaf 102 = .ok (.invokevirtual 77, 3) := by decide +kernel
theorem d_Mo_leaf_105 : decode c_Mo_leaf 105 = .ok (.bipush 46, 2) := by decide +kernel
theorem d_Mo_leaf_107 : decode c_Mo_leaf 107 = .ok (.if_icmp .ne 37, 3) := by decide +kernel
theorem d_Mo_leaf_110 : decode c_Mo_leaf 110 = .ok (.aload_n 0, 1) := by decide +kernel
theorem d_Mo_leaf_111 : decode c_Mo_leaf 111 = .ok (.dup, 1) := by decide +kernel
theorem d_Mo_leaf_112 : decode c_Mo_leaf 112 = .ok (.getfield 101, 3) := by decide +kernel
theorem d_Mo_leaf_115 : decode c_Mo_leaf 115 = .ok (.iconst 1, 1) := by decide +kernel
theorem d_Mo_leaf_116 : decode c_Mo_leaf 116 = .ok (.iadd, 1) := by decide +kernel
theorem d_Mo_leaf_117 : decode c_Mo_leaf 117 = .ok (.putfield 101, 3) := by decide +kernel
theorem d_Mo_leaf_120 : decode c_Mo_leaf 120 = .ok (.aload_n 0, 1) := by decide +kernel
theorem d_Mo_leaf_121 : decode c_Mo_leaf 121 = .ok (.bipush 46, 2) := by decide +kernel
theorem d_Mo_leaf_123 : decode c_Mo_leaf 123 = .ok (.invokevirtual 107, 3) := by decide +kernel
theorem d_Mo_leaf_126 : decode c_Mo_leaf 126 = .ok (.ifCond .eq 16, 3) := by decide +kernel
theorem d_Mo_leaf_129 : decode c_Mo_leaf 129 = .ok (.aload_n 0, 1) := by decide +kernel
theorem d_Mo_leaf_130 : decode c_Mo_leaf 130 = .ok (.iload_n 2, 1) := by decide +kernel
theorem d_Mo_leaf_131 : decode c_Mo_leaf 131 = .ok (.iload_n 3, 1) := by decide +kernel
theorem d_Mo_leaf_132 : decode c_Mo_leaf 132 = .ok (.invokevirtual 133, 3) := by decide +kernel
theorem d_Mo_leaf_135 : decode c_Mo_leaf 135 = .ok (.ifCond .eq 7, 3) := by decide +kernel
theorem d_Mo_leaf_138 : decode c_Mo_leaf 138 = .ok (.iconst 1, 1) := by decide +kernel
theorem d_Mo_leaf_139 : decode c_Mo_leaf 139 = .ok (.goto 4, 3) := by decide +kernel
theorem d_Mo_leaf_142 : decode c_Mo_leaf 142 = .ok (.iconst 0, 1) := by decide +kernel
theorem d_Mo_leaf_143 : decode c_Mo_leaf 143 = .ok (.ireturn, 1) := by decide +kernel
theorem d_Mo_leaf_144 : decode c_Mo_leaf 144 = .ok (.aload_n 0, 1) := by decide +kernel
theorem d_Mo_leaf_145 : decode c_Mo_leaf 145 = .ok (.aload_n 0, 1) := by decide +kernel
theorem d_Mo_leaf_146 : decode c_Mo_leaf 146 = .ok (.getfield 101, 3) := by decide +kernel
theorem d_Mo_leaf_149 : decode c_Mo_leaf 149 = .ok (.invokevirtual 77, 3) := by decide +kernel
theorem d_Mo_leaf_152 : decode c_Mo_leaf 152 = .ok (.bipush 42, 2) := by decide +kernel
theorem d_Mo_leaf_154 : decode c_Mo_leaf 154 = .ok (.if_icmp .ne 24, 3) := by decide +kernel
theorem d_Mo_leaf_157 : decode c_Mo_leaf 157 = .ok (.aload_n 0, 1) := by decide +kernel
theorem d_Mo_leaf_158 : decode c_Mo_leaf 158 = .ok (.dup, 1) := by decide +kernel
theorem d_Mo_leaf_159 : decode c_Mo_leaf 159 = .ok (.getfield 101, 3) := by decide +kernel
theorem d_Mo_leaf_162 : decode c_Mo_leaf 162 = .ok (.iconst 1, 1) := by decide +kernel
theorem d_Mo_leaf_163 : decode c_Mo_leaf 163 = .ok (.iadd, 1) := by decide +kernel
theorem d_Mo_leaf_164 : decode c_Mo_leaf 164 = .ok (.putfield 101, 3) := by decide +kernel
theorem d_Mo_leaf_167 : decode c_Mo_leaf 167 = .ok (.aload_n 0, 1) := by decide +kernel
theorem d_Mo_leaf_168 : decode c_Mo_leaf 168 = .ok (.iconst 2, 1) := by decide +kernel
theorem d_Mo_leaf_169 : decode c_Mo_leaf 169 = .ok (.iload_n 2, 1) := by decide +kernel
theorem d_Mo_leaf_170 : decode c_Mo_leaf 170 = .ok (.iload_n 3, 1) := by decide +kernel
theorem d_Mo_leaf_171 : decode c_Mo_leaf 171 = .ok (.iconst (-1), 1) := by decide +kernel
theorem d_Mo_leaf_172 : decode c_Mo_leaf 172 = .ok (.invokevirtual 119, 3) := by decide +kernel
theorem d_Mo_leaf_175 : decode c_Mo_leaf 175 = .ok (.goto 11, 3) := by decide +kernel
theorem d_Mo_leaf_178 : decode c_Mo_leaf 178 = .ok (.aload_n 0, 1) := by decide +kernel
theorem d_Mo_leaf_179 : decode c_Mo_leaf 179 = .ok (.iconst 0, 1) := by decide +kernel
theorem d_Mo_leaf_180 : decode c_Mo_leaf 180 = .ok (.iload_n 2, 1) := by decide +kernel
theorem d_Mo_leaf_181 : decode c_Mo_leaf 181 = .ok (.iload_n 3, 1) := by decide +kernel
theorem d_Mo_leaf_182 : decode c_Mo_leaf 182 = .ok (.iconst (-1), 1) := by decide +kernel
theorem d_Mo_leaf_183 : decode c_Mo_leaf 183 = .ok (.invokevirtual 119, 3) := by decide +kernel
theorem d_Mo_leaf_186 : decode c_Mo_leaf 186 = .ok (.iconst 1, 1) := by decide +kernel
theorem d_Mo_leaf_187 : decode c_Mo_leaf 187 = .ok (.ireturn, 1) := by decide +kernel
theorem d_Mo_count_0 : decode c_Mo_count 0 = .ok (.aload_n 0, 1) := by decide +kernel
theorem d_Mo_count_1 : decode c_Mo_count 1 = .ok (.getfield 116, 3) := by decide +kernel
theorem d_Mo_count_4 : decode c_Mo_count 4 = .ok (.istore_n 1, 1) := by decide +kernel
theorem d_Mo_count_5 : decode c_Mo_count 5 = .ok (.iconst 0, 1) := by decide +kernel
theorem d_Mo_count_6 : decode c_Mo_count 6 = .ok (.istore_n 2, 1) := by decide +kernel
theorem d_Mo_count_7 : decode c_Mo_count 7 = .ok (.iload_n 2, 1) := by decide +kernel
theorem d_Mo_count_8 : decode c_Mo_count 8 = .ok (.aload_n 0, 1) := by decide +kernel
theorem d_Mo_count_9 : decode c_Mo_count 9 = .ok (.getfield 137, 3) := by decide +kernel
theorem d_Mo_count_12 : decode c_Mo_count 12 = .ok (.if_icmp .ge 28, 3) := by decide +kernel
theorem d_Mo_count_15 : decode c_Mo_count 15 = .ok (.iload_n 1, 1) := by decide +kernel
theorem d_Mo_count_16 : decode c_Mo_count 16 = .ok (.aload_n 0, 1) := by decide +kernel
theorem d_Mo_count_17 : decode c_Mo_count 17 = .ok (.getfield 33, 3) := by decide +kernel
theorem d_Mo_count_20 : decode c_Mo_count 20 = .ok (.iload_n 2, 1) := by decide +kernel
theorem d_Mo_count_21 : decode c_Mo_count 21 = .ok (.iaload, 1) := by decide +kernel
theorem d_Mo_count_22 : decode c_Mo_count 22 = .ok (.bipush 6, 2) := by decide +kernel
theorem d_Mo_count_24 : decode c_Mo_count 24 = .ok (.if_icmp .ge 7, 3) := by decide +kernel
theorem d_Mo_count_27 : decode c_Mo_count 27 = .ok (.iconst 1, 1) := by decide +kernel
theorem d_Mo_count_28 : decode c_Mo_count 28 = .ok (.goto 4, 3) := by decide +kernel
theorem d_Mo_count_31 : decode c_Mo_count 31 = .ok (.iconst 0, 1) := by decide +kernel
theorem d_Mo_count_32 : decode c_Mo_count 32 = .ok (.iadd, 1) := by decide +kernel
theorem d_Mo_count_33 : decode c_Mo_count 33 = .ok (.istore_n 1, 1) := by decide +kernel
theorem d_Mo_count_34 : decode c_Mo_count 34 = .ok (.iinc 2 1, 3) := by decide +kernel
theorem d_Mo_count_37 : decode c_Mo_count 37 = .ok (.goto (-30), 3) := by decide +kernel
theorem d_Mo_count_40 : decode c_Mo_count 40 = .ok (.iload_n 1, 1) := by decide +kernel
theorem d_Mo_count_41 : decode c_Mo_count 41 = .ok (.ireturn, 1) := by decide +kernel
theorem d_Mo_depth_0 : decode c_Mo_depth 0 = .ok (.iconst 0, 1) := by decide +kernel
theorem d_Mo_depth_1 : decode c_Mo_depth 1 = .ok (.istore_n 1, 1) := by decide +kernel
theorem d_Mo_depth_2 : decode c_Mo_depth 2 = .ok (.iconst 0, 1) := by decide +kernel
theorem d_Mo_depth_3 : decode c_Mo_depth 3 = .ok (.istore_n 2, 1) := by decide +kernel
theorem d_Mo_depth_4 : decode c_Mo_depth 4 = .ok (.iload_n 2, 1) := by decide +kernel
theorem d_Mo_depth_5 : decode c_Mo_depth 5 = .ok (.aload_n 0, 1) := by decide +kernel
theorem d_Mo_depth_6 : decode c_Mo_depth 6 = .ok (.getfield 137, 3) := by decide +kernel
theorem d_Mo_depth_9 : decode c_Mo_depth 9 = .ok (.if_icmp .ge 28, 3) := by decide +kernel
theorem d_Mo_depth_12 : decode c_Mo_depth 12 = .ok (.iload_n 1, 1) := by decide +kernel
theorem d_Mo_depth_13 : decode c_Mo_depth 13 = .ok (.aload_n 0, 1) := by decide +kernel
theorem d_Mo_depth_14 : decode c_Mo_depth 14 = .ok (.getfield 33, 3) := by decide +kernel
theorem d_Mo_depth_17 : decode c_Mo_depth 17 = .ok (.iload_n 2, 1) := by decide +kernel
theorem d_Mo_depth_18 : decode c_Mo_depth 18 = .ok (.iaload, 1) := by decide +kernel
theorem d_Mo_depth_19 : decode c_Mo_depth 19 = .ok (.bipush 6, 2) := by decide +kernel
theorem d_Mo_depth_21 : decode c_Mo_depth 21 = .ok (.if_icmp .ne 7, 3) := by decide +kernel
theorem d_Mo_depth_24 : decode c_Mo_depth 24 = .ok (.iconst 1, 1) := by decide +kernel
theorem d_Mo_depth_25 : decode c_Mo_depth 25 = .ok (.goto 4, 3) := by decide +kernel
theorem d_Mo_depth_28 : decode c_Mo_depth 28 = .ok (.iconst 0, 1) := by decide +kernel
theorem d_Mo_depth_29 : decode c_Mo_depth 29 = .ok (.iadd, 1) := by decide +kernel
theorem d_Mo_depth_30 : decode c_Mo_depth 30 = .ok (.istore_n 1, 1) := by decide +kernel
theorem d_Mo_depth_31 : decode c_Mo_depth 31 = .ok (.iinc 2 1, 3) := by decide +kernel
theorem d_Mo_depth_34 : decode c_Mo_depth 34 = .ok (.goto (-30), 3) := by decide +kernel
theorem d_Mo_depth_37 : decode c_Mo_depth 37 = .ok (.iload_n 1, 1) := by decide +kernel
theorem d_Mo_depth_38 : decode c_Mo_depth 38 = .ok (.ireturn, 1) := by decide +kernel
theorem d_Mo_settle_0 : decode c_Mo_settle 0 = .ok (.aload_n 0, 1) := by decide +kernel
theorem d_Mo_settle_1 : decode c_Mo_settle 1 = .ok (.getfield 137, 3) := by decide +kernel
theorem d_Mo_settle_4 : decode c_Mo_settle 4 = .ok (.ifCond .le 64, 3) := by decide +kernel
theorem d_Mo_settle_7 : decode c_Mo_settle 7 = .ok (.aload_n 0, 1) := by decide +kernel
theorem d_Mo_settle_8 : decode c_Mo_settle 8 = .ok (.getfield 33, 3) := by decide +kernel
theorem d_Mo_settle_11 : decode c_Mo_settle 11 = .ok (.aload_n 0, 1) := by decide +kernel
theorem d_Mo_settle_12 : decode c_Mo_settle 12 = .ok (.getfield 137, 3) := by decide +kernel
theorem d_Mo_settle_15 : decode c_Mo_settle 15 = .ok (.iconst 1, 1) := by decide +kernel
theorem d_Mo_settle_16 : decode c_Mo_settle 16 = .ok (.isub, 1) := by decide +kernel
theorem d_Mo_settle_17 : decode c_Mo_settle 17 = .ok (.iaload, 1) := by decide +kernel
theorem d_Mo_settle_18 : decode c_Mo_settle 18 = .ok (.bipush 6, 2) := by decide +kernel
theorem d_Mo_settle_20 : decode c_Mo_settle 20 = .ok (.if_icmp .ge 48, 3) := by decide +kernel
theorem d_Mo_settle_23 : decode c_Mo_settle 23 = .ok (.aload_n 0, 1) := by decide +kernel
theorem d_Mo_settle_24 : decode c_Mo_settle 24 = .ok (.getfield 33, 3) := by decide +kernel
theorem d_Mo_settle_27 : decode c_Mo_settle 27 = .ok (.aload_n 0, 1) := by decide +kernel
theorem d_Mo_settle_28 : decode c_Mo_settle 28 = .ok (.getfield 137, 3) := by decide +kernel
theorem d_Mo_settle_31 : decode c_Mo_settle 31 = .ok (.iconst 1, 1) := by decide +kernel
theorem d_Mo_settle_32 : decode c_Mo_settle 32 = .ok (.isub, 1) := by decide +kernel
theorem d_Mo_settle_33 : decode c_Mo_settle 33 = .ok (.iaload, 1) := by decide +kernel
theorem d_Mo_settle_34 : decode c_Mo_settle 34 = .ok (.iconst 3, 1) := by decide +kernel
theorem d_Mo_settle_35 : decode c_Mo_settle 35 = .ok (.if_icmp .eq 7, 3) := by decide +kernel
theorem d_Mo_settle_38 : decode c_Mo_settle 38 = .ok (.iload_n 1, 1) := by decide +kernel
theorem d_Mo_settle_39 : decode c_Mo_settle 39 = .ok (.ifCond .ne 29, 3) := by decide +kernel
theorem d_Mo_settle_42 : decode c_Mo_settle 42 = .ok (.aload_n 0, 1) := by decide +kernel
theorem d_Mo_settle_43 : decode c_Mo_settle 43 = .ok (.dup, 1) := by decide +kernel
theorem d_Mo_settle_44 : decode c_Mo_settle 44 = .ok (.getfield 137, 3) := by decide +kernel
theorem d_Mo_settle_47 : decode c_Mo_settle 47 = .ok (.iconst 1, 1) := by decide +kernel
theorem d_Mo_settle_48 : decode c_Mo_settle 48 = .ok (.isub, 1) := by decide +kernel
theorem d_Mo_settle_49 : decode c_Mo_settle 49 = .ok (.putfield 137, 3) := by decide +kernel
theorem d_Mo_settle_52 : decode c_Mo_settle 52 = .ok (.aload_n 0, 1) := by decide +kernel
theorem d_Mo_settle_53 : decode c_Mo_settle 53 = .ok (.aload_n 0, 1) := by decide +kernel
theorem d_Mo_settle_54 : decode c_Mo_settle 54 = .ok (.getfield 33, 3) := by decide +kernel
theorem d_Mo_settle_57 : decode c_Mo_settle 57 = .ok (.aload_n 0, 1) := by decide +kernel
theorem d_Mo_settle_58 : decode c_Mo_settle 58 = .ok (.getfield 137, 3) := by decide +kernel
theorem d_Mo_settle_61 : decode c_Mo_settle 61 = .ok (.iaload, 1) := by decide +kernel
theorem d_Mo_settle_62 : decode c_Mo_settle 62 = .ok (.invokevirtual 140, 3) := by decide +kernel
theorem d_Mo_settle_65 : decode c_Mo_settle 65 = .ok (.goto (-65), 3) := by decide +kernel
theorem d_Mo_settle_68 : decode c_Mo_settle 68 = .ok (.return_, 1) := by decide +kernel
theorem d_Mo_first_0 : decode c_Mo_first 0 = .ok (.iconst 1, 1) := by decide +kernel
theorem d_Mo_first_1 : decode c_Mo_first 1 = .ok (.istore_n 1, 1) := by decide +kernel
theorem d_Mo_first_2 : decode c_Mo_first 2 = .ok (.iload_n 1, 1) := by decide +kernel
theorem d_Mo_first_3 : decode c_Mo_first 3 = .ok (.ifCond .eq 82, 3) := by decide +kernel
theorem d_Mo_first_6 : decode c_Mo_first 6 = .ok (.aload_n 0, 1) := by decide +kernel
theorem d_Mo_first_7 : decode c_Mo_first 7 = .ok (.aload_n 0, 1) := by decide +kernel
theorem d_Mo_first_8 : decode c_Mo_first 8 = .ok (.getfield 101, 3) := by decide +kernel
theorem d_Mo_first_11 : decode c_Mo_first 11 = .ok (.invokevirtual 77, 3) := by decide +kernel
theorem d_Mo_first_14 : decode c_Mo_first 14 = .ok (.bipush 40, 2) := by decide +kernel
theorem d_Mo_first_16 : decode c_Mo_first 16 = .ok (.if_icmp .ne 55, 3) := by decide +kernel
theorem d_Mo_first_19 : decode c_Mo_first 19 = .ok (.aload_n 0, 1) := by decide +kernel
theorem d_Mo_first_20 : decode c_Mo_first 20 = .ok (.invokevirtual 144, 3) := by decide +kernel
theorem d_Mo_first_23 : decode c_Mo_first 23 = .ok (.bipush 20, 2) := by decide +kernel
theorem d_Mo_first_25 : decode c_Mo_first 25 = .ok (.if_icmp .ne 12, 3) := by decide +kernel
theorem d_Mo_first_28 : decode c_Mo_first 28 = .ok (.aload_n 0, 1) := by decide +kernel
theorem d_Mo_first_29 : decode c_Mo_first 29 = .ok (.aload_n 0, 1) := by decide +kernel
theorem d_Mo_first_30 : decode c_Mo_first 30 = .ok (.getfield 101, 3) := by decide +kernel
theorem d_Mo_first_33 : decode c_Mo_first 33 = .ok (.invokevirtual 104, 3) := by decide +kernel
theorem d_Mo_first_36 : decode c_Mo_first 36 = .ok (.ireturn, 1) := by decide +kernel
theorem d_Mo_first_37 : decode c_Mo_first 37 = .ok (.aload_n 0, 1) := by decide +kernel
theorem d_Mo_first_38 : decode c_Mo_first 38 = .ok (.getfield 33, 3) := by decide +kernel
theorem d_Mo_first_41 : decode c_Mo_first 41 = .ok (.aload_n 0, 1) := by decide +kernel
theorem d_Mo_first_42 : decode c_Mo_first 42 = .ok (.getfield 137, 3) := by decide +kernel
theorem d_Mo_first_45 : decode c_Mo_first 45 = .ok (.bipush 6, 2) := by decide +kernel
theorem d_Mo_first_47 : decode c_Mo_first 47 = .ok (.iastore, 1) := by decide +kernel
theorem d_Mo_first_48 : decode c_Mo_first 48 = .ok (.aload_n 0, 1) := by decide +kernel
theorem d_Mo_first_49 : decode c_Mo_first 49 = .ok (.dup, 1) := by decide +kernel
theorem d_Mo_first_50 : decode c_Mo_first 50 = .ok (.getfield 137, 3) := by decide +kernel
theorem d_Mo_first_53 : decode c_Mo_first 53 = .ok (.iconst 1, 1) := by decide +kernel
theorem d_Mo_first_54 : decode c_Mo_first 54 = .ok (.iadd, 1) := by decide +kernel
theorem d_Mo_first_55 : decode c_Mo_first 55 = .ok (.putfield 137, 3) := by decide +kernel
theorem d_Mo_first_58 : decode c_Mo_first 58 = .ok (.aload_n 0, 1) := by decide +kernel
theorem d_Mo_first_59 : decode c_Mo_first 59 = .ok (.dup, 1) := by decide +kernel
theorem d_Mo_first_60 : decode c_Mo_first 60 = .ok (.getfield 101, 3) := by decide +kernel
theorem d_Mo_first_63 : decode c_Mo_first 63 = .ok (.iconst 1, 1) := by decide +kernel
theorem d_Mo_first_64 : decode c_Mo_first 64 = .ok (.iadd, 1) := by decide +kernel
theorem d_Mo_first_65 : decode c_Mo_first 65 = .ok (.putfield 101, 3) := by decide +kernel
theorem d_Mo_first_68 : decode c_Mo_first 68 = .ok (.goto (-66), 3) := by decide +kernel
theorem d_Mo_first_71 : decode c_Mo_first 71 = .ok (.aload_n 0, 1) := by decide +kernel
theorem d_Mo_first_72 : decode c_Mo_first 72 = .ok (.invokevirtual 147, 3) := by decide +kernel
theorem d_Mo_first_75 : decode c_Mo_first 75 = .ok (.ifCond .ne 5, 3) := by decide +kernel
theorem d_Mo_first_78 : decode c_Mo_first 78 = .ok (.iconst 0, 1) := by decide +kernel
theorem d_Mo_first_79 : decode c_Mo_first 79 = .ok (.ireturn, 1) := by decide +kernel
theorem d_Mo_first_80 : decode c_Mo_first 80 = .ok (.iconst 0, 1) := by decide +kernel
theorem d_Mo_first_81 : decode c_Mo_first 81 = .ok (.istore_n 1, 1) := by decide +kernel
theorem d_Mo_first_82 : decode c_Mo_first 82 = .ok (.goto (-80), 3) := by decide +kernel
theorem d_Mo_first_85 : decode c_Mo_first 85 = .ok (.aload_n 0, 1) := by decide +kernel
theorem d_Mo_first_86 : decode c_Mo_first 86 = .ok (.getfield 101, 3) := by decide +kernel
theorem d_Mo_first_89 : decode c_Mo_first 89 = .ok (.aload_n 0, 1) := by decide +kernel
theorem d_Mo_first_90 : decode c_Mo_first 90 = .ok (.getfield 74, 3) := by decide +kernel
theorem d_Mo_first_93 : decode c_Mo_first 93 = .ok (.if_icmp .ne 17, 3) := by decide +kernel
theorem d_Mo_first_96 : decode c_Mo_first 96 = .ok (.aload_n 0, 1) := by decide +kernel
theorem d_Mo_first_97 : decode c_Mo_first 97 = .ok (.invokevirtual 144, 3) := by decide +kernel
theorem d_Mo_first_100 : decode c_Mo_first 100 = .ok (.ifCond .ne 10, 3) := by decide +kernel
theorem d_Mo_first_103 : decode c_Mo_first 103 = .ok (.aload_n 0, 1) := by decide +kernel
theorem d_Mo_first_104 : decode c_Mo_first 104 = .ok (.iconst 0, 1) := by decide +kernel
theorem d_Mo_first_105 : decode c_Mo_first 105 = .ok (.invokevirtual 151, 3) := by decide +kernel
theorem d_Mo_first_108 : decode c_Mo_first 108 = .ok (.iconst 1, 1) := by decide +kernel
theorem d_Mo_first_109 : decode c_Mo_first 109 = .ok (.ireturn, 1) := by decide +kernel
theorem d_Mo_first_110 : decode c_Mo_first 110 = .ok (.aload_n 0, 1) := by decide +kernel
theorem d_Mo_first_111 : decode c_Mo_first 111 = .ok (.aload_n 0, 1) := by decide +kernel
theorem d_Mo_first_112 : decode c_Mo_first 112 = .ok (.getfield 101, 3) := by decide +kernel
theorem d_Mo_first_115 : decode c_Mo_first 115 = .ok (.invokevirtual 77, 3) := by decide +kernel
theorem d_Mo_first_118 : decode c_Mo_first 118 = .ok (.bipush 41, 2) := by decide +kernel
theorem d_Mo_first_120 : decode c_Mo_first 120 = .ok (.if_icmp .ne 38, 3) := by decide +kernel
theorem d_Mo_first_123 : decode c_Mo_first 123 = .ok (.aload_n 0, 1) := by decide +kernel
theorem d_Mo_first_124 : decode c_Mo_first 124 = .ok (.invokevirtual 144, 3) := by decide +kernel
theorem d_Mo_first_127 : decode c_Mo_first 127 = .ok (.ifCond .le 31, 3) := by decide +kernel
theorem d_Mo_first_130 : decode c_Mo_first 130 = .ok (.aload_n 0, 1) := by decide +kernel
theorem d_Mo_first_131 : decode c_Mo_first 131 = .ok (.iconst 0, 1) := by decide +kernel
theorem d_Mo_first_132 : decode c_Mo_first 132 = .ok (.invokevirtual 151, 3) := by decide +kernel
theorem d_Mo_first_135 : decode c_Mo_first 135 = .ok (.aload_n 0, 1) := by decide +kernel
theorem d_Mo_first_136 : decode c_Mo_first 136 = .ok (.dup, 1) := by decide +kernel
theorem d_Mo_first_137 : decode c_Mo_first 137 = .ok (.getfield 137, 3) := by decide +kernel
theorem d_Mo_first_140 : decode c_Mo_first 140 = .ok (.iconst 1, 1) := by decide +kernel
theorem d_Mo_first_141 : decode c_Mo_first 141 = .ok (.isub, 1) := by decide +kernel
theorem d_Mo_first_142 : decode c_Mo_first 142 = .ok (.putfield 137, 3) := by decide +kernel
theorem d_Mo_first_145 : decode c_Mo_first 145 = .ok (.aload_n 0, 1) := by decide +kernel
theorem d_Mo_first_146 : decode c_Mo_first 146 = .ok (.dup, 1) := by decide +kernel
theorem d_Mo_first_147 : decode c_Mo_first 147 = .ok (.getfield 101, 3) := by decide +kernel
theorem d_Mo_first_150 : decode c_Mo_first 150 = .ok (.iconst 1, 1) := by decide +kernel
theorem d_Mo_first_151 : decode c_Mo_first 151 = .ok (.iadd, 1) := by decide +kernel
theorem d_Mo_first_152 : decode c_Mo_first 152 = .ok (.putfield 101, 3) := by decide +kernel
theorem d_Mo_first_155 : decode c_Mo_first 155 = .ok (.goto (-153), 3) := by decide +kernel
theorem d_Mo_first_158 : decode c_Mo_first 158 = .ok (.aload_n 0, 1) := by decide +kernel
theorem d_Mo_first_159 : decode c_Mo_first 159 = .ok (.bipush 32, 2) := by decide +kernel
theorem d_Mo_first_161 : decode c_Mo_first 161 = .ok (.invokevirtual 107, 3) := by decide +kernel
theorem d_Mo_first_164 : decode c_Mo_first 164 = .ok (.ifCond .ne 5, 3) := by decide +kernel
theorem d_Mo_first_167 : decode c_Mo_first 167 = .ok (.iconst 0, 1) := by decide +kernel
theorem d_Mo_first_168 : decode c_Mo_first 168 = .ok (.ireturn, 1) := by decide +kernel
theorem d_Mo_first_169 : decode c_Mo_first 169 = .ok (.aload_n 0, 1) := by decide +kernel
theorem d_Mo_first_170 : decode c_Mo_first 170 = .ok (.aload_n 0, 1) := by decide +kernel
theorem d_Mo_first_171 : decode c_Mo_first 171 = .ok (.getfield 101, 3) := by decide +kernel
theorem d_Mo_first_174 : decode c_Mo_first 174 = .ok (.aload_n 0, 1) := by decide +kernel
theorem d_Mo_first_175 : decode c_Mo_first 175 = .ok (.aload_n 0, 1) := by decide +kernel
theorem d_Mo_first_176 : decode c_Mo_first 176 = .ok (.getfield 101, 3) := by decide +kernel
theorem d_Mo_first_179 : decode c_Mo_first 179 = .ok (.invokevirtual 88, 3) := by decide +kernel
theorem d_Mo_first_182 : decode c_Mo_first 182 = .ok (.invokevirtual 91, 3) := by decide +kernel
theorem d_Mo_first_185 : decode c_Mo_first 185 = .ok (.istore_n 2, 1) := by decide +kernel
theorem d_Mo_first_186 : decode c_Mo_first 186 = .ok (.iload_n 2, 1) := by decide +kernel
theorem d_Mo_first_187 : decode c_Mo_first 187 = .ok (.ifCond .eq 12, 3) := by decide +kernel
theorem d_Mo_first_190 : decode c_Mo_first 190 = .ok (.aload_n 0, 1) := by decide +kernel
theorem d_Mo_first_191 : decode c_Mo_first 191 = .ok (.invokevirtual 130, 3) := by decide +kernel
theorem d_Mo_first_194 : decode c_Mo_first 194 = .ok (.bipush 40, 2) := by decide +kernel
theorem d_Mo_first_196 : decode c_Mo_first 196 = .ok (.if_icmp .ne 12, 3) := by decide +kernel
theorem d_Mo_first_199 : decode c_Mo_first 199 = .ok (.aload_n 0, 1) := by decide +kernel
theorem d_Mo_first_200 : decode c_Mo_first 200 = .ok (.aload_n 0, 1) := by decide +kernel
theorem d_Mo_first_201 : decode c_Mo_first 201 = .ok (.getfield 101, 3) := by decide +kernel
theorem d_Mo_first_204 : decode c_Mo_first 204 = .ok (.invokevirtual 104, 3) := by decide +kernel
theorem d_Mo_first_207 : decode c_Mo_first 207 = .ok (.ireturn, 1) := by decide +kernel
theorem d_Mo_first_208 : decode c_Mo_first 208 = .ok (.aload_n 0, 1) := by decide +kernel
theorem d_Mo_first_209 : decode c_Mo_first 209 = .ok (.dup, 1) := by decide +kernel
theorem d_Mo_first_210 : decode c_Mo_first 210 = .ok (.getfield 101, 3) := by decide +kernel
theorem d_Mo_first_213 : decode c_Mo_first 213 = .ok (.aload_n 0, 1) := by decide +kernel
theorem d_Mo_first_214 : decode c_Mo_first 214 = .ok (.aload_n 0, 1) := by decide +kernel
theorem d_Mo_first_215 : decode c_Mo_first 215 = .ok (.getfield 101, 3) := by decide +kernel
theorem d_Mo_first_218 : decode c_Mo_first 218 = .ok (.invokevirtual 88, 3) := by decide +kernel
theorem d_Mo_first_221 : decode c_Mo_first 221 = .ok (.iadd, 1) := by decide +kernel
theorem d_Mo_first_222 : decode c_Mo_first 222 = .ok (.putfield 101, 3) := by decide +kernel
theorem d_Mo_first_225 : decode c_Mo_first 225 = .ok (.aload_n 0, 1) := by decide +kernel
theorem d_Mo_first_226 : decode c_Mo_first 226 = .ok (.bipush 32, 2) := by decide +kernel
theorem d_Mo_first_228 : decode c_Mo_first 228 = .ok (.invokevirtual 107, 3) := by decide +kernel
theorem d_Mo_first_231 : decode c_Mo_first 231 = .ok (.ifCond .ne 5, 3) := by decide +kernel
theorem d_Mo_first_234 : decode c_Mo_first 234 = .ok (.iconst 0, 1) := by decide +kernel
theorem d_Mo_first_235 : decode c_Mo_first 235 = .ok (.ireturn, 1) := by decide +kernel
theorem d_Mo_first_236 : decode c_Mo_first 236 = .ok (.aload_n 0, 1) := by decide +kernel
theorem d_Mo_first_237 : decode c_Mo_first 237 = .ok (.iload_n 2, 1) := by decide +kernel
theorem d_Mo_first_238 : decode c_Mo_first 238 = .ok (.iconst 3, 1) := by decide +kernel
theorem d_Mo_first_239 : decode c_Mo_first 239 = .ok (.if_icmp .ne 7, 3) := by decide +kernel
theorem d_Mo_first_242 : decode c_Mo_first 242 = .ok (.iconst 1, 1) := by decide +kernel
theorem d_Mo_first_243 : decode c_Mo_first 243 = .ok (.goto 4, 3) := by decide +kernel
theorem d_Mo_first_246 : decode c_Mo_first 246 = .ok (.iconst 0, 1) := by decide +kernel
theorem d_Mo_first_247 : decode c_Mo_first 247 = .ok (.invokevirtual 151, 3) := by decide +kernel
theorem d_Mo_first_250 : decode c_Mo_first 250 = .ok (.aload_n 0, 1) := by decide +kernel
theorem d_Mo_first_251 : decode c_Mo_first 251 = .ok (.getfield 33, 3) := by decide +kernel
theorem d_Mo_first_254 : decode c_Mo_first 254 = .ok (.aload_n 0, 1) := by decide +kernel
theorem d_Mo_first_255 : decode c_Mo_first 255 = .ok (.getfield 137, 3) := by decide +kernel
theorem d_Mo_first_258 : decode c_Mo_first 258 = .ok (.iload_n 2, 1) := by decide +kernel
theorem d_Mo_first_259 : decode c_Mo_first 259 = .ok (.iastore, 1) := by decide +kernel
theorem d_Mo_first_260 : decode c_Mo_first 260 = .ok (.aload_n 0, 1) := by decide +kernel
theorem d_Mo_first_261 : decode c_Mo_first 261 = .ok (.dup, 1) := by decide +kernel
theorem d_Mo_first_262 : decode c_Mo_first 262 = .ok (.getfield 137, 3) := by decide +kernel
theorem d_Mo_first_265 : decode c_Mo_first 265 = .ok (.iconst 1, 1) := by decide +kernel
theorem d_Mo_first_266 : decode c_Mo_first 266 = .ok (.iadd, 1) := by decide +kernel
theorem d_Mo_first_267 : decode c_Mo_first 267 = .ok (.putfield 137, 3) := by decide +kernel
theorem d_Mo_first_270 : decode c_Mo_first 270 = .ok (.iconst 1, 1) := by decide +kernel
theorem d_Mo_first_271 : decode c_Mo_first 271 = .ok (.istore_n 1, 1) := by decide +kernel
theorem d_Mo_first_272 : decode c_Mo_first 272 = .ok (.goto (-270), 3) := by decide +kernel
theorem d_Mo_named2_0 : decode c_Mo_named2 0 = .ok (.aload_n 0, 1) := by decide +kernel
theorem d_Mo_named2_1 : decode c_Mo_named2 1 = .ok (.invokevirtual 127, 3) := by decide +kernel
theorem d_Mo_named2_4 : decode c_Mo_named2 4 = .ok (.istore_n 1, 1) := by decide +kernel
theorem d_Mo_named2_5 : decode c_Mo_named2 5 = .ok (.iload_n 1, 1) := by decide +kernel
theorem d_Mo_named2_6 : decode c_Mo_named2 6 = .ok (.iconst (-1), 1) := by decide +kernel
theorem d_Mo_named2_7 : decode c_Mo_named2 7 = .ok (.if_icmp .eq 23, 3) := by decide +kernel
theorem d_Mo_named2_10 : decode c_Mo_named2 10 = .ok (.aload_n 0, 1) := by decide +kernel
theorem d_Mo_named2_11 : decode c_Mo_named2 11 = .ok (.invokevirtual 130, 3) := by decide +kernel
theorem d_Mo_named2_14 : decode c_Mo_named2 14 = .ok (.bipush 40, 2) := by decide +kernel
theorem d_Mo_named2_16 : decode c_Mo_named2 16 = .ok (.if_icmp .ne 16, 3) := by decide +kernel
theorem d_Mo_named2_19 : decode c_Mo_named2 19 = .ok (.aload_n 0, 1) := by decide +kernel
theorem d_Mo_named2_20 : decode c_Mo_named2 20 = .ok (.aload_n 0, 1) := by decide +kernel
theorem d_Mo_named2_21 : decode c_Mo_named2 21 = .ok (.getfield 101, 3) := by decide +kernel
theorem d_Mo_named2_24 : decode c_Mo_named2 24 = .ok (.invokevirtual 104, 3) := by decide +kernel
theorem d_Mo_named2_27 : decode c_Mo_named2 27 = .ok (.ifCond .ne 5, 3) := by decide +kernel
theorem d_Mo_named2_30 : decode c_Mo_named2 30 = .ok (.iconst 0, 1) := by decide +kernel
theorem d_Mo_named2_31 : decode c_Mo_named2 31 = .ok (.ireturn, 1) := by decide +kernel
theorem d_Mo_named2_32 : decode c_Mo_named2 32 = .ok (.aload_n 0, 1) := by decide +kernel
theorem d_Mo_named2_33 : decode c_Mo_named2 33 = .ok (.dup, 1) := by decide +kernel
theorem d_Mo_named2_34 : decode c_Mo_named2 34 = .ok (.getfield 101, 3) := by decide +kernel
theorem d_Mo_named2_37 : decode c_Mo_named2 37 = .ok (.aload_n 0, 1) := by decide +kernel
theorem d_Mo_named2_38 : decode c_Mo_named2 38 = .ok (.aload_n 0, 1) := by decide +kernel
theorem d_Mo_named2_39 : decode c_Mo_named2 39 = .ok (.getfield 101, 3) := by decide +kernel
theorem d_Mo_named2_42 : decode c_Mo_named2 42 = .ok (.invokevirtual 88, 3) := by decide +kernel
theorem d_Mo_named2_45 : decode c_Mo_named2 45 = .ok (.iadd, 1) := by decide +kernel
theorem d_Mo_named2_46 : decode c_Mo_named2 46 = .ok (.putfield 101, 3) := by decide +kernel
theorem d_Mo_named2_49 : decode c_Mo_named2 49 = .ok (.aload_n 0, 1) := by decide +kernel
theorem d_Mo_named2_50 : decode c_Mo_named2 50 = .ok (.bipush 32, 2) := by decide +kernel
theorem d_Mo_named2_52 : decode c_Mo_named2 52 = .ok (.invokevirtual 107, 3) := by decide +kernel
theorem d_Mo_named2_55 : decode c_Mo_named2 55 = .ok (.ifCond .ne 5, 3) := by decide +kernel
theorem d_Mo_named2_58 : decode c_Mo_named2 58 = .ok (.iconst 0, 1) := by decide +kernel
theorem d_Mo_named2_59 : decode c_Mo_named2 59 = .ok (.ireturn, 1) := by decide +kernel
theorem d_Mo_named2_60 : decode c_Mo_named2 60 = .ok (.aload_n 0, 1) := by decide +kernel
theorem d_Mo_named2_61 : decode c_Mo_named2 61 = .ok (.invokevirtual 123, 3) := by decide +kernel
theorem d_Mo_named2_64 : decode c_Mo_named2 64 = .ok (.istore_n 2, 1) := by decide +kernel
theorem d_Mo_named2_65 : decode c_Mo_named2 65 = .ok (.iload_n 2, 1) := by decide +kernel
theorem d_Mo_named2_66 : decode c_Mo_named2 66 = .ok (.iconst (-1), 1) := by decide +kernel
theorem d_Mo_named2_67 : decode c_Mo_named2 67 = .ok (.if_icmp .ne 5, 3) := by decide +kernel
theorem d_Mo_named2_70 : decode c_Mo_named2 70 = .ok (.iconst 0, 1) := by decide +kernel
theorem d_Mo_named2_71 : decode c_Mo_named2 71 = .ok (.ireturn, 1) := by decide +kernel
theorem d_Mo_named2_72 : decode c_Mo_named2 72 = .ok (.aload_n 0, 1) := by decide +kernel
theorem d_Mo_named2_73 : decode c_Mo_named2 73 = .ok (.aload_n 0, 1) := by decide +kernel
theorem d_Mo_named2_74 : decode c_Mo_named2 74 = .ok (.getfield 101, 3) := by decide +kernel
theorem d_Mo_named2_77 : decode c_Mo_named2 77 = .ok (.invokevirtual 77, 3) := by decide +kernel
theorem d_Mo_named2_80 : decode c_Mo_named2 80 = .ok (.bipush 32, 2) := by decide +kernel
theorem d_Mo_named2_82 : decode c_Mo_named2 82 = .ok (.if_icmp .ne 36, 3) := by decide +kernel
theorem d_Mo_named2_85 : decode c_Mo_named2 85 = .ok (.aload_n 0, 1) := by decide +kernel
theorem d_Mo_named2_86 : decode c_Mo_named2 86 = .ok (.aload_n 0, 1) := by decide +kernel
theorem d_Mo_named2_87 : decode c_Mo_named2 87 = .ok (.getfield 101, 3) := by decide +kernel
theorem d_Mo_named2_90 : decode c_Mo_named2 90 = .ok (.iconst 1, 1) := by decide +kernel
theorem d_Mo_named2_91 : decode c_Mo_named2 91 = .ok (.iadd, 1) := by decide +kernel
theorem d_Mo_named2_92 : decode c_Mo_named2 92 = .ok (.invokevirtual 77, 3) := by decide +kernel
theorem d_Mo_named2_95 : decode c_Mo_named2 95 = .ok (.invokestatic 110, 3) := by decide +kernel
theorem d_Mo_named2_98 : decode c_Mo_named2 98 = .ok (.ifCond .eq 20, 3) := by decide +kernel
theorem d_Mo_named2_101 : decode c_Mo_named2 101 = .ok (.aload_n 0, 1) := by decide +kernel
theorem d_Mo_named2_102 : decode c_Mo_named2 102 = .ok (.dup, 1) := by decide +kernel
theorem d_Mo_named2_103 : decode c_Mo_named2 103 = .ok (.getfield 101, 3) := by decide +kernel
theorem d_Mo_named2_106 : decode c_Mo_named2 106 = .ok (.iconst 1, 1) := by decide +kernel
theorem d_Mo_named2_107 : decode c_Mo_named2 107 = .ok (.iadd, 1) := by decide +kernel
theorem d_Mo_named2_108 : decode c_Mo_named2 108 = .ok (.putfield 101, 3) := by decide +kernel
theorem d_Mo_named2_111 : decode c_Mo_named2 111 = .ok (.aload_n 0, 1) := by decide +kernel
theorem d_Mo_named2_112 : decode c_Mo_named2 112 = .ok (.iload_n 1, 1) := by decide +kernel
theorem d_Mo_named2_113 : decode c_Mo_named2 113 = .ok (.iload_n 2, 1) := by decide +kernel
theorem d_Mo_named2_114 : decode c_Mo_named2 114 = .ok (.invokevirtual 133, 3) := by decide +kernel
theorem d_Mo_named2_117 : decode c_Mo_named2 117 = .ok (.ireturn, 1) := by decide +kernel
theorem d_Mo_named2_118 : decode c_Mo_named2 118 = .ok (.aload_n 0, 1) := by decide +kernel
theorem d_Mo_named2_119 : decode c_Mo_named2 119 = .ok (.aload_n 0, 1) := by decide +kernel
theorem d_Mo_named2_120 : decode c_Mo_named2 120 = .ok (.getfield 101, 3) := by decide +kernel
theorem d_Mo_named2_123 : decode c_Mo_named2 123 = .ok (.invokevirtual 77, 3) := by decide +kernel
theorem d_Mo_named2_126 : decode c_Mo_named2 126 = .ok (.bipush 32, 2) := by decide +kernel
theorem d_Mo_named2_128 : decode c_Mo_named2 128 = .ok (.if_icmp .ne 39, 3) := by decide +kernel
theorem d_Mo_named2_131 : decode c_Mo_named2 131 = .ok (.aload_n 0, 1) := by decide +kernel
theorem d_Mo_named2_132 : decode c_Mo_named2 132 = .ok (.aload_n 0, 1) := by decide +kernel
theorem d_Mo_named2_133 : decode c_Mo_named2 133 = .ok (.getfield 101, 3) := by decide +kernel
theorem d_Mo_named2_136 : decode c_Mo_named2 136 = .ok (.iconst 1, 1) := by decide +kernel
theorem d_Mo_named2_137 : decode c_Mo_named2 137 = .ok (.iadd, 1) := by decide +kernel
theorem d_Mo_named2_138 : decode c_Mo_named2 138 = .ok (.invokevirtual 77, 3) := by decide +kernel
theorem d_Mo_named2_141 : decode c_Mo_named2 141 = .ok (.bipush 42, 2) := by decide +kernel
theorem d_Mo_named2_143 : decode c_Mo_named2 143 = .ok (.if_icmp .ne 24, 3) := by decide +kernel
theorem d_Mo_named2_146 : decode c_Mo_named2 146 = .ok (.aload_n 0, 1) := by decide +kernel
theorem d_Mo_named2_147 : decode c_Mo_named2 147 = .ok (.dup, 1) := by decide +kernel
theorem d_Mo_named2_148 : decode c_Mo_named2 148 = .ok (.getfield 101, 3) := by decide +kernel
theorem d_Mo_named2_151 : decode c_Mo_named2 151 = .ok (.iconst 2, 1) := by decide +kernel
theorem d_Mo_named2_152 : decode c_Mo_named2 152 = .ok (.iadd, 1) := by decide +kernel
theorem d_Mo_named2_153 : decode c_Mo_named2 153 = .ok (.putfield 101, 3) := by decide +kernel
theorem d_Mo_named2_156 : decode c_Mo_named2 156 = .ok (.aload_n 0, 1) := by decide +kernel
theorem d_Mo_named2_157 : decode c_Mo_named2 157 = .ok (.iconst 2, 1) := by decide +kernel
theorem d_Mo_named2_158 : decode c_Mo_named2 158 = .ok (.iload_n 1, 1) := by decide +kernel
theorem d_Mo_named2_159 : decode c_Mo_named2 159 = .ok (.iload_n 2, 1) := by decide +kernel
theorem d_Mo_named2_160 : decode c_Mo_named2 160 = .ok (.iconst (-1), 1) := by decide +kernel
theorem d_Mo_named2_161 : decode c_Mo_named2 161 = .ok (.invokevirtual 119, 3) := by decide +kernel
theorem d_Mo_named2_164 : decode c_Mo_named2 164 = .ok (.goto 42, 3) := by decide +kernel
theorem d_Mo_named2_167 : decode c_Mo_named2 167 = .ok (.aload_n 0, 1) := by decide +kernel
theorem d_Mo_named2_168 : decode c_Mo_named2 168 = .ok (.aload_n 0, 1) := by decide +kernel
theorem d_Mo_named2_169 : decode c_Mo_named2 169 = .ok (.getfield 101, 3) := by decide +kernel
theorem d_Mo_named2_172 : decode c_Mo_named2 172 = .ok (.invokevirtual 77, 3) := by decide +kernel
theorem d_Mo_named2_175 : decode c_Mo_named2 175 = .ok (.bipush 32, 2) := by decide +kernel
theorem d_Mo_named2_177 : decode c_Mo_named2 177 = .ok (.if_icmp .ne 21, 3) := by decide +kernel
theorem d_Mo_named2_180 : decode c_Mo_named2 180 = .ok (.aload_n 0, 1) := by decide +kernel
theorem d_Mo_named2_181 : decode c_Mo_named2 181 = .ok (.getfield 137, 3) := by decide +kernel
theorem d_Mo_named2_184 : decode c_Mo_named2 184 = .ok (.ifCond .ne 14, 3) := by decide +kernel
theorem d_Mo_named2_187 : decode c_Mo_named2 187 = .ok (.aload_n 0, 1) := by decide +kernel
theorem d_Mo_named2_188 : decode c_Mo_named2 188 = .ok (.aload_n 0, 1) := by decide +kernel
theorem d_Mo_named2_189 : decode c_Mo_named2 189 = .ok (.getfield 101, 3) := by decide +kernel
theorem d_Mo_named2_192 : decode c_Mo_named2 192 = .ok (.iconst 1, 1) := by decide +kernel
theorem d_Mo_named2_193 : decode c_Mo_named2 193 = .ok (.iadd, 1) := by decide +kernel
theorem d_Mo_named2_194 : decode c_Mo_named2 194 = .ok (.invokevirtual 104, 3) := by decide +kernel
theorem d_Mo_named2_197 : decode c_Mo_named2 197 = .ok (.ireturn, 1) := by decide +kernel
theorem d_Mo_named2_198 : decode c_Mo_named2 198 = .ok (.aload_n 0, 1) := by decide +kernel
theorem d_Mo_named2_199 : decode c_Mo_named2 199 = .ok (.iconst 0, 1) := by decide +kernel
theorem d_Mo_named2_200 : decode c_Mo_named2 200 = .ok (.iload_n 1, 1) := by decide +kernel
theorem d_Mo_named2_201 : decode c_Mo_named2 201 = .ok (.iload_n 2, 1) := by decide +kernel
theorem d_Mo_named2_202 : decode c_Mo_named2 202 = .ok (.iconst (-1), 1) := by decide +kernel
theorem d_Mo_named2_203 : decode c_Mo_named2 203 = .ok (.invokevirtual 119, 3) := by decide +kernel
theorem d_Mo_named2_206 : decode c_Mo_named2 206 = .ok (.iconst 1, 1) := by decide +kernel
theorem d_Mo_named2_207 : decode c_Mo_named2 207 = .ok (.ireturn, 1) := by decide +kernel

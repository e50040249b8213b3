theorem dX12_in_0 : decode cX12_in 0 = .ok (.lload_n 0, 1) := by decide +kernel
theorem dX12_in_1 : decode cX12_in 1 = .ok (.lload_n 2, 1) := by decide +kernel
theorem dX12_in_2 : decode cX12_in 2 = .ok (.lcmp, 1) := by decide +kernel
theorem dX12_in_3 : decode cX12_in 3 = .ok (.ifCond .lt 14, 3) := by decide +kernel
theorem dX12_in_6 : decode cX12_in 6 = .ok (.lload_n 0, 1) := by decide +kernel
theorem dX12_in_7 : decode cX12_in 7 = .ok (.lload 4, 2) := by decide +kernel
theorem dX12_in_9 : decode cX12_in 9 = .ok (.lcmp, 1) := by decide +kernel
theorem dX12_in_10 : decode cX12_in 10 = .ok (.ifCond .gt 7, 3) := by decide +kernel
theorem dX12_in_13 : decode cX12_in 13 = .ok (.iconst 1, 1) := by decide +kernel
theorem dX12_in_14 : decode cX12_in 14 = .ok (.goto 4, 3) := by decide +kernel
theorem dX12_in_17 : decode cX12_in 17 = .ok (.iconst 0, 1) := by decide +kernel
theorem dX12_in_18 : decode cX12_in 18 = .ok (.ireturn, 1) := by decide +kernel
theorem dX12_init_0 : decode cX12_init 0 = .ok (.aload_n 0, 1) := by decide +kernel
theorem dX12_init_1 : decode cX12_init 1 = .ok (.invokespecial 1, 3) := by decide +kernel
theorem dX12_init_4 : decode cX12_init 4 = .ok (.aload_n 0, 1) := by decide +kernel
theorem dX12_init_5 : decode cX12_init 5 = .ok (.sipush 150, 3) := by decide +kernel
theorem dX12_init_8 : decode cX12_init 8 = .ok (.newarray .int, 2) := by decide +kernel
theorem dX12_init_10 : decode cX12_init 10 = .ok (.putfield 7, 3) := by decide +kernel
theorem dX12_init_13 : decode cX12_init 13 = .ok (.aload_n 0, 1) := by decide +kernel
theorem dX12_init_14 : decode cX12_init 14 = .ok (.bipush 6, 2) := by decide +kernel
theorem dX12_init_16 : decode cX12_init 16 = .ok (.newarray .int, 2) := by decide +kernel
theorem dX12_init_18 : decode cX12_init 18 = .ok (.putfield 13, 3) := by decide +kernel
theorem dX12_init_21 : decode cX12_init 21 = .ok (.aload_n 0, 1) := by decide +kernel
theorem dX12_init_22 : decode cX12_init 22 = .ok (.bipush 6, 2) := by decide +kernel
theorem dX12_init_24 : decode cX12_init 24 = .ok (.newarray .int, 2) := by decide +kernel
theorem dX12_init_26 : decode cX12_init 26 = .ok (.putfield 16, 3) := by decide +kernel
theorem dX12_init_29 : decode cX12_init 29 = .ok (.aload_n 0, 1) := by decide +kernel
theorem dX12_init_30 : decode cX12_init 30 = .ok (.bipush 8, 2) := by decide +kernel
theorem dX12_init_32 : decode cX12_init 32 = .ok (.newarray .int, 2) := by decide +kernel
theorem dX12_init_34 : decode cX12_init 34 = .ok (.putfield 19, 3) := by decide +kernel
theorem dX12_init_37 : decode cX12_init 37 = .ok (.aload_n 0, 1) := by decide +kernel
theorem dX12_init_38 : decode cX12_init 38 = .ok (.bipush 6, 2) := by decide +kernel
theorem dX12_init_40 : decode cX12_init 40 = .ok (.newarray .int, 2) := by decide +kernel
theorem dX12_init_42 : decode cX12_init 42 = .ok (.putfield 22, 3) := by decide +kernel
theorem dX12_init_45 : decode cX12_init 45 = .ok (.aload_n 0, 1) := by decide +kernel
theorem dX12_init_46 : decode cX12_init 46 = .ok (.bipush 6, 2) := by decide +kernel
theorem dX12_init_48 : decode cX12_init 48 = .ok (.newarray .int, 2) := by decide +kernel
theorem dX12_init_50 : decode cX12_init 50 = .ok (.putfield 25, 3) := by decide +kernel
theorem dX12_init_53 : decode cX12_init 53 = .ok (.aload_n 0, 1) := by decide +kernel
theorem dX12_init_54 : decode cX12_init 54 = .ok (.bipush 8, 2) := by decide +kernel
theorem dX12_init_56 : decode cX12_init 56 = .ok (.newarray .int, 2) := by decide +kernel
theorem dX12_init_58 : decode cX12_init 58 = .ok (.putfield 28, 3) := by decide +kernel
theorem dX12_init_61 : decode cX12_init 61 = .ok (.aload_n 0, 1) := by decide +kernel
theorem dX12_init_62 : decode cX12_init 62 = .ok (.bipush 28, 2) := by decide +kernel
theorem dX12_init_64 : decode cX12_init 64 = .ok (.newarray .int, 2) := by decide +kernel
theorem dX12_init_66 : decode cX12_init 66 = .ok (.putfield 31, 3) := by decide +kernel
theorem dX12_init_69 : decode cX12_init 69 = .ok (.aload_n 0, 1) := by decide +kernel
theorem dX12_init_70 : decode cX12_init 70 = .ok (.bipush 28, 2) := by decide +kernel
theorem dX12_init_72 : decode cX12_init 72 = .ok (.newarray .int, 2) := by decide +kernel
theorem dX12_init_74 : decode cX12_init 74 = .ok (.putfield 34, 3) := by decide +kernel
theorem dX12_init_77 : decode cX12_init 77 = .ok (.aload_n 0, 1) := by decide +kernel
theorem dX12_init_78 : decode cX12_init 78 = .ok (.sipush 290, 3) := by decide +kernel
theorem dX12_init_81 : decode cX12_init 81 = .ok (.newarray .int, 2) := by decide +kernel
theorem dX12_init_83 : decode cX12_init 83 = .ok (.putfield 37, 3) := by decide +kernel
theorem dX12_init_86 : decode cX12_init 86 = .ok (.aload_n 0, 1) := by decide +kernel
theorem dX12_init_87 : decode cX12_init 87 = .ok (.bipush 6, 2) := by decide +kernel
theorem dX12_init_89 : decode cX12_init 89 = .ok (.newarray .int, 2) := by decide +kernel
theorem dX12_init_91 : decode cX12_init 91 = .ok (.putfield 40, 3) := by decide +kernel
theorem dX12_init_94 : decode cX12_init 94 = .ok (.aload_n 0, 1) := by decide +kernel
theorem dX12_init_95 : decode cX12_init 95 = .ok (.bipush 30, 2) := by decide +kernel
theorem dX12_init_97 : decode cX12_init 97 = .ok (.newarray .int, 2) := by decide +kernel
theorem dX12_init_99 : decode cX12_init 99 = .ok (.putfield 43, 3) := by decide +kernel
theorem dX12_init_102 : decode cX12_init 102 = .ok (.aload_n 0, 1) := by decide +kernel
theorem dX12_init_103 : decode cX12_init 103 = .ok (.bipush 30, 2) := by decide +kernel
theorem dX12_init_105 : decode cX12_init 105 = .ok (.newarray .int, 2) := by decide +kernel
theorem dX12_init_107 : decode cX12_init 107 = .ok (.putfield 46, 3) := by decide +kernel
theorem dX12_init_110 : decode cX12_init 110 = .ok (.aload_n 0, 1) := by decide +kernel
theorem dX12_init_111 : decode cX12_init 111 = .ok (.bipush 6, 2) := by decide +kernel
theorem dX12_init_113 : decode cX12_init 113 = .ok (.newarray .int, 2) := by decide +kernel
theorem dX12_init_115 : decode cX12_init 115 = .ok (.putfield 49, 3) := by decide +kernel
theorem dX12_init_118 : decode cX12_init 118 = .ok (.aload_n 0, 1) := by decide +kernel
theorem dX12_init_119 : decode cX12_init 119 = .ok (.bipush 6, 2) := by decide +kernel
theorem dX12_init_121 : decode cX12_init 121 = .ok (.newarray .int, 2) := by decide +kernel
theorem dX12_init_123 : decode cX12_init 123 = .ok (.putfield 52, 3) := by decide +kernel
theorem dX12_init_126 : decode cX12_init 126 = .ok (.aload_n 0, 1) := by decide +kernel
theorem dX12_init_127 : decode cX12_init 127 = .ok (.sipush 642, 3) := by decide +kernel
theorem dX12_init_130 : decode cX12_init 130 = .ok (.newarray .int, 2) := by decide +kernel
theorem dX12_init_132 : decode cX12_init 132 = .ok (.putfield 55, 3) := by decide +kernel
theorem dX12_init_135 : decode cX12_init 135 = .ok (.aload_n 0, 1) := by decide +kernel
theorem dX12_init_136 : decode cX12_init 136 = .ok (.invokevirtual 58, 3) := by decide +kernel
theorem dX12_init_139 : decode cX12_init 139 = .ok (.return_, 1) := by decide +kernel
theorem dX12_type_0 : decode cX12_type 0 = .ok (.iload_n 1, 1) := by decide +kernel
theorem dX12_type_1 : decode cX12_type 1 = .ok (.i2l, 1) := by decide +kernel
theorem dX12_type_2 : decode cX12_type 2 = .ok (.lconst 0, 1) := by decide +kernel
theorem dX12_type_3 : decode cX12_type 3 = .ok (.ldc2_w 61, 3) := by decide +kernel
theorem dX12_type_6 : decode cX12_type 6 = .ok (.invokestatic 63, 3) := by decide +kernel
theorem dX12_type_9 : decode cX12_type 9 = .ok (.ifCond .ne 5, 3) := by decide +kernel
theorem dX12_type_12 : decode cX12_type 12 = .ok (.iconst (-1), 1) := by decide +kernel
theorem dX12_type_13 : decode cX12_type 13 = .ok (.ireturn, 1) := by decide +kernel
theorem dX12_type_14 : decode cX12_type 14 = .ok (.aload_n 0, 1) := by decide +kernel
theorem dX12_type_15 : decode cX12_type 15 = .ok (.getfield 67, 3) := by decide +kernel
theorem dX12_type_18 : decode cX12_type 18 = .ok (.sipush 150, 3) := by decide +kernel
theorem dX12_type_21 : decode cX12_type 21 = .ok (.if_icmp .ne 6, 3) := by decide +kernel
theorem dX12_type_24 : decode cX12_type 24 = .ok (.bipush (-3), 2) := by decide +kernel
theorem dX12_type_26 : decode cX12_type 26 = .ok (.ireturn, 1) := by decide +kernel
theorem dX12_type_27 : decode cX12_type 27 = .ok (.aload_n 0, 1) := by decide +kernel
theorem dX12_type_28 : decode cX12_type 28 = .ok (.getfield 7, 3) := by decide +kernel
theorem dX12_type_31 : decode cX12_type 31 = .ok (.aload_n 0, 1) := by decide +kernel
theorem dX12_type_32 : decode cX12_type 32 = .ok (.getfield 67, 3) := by decide +kernel
theorem dX12_type_35 : decode cX12_type 35 = .ok (.iload_n 1, 1) := by decide +kernel
theorem dX12_type_36 : decode cX12_type 36 = .ok (.iastore, 1) := by decide +kernel
theorem dX12_type_37 : decode cX12_type 37 = .ok (.aload_n 0, 1) := by decide +kernel
theorem dX12_type_38 : decode cX12_type 38 = .ok (.dup, 1) := by decide +kernel
theorem dX12_type_39 : decode cX12_type 39 = .ok (.getfield 67, 3) := by decide +kernel
theorem dX12_type_42 : decode cX12_type 42 = .ok (.iconst 1, 1) := by decide +kernel
theorem dX12_type_43 : decode cX12_type 43 = .ok (.iadd, 1) := by decide +kernel
theorem dX12_type_44 : decode cX12_type 44 = .ok (.putfield 67, 3) := by decide +kernel
theorem dX12_type_47 : decode cX12_type 47 = .ok (.aload_n 0, 1) := by decide +kernel
theorem dX12_type_48 : decode cX12_type 48 = .ok (.getfield 67, 3) := by decide +kernel
theorem dX12_type_51 : decode cX12_type 51 = .ok (.ireturn, 1) := by decide +kernel
theorem dX12_clear_0 : decode cX12_clear 0 = .ok (.aload_n 0, 1) := by decide +kernel
theorem dX12_clear_1 : decode cX12_clear 1 = .ok (.getfield 67, 3) := by decide +kernel
theorem dX12_clear_4 : decode cX12_clear 4 = .ok (.istore_n 1, 1) := by decide +kernel
theorem dX12_clear_5 : decode cX12_clear 5 = .ok (.aload_n 0, 1) := by decide +kernel
theorem dX12_clear_6 : decode cX12_clear 6 = .ok (.iconst 0, 1) := by decide +kernel
theorem dX12_clear_7 : decode cX12_clear 7 = .ok (.putfield 67, 3) := by decide +kernel
theorem dX12_clear_10 : decode cX12_clear 10 = .ok (.iload_n 1, 1) := by decide +kernel
theorem dX12_clear_11 : decode cX12_clear 11 = .ok (.ireturn, 1) := by decide +kernel
theorem dX12_isLetter_0 : decode cX12_isLetter 0 = .ok (.iload_n 0, 1) := by decide +kernel
theorem dX12_isLetter_1 : decode cX12_isLetter 1 = .ok (.i2l, 1) := by decide +kernel
theorem dX12_isLetter_2 : decode cX12_isLetter 2 = .ok (.ldc2_w 71, 3) := by decide +kernel
theorem dX12_isLetter_5 : decode cX12_isLetter 5 = .ok (.ldc2_w 73, 3) := by decide +kernel
theorem dX12_isLetter_8 : decode cX12_isLetter 8 = .ok (.invokestatic 63, 3) := by decide +kernel
theorem dX12_isLetter_11 : decode cX12_isLetter 11 = .ok (.ireturn, 1) := by decide +kernel
theorem dX12_isFigure_0 : decode cX12_isFigure 0 = .ok (.iload_n 0, 1) := by decide +kernel
theorem dX12_isFigure_1 : decode cX12_isFigure 1 = .ok (.i2l, 1) := by decide +kernel
theorem dX12_isFigure_2 : decode cX12_isFigure 2 = .ok (.ldc2_w 75, 3) := by decide +kernel
theorem dX12_isFigure_5 : decode cX12_isFigure 5 = .ok (.ldc2_w 77, 3) := by decide +kernel
theorem dX12_isFigure_8 : decode cX12_isFigure 8 = .ok (.invokestatic 63, 3) := by decide +kernel
theorem dX12_isFigure_11 : decode cX12_isFigure 11 = .ok (.ireturn, 1) := by decide +kernel
theorem dX12_readLetters_0 : decode cX12_readLetters 0 = .ok (.aload_n 0, 1) := by decide +kernel
theorem dX12_readLetters_1 : decode cX12_readLetters 1 = .ok (.aload_n 0, 1) := by decide +kernel
theorem dX12_readLetters_2 : decode cX12_readLetters 2 = .ok (.getfield 7, 3) := by decide +kernel
theorem dX12_readLetters_5 : decode cX12_readLetters 5 = .ok (.aload_n 0, 1) := by decide +kernel
theorem dX12_readLetters_6 : decode cX12_readLetters 6 = .ok (.getfield 79, 3) := by decide +kernel
theorem dX12_readLetters_9 : decode cX12_readLetters 9 = .ok (.iaload, 1) := by decide +kernel
theorem dX12_readLetters_10 : decode cX12_readLetters 10 = .ok (.putfield 82, 3) := by decide +kernel
theorem dX12_readLetters_13 : decode cX12_readLetters 13 = .ok (.aload_n 0, 1) := by decide +kernel
theorem dX12_readLetters_14 : decode cX12_readLetters 14 = .ok (.getfield 79, 3) := by decide +kernel
theorem dX12_readLetters_17 : decode cX12_readLetters 17 = .ok (.aload_n 0, 1) := by decide +kernel
theorem dX12_readLetters_18 : decode cX12_readLetters 18 = .ok (.getfield 67, 3) := by decide +kernel
theorem dX12_readLetters_21 : decode cX12_readLetters 21 = .ok (.if_icmp .ge 31, 3) := by decide +kernel
theorem dX12_readLetters_24 : decode cX12_readLetters 24 = .ok (.aload_n 0, 1) := by decide +kernel
theorem dX12_readLetters_25 : decode cX12_readLetters 25 = .ok (.getfield 7, 3) := by decide +kernel
theorem dX12_readLetters_28 : decode cX12_readLetters 28 = .ok (.aload_n 0, 1) := by decide +kernel
theorem dX12_readLetters_29 : decode cX12_readLetters 29 = .ok (.getfield 79, 3) := by decide +kernel
theorem dX12_readLetters_32 : decode cX12_readLetters 32 = .ok (.iaload, 1) := by decide +kernel
theorem dX12_readLetters_33 : decode cX12_readLetters 33 = .ok (.invokestatic 85, 3) := by decide +kernel
theorem dX12_readLetters_36 : decode cX12_readLetters 36 = .ok (.ifCond .eq 16, 3) := by decide +kernel
theorem dX12_readLetters_39 : decode cX12_readLetters 39 = .ok (.aload_n 0, 1) := by decide +kernel
theorem dX12_readLetters_40 : decode cX12_readLetters 40 = .ok (.dup, 1) := by decide +kernel
theorem dX12_readLetters_41 : decode cX12_readLetters 41 = .ok (.getfield 79, 3) := by decide +kernel
theorem dX12_readLetters_44 : decode cX12_readLetters 44 = .ok (.iconst 1, 1) := by decide +kernel
theorem dX12_readLetters_45 : decode cX12_readLetters 45 = .ok (.iadd, 1) := by decide +kernel
theorem dX12_readLetters_46 : decode cX12_readLetters 46 = .ok (.putfield 79, 3) := by decide +kernel
theorem dX12_readLetters_49 : decode cX12_readLetters 49 = .ok (.goto (-36), 3) := by decide +kernel
theorem dX12_readLetters_52 : decode cX12_readLetters 52 = .ok (.aload_n 0, 1) := by decide +kernel
theorem dX12_readLetters_53 : decode cX12_readLetters 53 = .ok (.aload_n 0, 1) := by decide +kernel
theorem dX12_readLetters_54 : decode cX12_readLetters 54 = .ok (.getfield 79, 3) := by decide +kernel
theorem dX12_readLetters_57 : decode cX12_readLetters 57 = .ok (.aload_n 0, 1) := by decide +kernel
theorem dX12_readLetters_58 : decode cX12_readLetters 58 = .ok (.getfield 89, 3) := by decide +kernel
theorem dX12_readLetters_61 : decode cX12_readLetters 61 = .ok (.isub, 1) := by decide +kernel
theorem dX12_readLetters_62 : decode cX12_readLetters 62 = .ok (.iconst 1, 1) := by decide +kernel
theorem dX12_readLetters_63 : decode cX12_readLetters 63 = .ok (.if_icmp .ne 43, 3) := by decide +kernel
theorem dX12_readLetters_66 : decode cX12_readLetters 66 = .ok (.aload_n 0, 1) := by decide +kernel
theorem dX12_readLetters_67 : decode cX12_readLetters 67 = .ok (.getfield 82, 3) := by decide +kernel
theorem dX12_readLetters_70 : decode cX12_readLetters 70 = .ok (.bipush 116, 2) := by decide +kernel
theorem dX12_readLetters_72 : decode cX12_readLetters 72 = .ok (.if_icmp .eq 30, 3) := by decide +kernel
theorem dX12_readLetters_75 : decode cX12_readLetters 75 = .ok (.aload_n 0, 1) := by decide +kernel
theorem dX12_readLetters_76 : decode cX12_readLetters 76 = .ok (.getfield 82, 3) := by decide +kernel
theorem dX12_readLetters_79 : decode cX12_readLetters 79 = .ok (.bipush 110, 2) := by decide +kernel
theorem dX12_readLetters_81 : decode cX12_readLetters 81 = .ok (.if_icmp .eq 21, 3) := by decide +kernel
theorem dX12_readLetters_84 : decode cX12_readLetters 84 = .ok (.aload_n 0, 1) := by decide +kernel
theorem dX12_readLetters_85 : decode cX12_readLetters 85 = .ok (.getfield 82, 3) := by decide +kernel
theorem dX12_readLetters_88 : decode cX12_readLetters 88 = .ok (.bipush 109, 2) := by decide +kernel
theorem dX12_readLetters_90 : decode cX12_readLetters 90 = .ok (.if_icmp .eq 12, 3) := by decide +kernel
theorem dX12_readLetters_93 : decode cX12_readLetters 93 = .ok (.aload_n 0, 1) := by decide +kernel
theorem dX12_readLetters_94 : decode cX12_readLetters 94 = .ok (.getfield 82, 3) := by decide +kernel
theorem dX12_readLetters_97 : decode cX12_readLetters 97 = .ok (.bipush 100, 2) := by decide +kernel
theorem dX12_readLetters_99 : decode cX12_readLetters 99 = .ok (.if_icmp .ne 7, 3) := by decide +kernel
theorem dX12_readLetters_102 : decode cX12_readLetters 102 = .ok (.iconst 1, 1) := by decide +kernel
theorem dX12_readLetters_103 : decode cX12_readLetters 103 = .ok (.goto 4, 3) := by decide +kernel
theorem dX12_readLetters_106 : decode cX12_readLetters 106 = .ok (.iconst 4, 1) := by decide +kernel
theorem dX12_readLetters_107 : decode cX12_readLetters 107 = .ok (.putfield 92, 3) := by decide +kernel
theorem dX12_readLetters_110 : decode cX12_readLetters 110 = .ok (.return_, 1) := by decide +kernel
theorem dX12_readNumber_0 : decode cX12_readNumber 0 = .ok (.iconst 0, 1) := by decide +kernel
theorem dX12_readNumber_1 : decode cX12_readNumber 1 = .ok (.istore_n 1, 1) := by decide +kernel
theorem dX12_readNumber_2 : decode cX12_readNumber 2 = .ok (.aload_n 0, 1) := by decide +kernel
theorem dX12_readNumber_3 : decode cX12_readNumber 3 = .ok (.getfield 79, 3) := by decide +kernel
theorem dX12_readNumber_6 : decode cX12_readNumber 6 = .ok (.aload_n 0, 1) := by decide +kernel
theorem dX12_readNumber_7 : decode cX12_readNumber 7 = .ok (.getfield 67, 3) := by decide +kernel
theorem dX12_readNumber_10 : decode cX12_readNumber 10 = .ok (.if_icmp .ge 59, 3) := by decide +kernel
theorem dX12_readNumber_13 : decode cX12_readNumber 13 = .ok (.aload_n 0, 1) := by decide +kernel
theorem dX12_readNumber_14 : decode cX12_readNumber 14 = .ok (.getfield 7, 3) := by decide +kernel
theorem dX12_readNumber_17 : decode cX12_readNumber 17 = .ok (.aload_n 0, 1) := by decide +kernel
theorem dX12_readNumber_18 : decode cX12_readNumber 18 = .ok (.getfield 79, 3) := by decide +kernel
theorem dX12_readNumber_21 : decode cX12_readNumber 21 = .ok (.iaload, 1) := by decide +kernel
theorem dX12_readNumber_22 : decode cX12_readNumber 22 = .ok (.invokestatic 95, 3) := by decide +kernel
theorem dX12_readNumber_25 : decode cX12_readNumber 25 = .ok (.ifCond .eq 44, 3) := by decide +kernel
theorem dX12_readNumber_28 : decode cX12_readNumber 28 = .ok (.iload_n 1, 1) := by decide +kernel
theorem dX12_readNumber_29 : decode cX12_readNumber 29 = .ok (.bipush 99, 2) := by decide +kernel
theorem dX12_readNumber_31 : decode cX12_readNumber 31 = .ok (.if_icmp .le 7, 3) := by decide +kernel
theorem dX12_readNumber_34 : decode cX12_readNumber 34 = .ok (.iload_n 1, 1) := by decide +kernel
theorem dX12_readNumber_35 : decode cX12_readNumber 35 = .ok (.goto 20, 3) := by decide +kernel
theorem dX12_readNumber_38 : decode cX12_readNumber 38 = .ok (.bipush 10, 2) := by decide +kernel
theorem dX12_readNumber_40 : decode cX12_readNumber 40 = .ok (.iload_n 1, 1) := by decide +kernel
theorem dX12_readNumber_41 : decode cX12_readNumber 41 = .ok (.imul, 1) := by decide +kernel
theorem dX12_readNumber_42 : decode cX12_readNumber 42 = .ok (.aload_n 0, 1) := by decide +kernel
theorem dX12_readNumber_43 : decode cX12_readNumber 43 = .ok (.getfield 7, 3) := by decide +kernel
theorem dX12_readNumber_46 : decode cX12_readNumber 46 = .ok (.aload_n 0, 1) := by decide +kernel
theorem dX12_readNumber_47 : decode cX12_readNumber 47 = .ok (.getfield 79, 3) := by decide +kernel
theorem dX12_readNumber_50 : decode cX12_readNumber 50 = .ok (.iaload, 1) := by decide +kernel
theorem dX12_readNumber_51 : decode cX12_readNumber 51 = .ok (.iadd, 1) := by decide +kernel
theorem dX12_readNumber_52 : decode cX12_readNumber 52 = .ok (.bipush 48, 2) := by decide +kernel
theorem dX12_readNumber_54 : decode cX12_readNumber 54 = .ok (.isub, 1) := by decide +kernel
theorem dX12_readNumber_55 : decode cX12_readNumber 55 = .ok (.istore_n 1, 1) := by decide +kernel
theorem dX12_readNumber_56 : decode cX12_readNumber 56 = .ok (.aload_n 0, 1) := by decide +kernel
theorem dX12_readNumber_57 : decode cX12_readNumber 57 = .ok (.dup, 1) := by decide +kernel
theorem dX12_readNumber_58 : decode cX12_readNumber 58 = .ok (.getfield 79, 3) := by decide +kernel
theorem dX12_readNumber_61 : decode cX12_readNumber 61 = .ok (.iconst 1, 1) := by decide +kernel
theorem dX12_readNumber_62 : decode cX12_readNumber 62 = .ok (.iadd, 1) := by decide +kernel
theorem dX12_readNumber_63 : decode cX12_readNumber 63 = .ok (.putfield 79, 3) := by decide +kernel
theorem dX12_readNumber_66 : decode cX12_readNumber 66 = .ok (.goto (-64), 3) := by decide +kernel
theorem dX12_readNumber_69 : decode cX12_readNumber 69 = .ok (.aload_n 0, 1) := by decide +kernel
theorem dX12_readNumber_70 : decode cX12_readNumber 70 = .ok (.iload_n 1, 1) := by decide +kernel
theorem dX12_readNumber_71 : decode cX12_readNumber 71 = .ok (.bipush 99, 2) := by decide +kernel
theorem dX12_readNumber_73 : decode cX12_readNumber 73 = .ok (.if_icmp .gt 30, 3) := by decide +kernel
theorem dX12_readNumber_76 : decode cX12_readNumber 76 = .ok (.aload_n 0, 1) := by decide +kernel
theorem dX12_readNumber_77 : decode cX12_readNumber 77 = .ok (.getfield 79, 3) := by decide +kernel
theorem dX12_readNumber_80 : decode cX12_readNumber 80 = .ok (.aload_n 0, 1) := by decide +kernel
theorem dX12_readNumber_81 : decode cX12_readNumber 81 = .ok (.getfield 89, 3) := by decide +kernel
theorem dX12_readNumber_84 : decode cX12_readNumber 84 = .ok (.isub, 1) := by decide +kernel
theorem dX12_readNumber_85 : decode cX12_readNumber 85 = .ok (.iconst 1, 1) := by decide +kernel
theorem dX12_readNumber_86 : decode cX12_readNumber 86 = .ok (.if_icmp .le 21, 3) := by decide +kernel
theorem dX12_readNumber_89 : decode cX12_readNumber 89 = .ok (.aload_n 0, 1) := by decide +kernel
theorem dX12_readNumber_90 : decode cX12_readNumber 90 = .ok (.getfield 7, 3) := by decide +kernel
theorem dX12_readNumber_93 : decode cX12_readNumber 93 = .ok (.aload_n 0, 1) := by decide +kernel
theorem dX12_readNumber_94 : decode cX12_readNumber 94 = .ok (.getfield 89, 3) := by decide +kernel
theorem dX12_readNumber_97 : decode cX12_readNumber 97 = .ok (.iaload, 1) := by decide +kernel
theorem dX12_readNumber_98 : decode cX12_readNumber 98 = .ok (.bipush 48, 2) := by decide +kernel
theorem dX12_readNumber_100 : decode cX12_readNumber 100 = .ok (.if_icmp .ne 7, 3) := by decide +kernel
theorem dX12_readNumber_103 : decode cX12_readNumber 103 = .ok (.iconst 4, 1) := by decide +kernel
theorem dX12_readNumber_104 : decode cX12_readNumber 104 = .ok (.goto 4, 3) := by decide +kernel
theorem dX12_readNumber_107 : decode cX12_readNumber 107 = .ok (.iconst 2, 1) := by decide +kernel
theorem dX12_readNumber_108 : decode cX12_readNumber 108 = .ok (.putfield 92, 3) := by decide +kernel
theorem dX12_readNumber_111 : decode cX12_readNumber 111 = .ok (.aload_n 0, 1) := by decide +kernel
theorem dX12_readNumber_112 : decode cX12_readNumber 112 = .ok (.iload_n 1, 1) := by decide +kernel
theorem dX12_readNumber_113 : decode cX12_readNumber 113 = .ok (.putfield 82, 3) := by decide +kernel
theorem dX12_readNumber_116 : decode cX12_readNumber 116 = .ok (.return_, 1) := by decide +kernel
theorem dX12_reads_0 : decode cX12_reads 0 = .ok (.aload_n 0, 1) := by decide +kernel
theorem dX12_reads_1 : decode cX12_reads 1 = .ok (.getfield 79, 3) := by decide +kernel
theorem dX12_reads_4 : decode cX12_reads 4 = .ok (.aload_n 0, 1) := by decide +kernel
theorem dX12_reads_5 : decode cX12_reads 5 = .ok (.getfield 67, 3) := by decide +kernel
theorem dX12_reads_8 : decode cX12_reads 8 = .ok (.if_icmp .ge 30, 3) := by decide +kernel
theorem dX12_reads_11 : decode cX12_reads 11 = .ok (.aload_n 0, 1) := by decide +kernel
theorem dX12_reads_12 : decode cX12_reads 12 = .ok (.getfield 7, 3) := by decide +kernel
theorem dX12_reads_15 : decode cX12_reads 15 = .ok (.aload_n 0, 1) := by decide +kernel
theorem dX12_reads_16 : decode cX12_reads 16 = .ok (.getfield 79, 3) := by decide +kernel
theorem dX12_reads_19 : decode cX12_reads 19 = .ok (.iaload, 1) := by decide +kernel
theorem dX12_reads_20 : decode cX12_reads 20 = .ok (.bipush 32, 2) := by decide +kernel
theorem dX12_reads_22 : decode cX12_reads 22 = .ok (.if_icmp .ne 16, 3) := by decide +kernel
theorem dX12_reads_25 : decode cX12_reads 25 = .ok (.aload_n 0, 1) := by decide +kernel
theorem dX12_reads_26 : decode cX12_reads 26 = .ok (.dup, 1) := by decide +kernel
theorem dX12_reads_27 : decode cX12_reads 27 = .ok (.getfield 79, 3) := by decide +kernel
theorem dX12_reads_30 : decode cX12_reads 30 = .ok (.iconst 1, 1) := by decide +kernel
theorem dX12_reads_31 : decode cX12_reads 31 = .ok (.iadd, 1) := by decide +kernel
theorem dX12_reads_32 : decode cX12_reads 32 = .ok (.putfield 79, 3) := by decide +kernel
theorem dX12_reads_35 : decode cX12_reads 35 = .ok (.goto (-35), 3) := by decide +kernel
theorem dX12_reads_38 : decode cX12_reads 38 = .ok (.aload_n 0, 1) := by decide +kernel
theorem dX12_reads_39 : decode cX12_reads 39 = .ok (.aload_n 0, 1) := by decide +kernel
theorem dX12_reads_40 : decode cX12_reads 40 = .ok (.getfield 79, 3) := by decide +kernel
theorem dX12_reads_43 : decode cX12_reads 43 = .ok (.putfield 89, 3) := by decide +kernel
theorem dX12_reads_46 : decode cX12_reads 46 = .ok (.aload_n 0, 1) := by decide +kernel
theorem dX12_reads_47 : decode cX12_reads 47 = .ok (.getfield 79, 3) := by decide +kernel
theorem dX12_reads_50 : decode cX12_reads 50 = .ok (.aload_n 0, 1) := by decide +kernel
theorem dX12_reads_51 : decode cX12_reads 51 = .ok (.getfield 67, 3) := by decide +kernel
theorem dX12_reads_54 : decode cX12_reads 54 = .ok (.if_icmp .ne 11, 3) := by decide +kernel
theorem dX12_reads_57 : decode cX12_reads 57 = .ok (.aload_n 0, 1) := by decide +kernel
theorem dX12_reads_58 : decode cX12_reads 58 = .ok (.iconst 0, 1) := by decide +kernel
theorem dX12_reads_59 : decode cX12_reads 59 = .ok (.putfield 92, 3) := by decide +kernel
theorem dX12_reads_62 : decode cX12_reads 62 = .ok (.goto 92, 3) := by decide +kernel
theorem dX12_reads_65 : decode cX12_reads 65 = .ok (.aload_n 0, 1) := by decide +kernel
theorem dX12_reads_66 : decode cX12_reads 66 = .ok (.getfield 7, 3) := by decide +kernel
theorem dX12_reads_69 : decode cX12_reads 69 = .ok (.aload_n 0, 1) := by decide +kernel
theorem dX12_reads_70 : decode cX12_reads 70 = .ok (.getfield 79, 3) := by decide +kernel
theorem dX12_reads_73 : decode cX12_reads 73 = .ok (.iaload, 1) := by decide +kernel
theorem dX12_reads_74 : decode cX12_reads 74 = .ok (.invokestatic 85, 3) := by decide +kernel
theorem dX12_reads_77 : decode cX12_reads 77 = .ok (.ifCond .eq 10, 3) := by decide +kernel
theorem dX12_reads_80 : decode cX12_reads 80 = .ok (.aload_n 0, 1) := by decide +kernel
theorem dX12_reads_81 : decode cX12_reads 81 = .ok (.invokevirtual 98, 3) := by decide +kernel
theorem dX12_reads_84 : decode cX12_reads 84 = .ok (.goto 70, 3) := by decide +kernel
theorem dX12_reads_87 : decode cX12_reads 87 = .ok (.aload_n 0, 1) := by decide +kernel
theorem dX12_reads_88 : decode cX12_reads 88 = .ok (.getfield 7, 3) := by decide +kernel
theorem dX12_reads_91 : decode cX12_reads 91 = .ok (.aload_n 0, 1) := by decide +kernel
theorem dX12_reads_92 : decode cX12_reads 92 = .ok (.getfield 79, 3) := by decide +kernel
theorem dX12_reads_95 : decode cX12_reads 95 = .ok (.iaload, 1) := by decide +kernel
theorem dX12_reads_96 : decode cX12_reads 96 = .ok (.invokestatic 95, 3) := by decide +kernel
theorem dX12_reads_99 : decode cX12_reads 99 = .ok (.ifCond .eq 10, 3) := by decide +kernel
theorem dX12_reads_102 : decode cX12_reads 102 = .ok (.aload_n 0, 1) := by decide +kernel
theorem dX12_reads_103 : decode cX12_reads 103 = .ok (.invokevirtual 101, 3) := by decide +kernel
theorem dX12_reads_106 : decode cX12_reads 106 = .ok (.goto 48, 3) := by decide +kernel
theorem dX12_reads_109 : decode cX12_reads 109 = .ok (.aload_n 0, 1) := by decide +kernel
theorem dX12_reads_110 : decode cX12_reads 110 = .ok (.aload_n 0, 1) := by decide +kernel
theorem dX12_reads_111 : decode cX12_reads 111 = .ok (.getfield 7, 3) := by decide +kernel
theorem dX12_reads_114 : decode cX12_reads 114 = .ok (.aload_n 0, 1) := by decide +kernel
theorem dX12_reads_115 : decode cX12_reads 115 = .ok (.getfield 79, 3) := by decide +kernel
theorem dX12_reads_118 : decode cX12_reads 118 = .ok (.iaload, 1) := by decide +kernel
theorem dX12_reads_119 : decode cX12_reads 119 = .ok (.bipush 59, 2) := by decide +kernel
theorem dX12_reads_121 : decode cX12_reads 121 = .ok (.if_icmp .ne 7, 3) := by decide +kernel
theorem dX12_reads_124 : decode cX12_reads 124 = .ok (.iconst 3, 1) := by decide +kernel
theorem dX12_reads_125 : decode cX12_reads 125 = .ok (.goto 4, 3) := by decide +kernel
theorem dX12_reads_128 : decode cX12_reads 128 = .ok (.iconst 4, 1) := by decide +kernel
theorem dX12_reads_129 : decode cX12_reads 129 = .ok (.putfield 92, 3) := by decide +kernel
theorem dX12_reads_132 : decode cX12_reads 132 = .ok (.aload_n 0, 1) := by decide +kernel
theorem dX12_reads_133 : decode cX12_reads 133 = .ok (.dup, 1) := by decide +kernel
theorem dX12_reads_134 : decode cX12_reads 134 = .ok (.getfield 79, 3) := by decide +kernel
theorem dX12_reads_137 : decode cX12_reads 137 = .ok (.aload_n 0, 1) := by decide +kernel
theorem dX12_reads_138 : decode cX12_reads 138 = .ok (.getfield 92, 3) := by decide +kernel
theorem dX12_reads_141 : decode cX12_reads 141 = .ok (.iconst 3, 1) := by decide +kernel
theorem dX12_reads_142 : decode cX12_reads 142 = .ok (.if_icmp .ne 7, 3) := by decide +kernel
theorem dX12_reads_145 : decode cX12_reads 145 = .ok (.iconst 1, 1) := by decide +kernel
theorem dX12_reads_146 : decode cX12_reads 146 = .ok (.goto 4, 3) := by decide +kernel
theorem dX12_reads_149 : decode cX12_reads 149 = .ok (.iconst 0, 1) := by decide +kernel
theorem dX12_reads_150 : decode cX12_reads 150 = .ok (.iadd, 1) := by decide +kernel
theorem dX12_reads_151 : decode cX12_reads 151 = .ok (.putfield 79, 3) := by decide +kernel
theorem dX12_reads_154 : decode cX12_reads 154 = .ok (.return_, 1) := by decide +kernel
theorem dX12_number_0 : decode cX12_number 0 = .ok (.aload_n 0, 1) := by decide +kernel
theorem dX12_number_1 : decode cX12_number 1 = .ok (.invokevirtual 104, 3) := by decide +kernel
theorem dX12_number_4 : decode cX12_number 4 = .ok (.aload_n 0, 1) := by decide +kernel
theorem dX12_number_5 : decode cX12_number 5 = .ok (.getfield 92, 3) := by decide +kernel
theorem dX12_number_8 : decode cX12_number 8 = .ok (.iconst 2, 1) := by decide +kernel
theorem dX12_number_9 : decode cX12_number 9 = .ok (.if_icmp .ne 22, 3) := by decide +kernel
theorem dX12_number_12 : decode cX12_number 12 = .ok (.aload_n 0, 1) := by decide +kernel
theorem dX12_number_13 : decode cX12_number 13 = .ok (.getfield 82, 3) := by decide +kernel
theorem dX12_number_16 : decode cX12_number 16 = .ok (.i2l, 1) := by decide +kernel
theorem dX12_number_17 : decode cX12_number 17 = .ok (.iload_n 1, 1) := by decide +kernel
theorem dX12_number_18 : decode cX12_number 18 = .ok (.i2l, 1) := by decide +kernel
theorem dX12_number_19 : decode cX12_number 19 = .ok (.iload_n 2, 1) := by decide +kernel
theorem dX12_number_20 : decode cX12_number 20 = .ok (.i2l, 1) := by decide +kernel
theorem dX12_number_21 : decode cX12_number 21 = .ok (.invokestatic 63, 3) := by decide +kernel
theorem dX12_number_24 : decode cX12_number 24 = .ok (.ifCond .eq 7, 3) := by decide +kernel
theorem dX12_number_27 : decode cX12_number 27 = .ok (.iconst 1, 1) := by decide +kernel
theorem dX12_number_28 : decode cX12_number 28 = .ok (.goto 4, 3) := by decide +kernel
theorem dX12_number_31 : decode cX12_number 31 = .ok (.iconst 0, 1) := by decide +kernel
theorem dX12_number_32 : decode cX12_number 32 = .ok (.ireturn, 1) := by decide +kernel
theorem dX12_readTale_0 : decode cX12_readTale 0 = .ok (.aload_n 0, 1) := by decide +kernel
theorem dX12_readTale_1 : decode cX12_readTale 1 = .ok (.getfield 107, 3) := by decide +kernel
theorem dX12_readTale_4 : decode cX12_readTale 4 = .ok (.bipush 6, 2) := by decide +kernel
theorem dX12_readTale_6 : decode cX12_readTale 6 = .ok (.if_icmp .eq 13, 3) := by decide +kernel
theorem dX12_readTale_9 : decode cX12_readTale 9 = .ok (.aload_n 0, 1) := by decide +kernel
theorem dX12_readTale_10 : decode cX12_readTale 10 = .ok (.iconst 1, 1) := by decide +kernel
theorem dX12_readTale_11 : decode cX12_readTale 11 = .ok (.bipush 9, 2) := by decide +kernel
theorem dX12_readTale_13 : decode cX12_readTale 13 = .ok (.invokevirtual 110, 3) := by decide +kernel
theorem dX12_readTale_16 : decode cX12_readTale 16 = .ok (.ifCond .ne 5, 3) := by decide +kernel
theorem dX12_readTale_19 : decode cX12_readTale 19 = .ok (.iconst 0, 1) := by decide +kernel
theorem dX12_readTale_20 : decode cX12_readTale 20 = .ok (.ireturn, 1) := by decide +kernel
theorem dX12_readTale_21 : decode cX12_readTale 21 = .ok (.aload_n 0, 1) := by decide +kernel
theorem dX12_readTale_22 : decode cX12_readTale 22 = .ok (.getfield 13, 3) := by decide +kernel
theorem dX12_readTale_25 : decode cX12_readTale 25 = .ok (.aload_n 0, 1) := by decide +kernel
theorem dX12_readTale_26 : decode cX12_readTale 26 = .ok (.getfield 107, 3) := by decide +kernel
theorem dX12_readTale_29 : decode cX12_readTale 29 = .ok (.aload_n 0, 1) := by decide +kernel
theorem dX12_readTale_30 : decode cX12_readTale 30 = .ok (.getfield 82, 3) := by decide +kernel
theorem dX12_readTale_33 : decode cX12_readTale 33 = .ok (.iastore, 1) := by decide +kernel
theorem dX12_readTale_34 : decode cX12_readTale 34 = .ok (.aload_n 0, 1) := by decide +kernel
theorem dX12_readTale_35 : decode cX12_readTale 35 = .ok (.invokevirtual 104, 3) := by decide +kernel
theorem dX12_readTale_38 : decode cX12_readTale 38 = .ok (.aload_n 0, 1) := by decide +kernel
theorem dX12_readTale_39 : decode cX12_readTale 39 = .ok (.getfield 92, 3) := by decide +kernel
theorem dX12_readTale_42 : decode cX12_readTale 42 = .ok (.iconst 2, 1) := by decide +kernel
theorem dX12_readTale_43 : decode cX12_readTale 43 = .ok (.if_icmp .ne 23, 3) := by decide +kernel
theorem dX12_readTale_46 : decode cX12_readTale 46 = .ok (.aload_n 0, 1) := by decide +kernel
theorem dX12_readTale_47 : decode cX12_readTale 47 = .ok (.getfield 82, 3) := by decide +kernel
theorem dX12_readTale_50 : decode cX12_readTale 50 = .ok (.bipush 9, 2) := by decide +kernel
theorem dX12_readTale_52 : decode cX12_readTale 52 = .ok (.if_icmp .eq 16, 3) := by decide +kernel
theorem dX12_readTale_55 : decode cX12_readTale 55 = .ok (.aload_n 0, 1) := by decide +kernel
theorem dX12_readTale_56 : decode cX12_readTale 56 = .ok (.getfield 82, 3) := by decide +kernel
theorem dX12_readTale_59 : decode cX12_readTale 59 = .ok (.aload_n 0, 1) := by decide +kernel
theorem dX12_readTale_60 : decode cX12_readTale 60 = .ok (.getfield 107, 3) := by decide +kernel
theorem dX12_readTale_63 : decode cX12_readTale 63 = .ok (.if_icmp .lt 5, 3) := by decide +kernel
theorem dX12_readTale_66 : decode cX12_readTale 66 = .ok (.iconst 0, 1) := by decide +kernel
theorem dX12_readTale_67 : decode cX12_readTale 67 = .ok (.ireturn, 1) := by decide +kernel
theorem dX12_readTale_68 : decode cX12_readTale 68 = .ok (.aload_n 0, 1) := by decide +kernel
theorem dX12_readTale_69 : decode cX12_readTale 69 = .ok (.getfield 16, 3) := by decide +kernel
theorem dX12_readTale_72 : decode cX12_readTale 72 = .ok (.aload_n 0, 1) := by decide +kernel
theorem dX12_readTale_73 : decode cX12_readTale 73 = .ok (.getfield 107, 3) := by decide +kernel
theorem dX12_readTale_76 : decode cX12_readTale 76 = .ok (.aload_n 0, 1) := by decide +kernel
theorem dX12_readTale_77 : decode cX12_readTale 77 = .ok (.getfield 82, 3) := by decide +kernel
theorem dX12_readTale_80 : decode cX12_readTale 80 = .ok (.iastore, 1) := by decide +kernel
theorem dX12_readTale_81 : decode cX12_readTale 81 = .ok (.aload_n 0, 1) := by decide +kernel
theorem dX12_readTale_82 : decode cX12_readTale 82 = .ok (.dup, 1) := by decide +kernel
theorem dX12_readTale_83 : decode cX12_readTale 83 = .ok (.getfield 107, 3) := by decide +kernel
theorem dX12_readTale_86 : decode cX12_readTale 86 = .ok (.iconst 1, 1) := by decide +kernel
theorem dX12_readTale_87 : decode cX12_readTale 87 = .ok (.iadd, 1) := by decide +kernel
theorem dX12_readTale_88 : decode cX12_readTale 88 = .ok (.putfield 107, 3) := by decide +kernel
theorem dX12_readTale_91 : decode cX12_readTale 91 = .ok (.aload_n 0, 1) := by decide +kernel
theorem dX12_readTale_92 : decode cX12_readTale 92 = .ok (.invokevirtual 104, 3) := by decide +kernel
theorem dX12_readTale_95 : decode cX12_readTale 95 = .ok (.aload_n 0, 1) := by decide +kernel
theorem dX12_readTale_96 : decode cX12_readTale 96 = .ok (.getfield 92, 3) := by decide +kernel
theorem dX12_readTale_99 : decode cX12_readTale 99 = .ok (.iconst 3, 1) := by decide +kernel
theorem dX12_readTale_100 : decode cX12_readTale 100 = .ok (.if_icmp .ne 7, 3) := by decide +kernel
theorem dX12_readTale_103 : decode cX12_readTale 103 = .ok (.iconst 1, 1) := by decide +kernel
theorem dX12_readTale_104 : decode cX12_readTale 104 = .ok (.goto 4, 3) := by decide +kernel
theorem dX12_readTale_107 : decode cX12_readTale 107 = .ok (.iconst 0, 1) := by decide +kernel
theorem dX12_readTale_108 : decode cX12_readTale 108 = .ok (.ireturn, 1) := by decide +kernel
theorem dX12_readNights_0 : decode cX12_readNights 0 = .ok (.aload_n 0, 1) := by decide +kernel
theorem dX12_readNights_1 : decode cX12_readNights 1 = .ok (.getfield 114, 3) := by decide +kernel
theorem dX12_readNights_4 : decode cX12_readNights 4 = .ok (.ifCond .gt 13, 3) := by decide +kernel
theorem dX12_readNights_7 : decode cX12_readNights 7 = .ok (.aload_n 0, 1) := by decide +kernel
theorem dX12_readNights_8 : decode cX12_readNights 8 = .ok (.iconst 1, 1) := by decide +kernel
theorem dX12_readNights_9 : decode cX12_readNights 9 = .ok (.bipush 9, 2) := by decide +kernel
theorem dX12_readNights_11 : decode cX12_readNights 11 = .ok (.invokevirtual 110, 3) := by decide +kernel
theorem dX12_readNights_14 : decode cX12_readNights 14 = .ok (.ifCond .ne 5, 3) := by decide +kernel
theorem dX12_readNights_17 : decode cX12_readNights 17 = .ok (.iconst 0, 1) := by decide +kernel
theorem dX12_readNights_18 : decode cX12_readNights 18 = .ok (.ireturn, 1) := by decide +kernel
theorem dX12_readNights_19 : decode cX12_readNights 19 = .ok (.aload_n 0, 1) := by decide +kernel
theorem dX12_readNights_20 : decode cX12_readNights 20 = .ok (.getfield 92, 3) := by decide +kernel
theorem dX12_readNights_23 : decode cX12_readNights 23 = .ok (.iconst 2, 1) := by decide +kernel
theorem dX12_readNights_24 : decode cX12_readNights 24 = .ok (.if_icmp .ne 59, 3) := by decide +kernel
theorem dX12_readNights_27 : decode cX12_readNights 27 = .ok (.aload_n 0, 1) := by decide +kernel
theorem dX12_readNights_28 : decode cX12_readNights 28 = .ok (.getfield 114, 3) := by decide +kernel
theorem dX12_readNights_31 : decode cX12_readNights 31 = .ok (.bipush 8, 2) := by decide +kernel
theorem dX12_readNights_33 : decode cX12_readNights 33 = .ok (.if_icmp .eq 18, 3) := by decide +kernel
theorem dX12_readNights_36 : decode cX12_readNights 36 = .ok (.aload_n 0, 1) := by decide +kernel
theorem dX12_readNights_37 : decode cX12_readNights 37 = .ok (.getfield 82, 3) := by decide +kernel
theorem dX12_readNights_40 : decode cX12_readNights 40 = .ok (.i2l, 1) := by decide +kernel
theorem dX12_readNights_41 : decode cX12_readNights 41 = .ok (.lconst 1, 1) := by decide +kernel
theorem dX12_readNights_42 : decode cX12_readNights 42 = .ok (.ldc2_w 117, 3) := by decide +kernel
theorem dX12_readNights_45 : decode cX12_readNights 45 = .ok (.invokestatic 63, 3) := by decide +kernel
theorem dX12_readNights_48 : decode cX12_readNights 48 = .ok (.ifCond .ne 5, 3) := by decide +kernel
theorem dX12_readNights_51 : decode cX12_readNights 51 = .ok (.iconst 0, 1) := by decide +kernel
theorem dX12_readNights_52 : decode cX12_readNights 52 = .ok (.ireturn, 1) := by decide +kernel
theorem dX12_readNights_53 : decode cX12_readNights 53 = .ok (.aload_n 0, 1) := by decide +kernel
theorem dX12_readNights_54 : decode cX12_readNights 54 = .ok (.getfield 19, 3) := by decide +kernel
theorem dX12_readNights_57 : decode cX12_readNights 57 = .ok (.aload_n 0, 1) := by decide +kernel
theorem dX12_readNights_58 : decode cX12_readNights 58 = .ok (.getfield 114, 3) := by decide +kernel
theorem dX12_readNights_61 : decode cX12_readNights 61 = .ok (.aload_n 0, 1) := by decide +kernel
theorem dX12_readNights_62 : decode cX12_readNights 62 = .ok (.getfield 82, 3) := by decide +kernel
theorem dX12_readNights_65 : decode cX12_readNights 65 = .ok (.iastore, 1) := by decide +kernel
theorem dX12_readNights_66 : decode cX12_readNights 66 = .ok (.aload_n 0, 1) := by decide +kernel
theorem dX12_readNights_67 : decode cX12_readNights 67 = .ok (.dup, 1) := by decide +kernel
theorem dX12_readNights_68 : decode cX12_readNights 68 = .ok (.getfield 114, 3) := by decide +kernel
theorem dX12_readNights_71 : decode cX12_readNights 71 = .ok (.iconst 1, 1) := by decide +kernel
theorem dX12_readNights_72 : decode cX12_readNights 72 = .ok (.iadd, 1) := by decide +kernel
theorem dX12_readNights_73 : decode cX12_readNights 73 = .ok (.putfield 114, 3) := by decide +kernel
theorem dX12_readNights_76 : decode cX12_readNights 76 = .ok (.aload_n 0, 1) := by decide +kernel
theorem dX12_readNights_77 : decode cX12_readNights 77 = .ok (.invokevirtual 104, 3) := by decide +kernel
theorem dX12_readNights_80 : decode cX12_readNights 80 = .ok (.goto (-61), 3) := by decide +kernel
theorem dX12_readNights_83 : decode cX12_readNights 83 = .ok (.aload_n 0, 1) := by decide +kernel
theorem dX12_readNights_84 : decode cX12_readNights 84 = .ok (.getfield 92, 3) := by decide +kernel
theorem dX12_readNights_87 : decode cX12_readNights 87 = .ok (.iconst 3, 1) := by decide +kernel
theorem dX12_readNights_88 : decode cX12_readNights 88 = .ok (.if_icmp .ne 7, 3) := by decide +kernel
theorem dX12_readNights_91 : decode cX12_readNights 91 = .ok (.iconst 1, 1) := by decide +kernel
theorem dX12_readNights_92 : decode cX12_readNights 92 = .ok (.goto 4, 3) := by decide +kernel
theorem dX12_readNights_95 : decode cX12_readNights 95 = .ok (.iconst 0, 1) := by decide +kernel
theorem dX12_readNights_96 : decode cX12_readNights 96 = .ok (.ireturn, 1) := by decide +kernel
theorem dX12_readItem_0 : decode cX12_readItem 0 = .ok (.aload_n 0, 1) := by decide +kernel
theorem dX12_readItem_1 : decode cX12_readItem 1 = .ok (.getfield 82, 3) := by decide +kernel
theorem dX12_readItem_4 : decode cX12_readItem 4 = .ok (.istore_n 1, 1) := by decide +kernel
theorem dX12_readItem_5 : decode cX12_readItem 5 = .ok (.aload_n 0, 1) := by decide +kernel
theorem dX12_readItem_6 : decode cX12_readItem 6 = .ok (.getfield 92, 3) := by decide +kernel
theorem dX12_readItem_9 : decode cX12_readItem 9 = .ok (.iconst 1, 1) := by decide +kernel
theorem dX12_readItem_10 : decode cX12_readItem 10 = .ok (.if_icmp .eq 5, 3) := by decide +kernel
theorem dX12_readItem_13 : decode cX12_readItem 13 = .ok (.iconst 0, 1) := by decide +kernel
theorem dX12_readItem_14 : decode cX12_readItem 14 = .ok (.ireturn, 1) := by decide +kernel
theorem dX12_readItem_15 : decode cX12_readItem 15 = .ok (.iload_n 1, 1) := by decide +kernel
theorem dX12_readItem_16 : decode cX12_readItem 16 = .ok (.bipush 116, 2) := by decide +kernel
theorem dX12_readItem_18 : decode cX12_readItem 18 = .ok (.if_icmp .ne 8, 3) := by decide +kernel
theorem dX12_readItem_21 : decode cX12_readItem 21 = .ok (.aload_n 0, 1) := by decide +kernel
theorem dX12_readItem_22 : decode cX12_readItem 22 = .ok (.invokevirtual 119, 3) := by decide +kernel
theorem dX12_readItem_25 : decode cX12_readItem 25 = .ok (.ireturn, 1) := by decide +kernel
theorem dX12_readItem_26 : decode cX12_readItem 26 = .ok (.iload_n 1, 1) := by decide +kernel
theorem dX12_readItem_27 : decode cX12_readItem 27 = .ok (.bipush 110, 2) := by decide +kernel
theorem dX12_readItem_29 : decode cX12_readItem 29 = .ok (.if_icmp .ne 8, 3) := by decide +kernel
theorem dX12_readItem_32 : decode cX12_readItem 32 = .ok (.aload_n 0, 1) := by decide +kernel
theorem dX12_readItem_33 : decode cX12_readItem 33 = .ok (.invokevirtual 123, 3) := by decide +kernel
theorem dX12_readItem_36 : decode cX12_readItem 36 = .ok (.ireturn, 1) := by decide +kernel
theorem dX12_readItem_37 : decode cX12_readItem 37 = .ok (.iload_n 1, 1) := by decide +kernel
theorem dX12_readItem_38 : decode cX12_readItem 38 = .ok (.bipush 109, 2) := by decide +kernel
theorem dX12_readItem_40 : decode cX12_readItem 40 = .ok (.if_icmp .ne 33, 3) := by decide +kernel
theorem dX12_readItem_43 : decode cX12_readItem 43 = .ok (.aload_n 0, 1) := by decide +kernel
theorem dX12_readItem_44 : decode cX12_readItem 44 = .ok (.getfield 125, 3) := by decide +kernel
theorem dX12_readItem_47 : decode cX12_readItem 47 = .ok (.ifCond .gt 13, 3) := by decide +kernel
theorem dX12_readItem_50 : decode cX12_readItem 50 = .ok (.aload_n 0, 1) := by decide +kernel
theorem dX12_readItem_51 : decode cX12_readItem 51 = .ok (.iconst 1, 1) := by decide +kernel
theorem dX12_readItem_52 : decode cX12_readItem 52 = .ok (.bipush 9, 2) := by decide +kernel
theorem dX12_readItem_54 : decode cX12_readItem 54 = .ok (.invokevirtual 110, 3) := by decide +kernel
theorem dX12_readItem_57 : decode cX12_readItem 57 = .ok (.ifCond .ne 5, 3) := by decide +kernel
theorem dX12_readItem_60 : decode cX12_readItem 60 = .ok (.iconst 0, 1) := by decide +kernel
theorem dX12_readItem_61 : decode cX12_readItem 61 = .ok (.ireturn, 1) := by decide +kernel
theorem dX12_readItem_62 : decode cX12_readItem 62 = .ok (.aload_n 0, 1) := by decide +kernel
theorem dX12_readItem_63 : decode cX12_readItem 63 = .ok (.aload_n 0, 1) := by decide +kernel
theorem dX12_readItem_64 : decode cX12_readItem 64 = .ok (.getfield 82, 3) := by decide +kernel
theorem dX12_readItem_67 : decode cX12_readItem 67 = .ok (.putfield 125, 3) := by decide +kernel
theorem dX12_readItem_70 : decode cX12_readItem 70 = .ok (.goto 30, 3) := by decide +kernel
theorem dX12_readItem_73 : decode cX12_readItem 73 = .ok (.aload_n 0, 1) := by decide +kernel
theorem dX12_readItem_74 : decode cX12_readItem 74 = .ok (.getfield 128, 3) := by decide +kernel
theorem dX12_readItem_77 : decode cX12_readItem 77 = .ok (.ifCond .gt 13, 3) := by decide +kernel
theorem dX12_readItem_80 : decode cX12_readItem 80 = .ok (.aload_n 0, 1) := by decide +kernel
theorem dX12_readItem_81 : decode cX12_readItem 81 = .ok (.iconst 1, 1) := by decide +kernel
theorem dX12_readItem_82 : decode cX12_readItem 82 = .ok (.bipush 6, 2) := by decide +kernel
theorem dX12_readItem_84 : decode cX12_readItem 84 = .ok (.invokevirtual 110, 3) := by decide +kernel
theorem dX12_readItem_87 : decode cX12_readItem 87 = .ok (.ifCond .ne 5, 3) := by decide +kernel
theorem dX12_readItem_90 : decode cX12_readItem 90 = .ok (.iconst 0, 1) := by decide +kernel
theorem dX12_readItem_91 : decode cX12_readItem 91 = .ok (.ireturn, 1) := by decide +kernel
theorem dX12_readItem_92 : decode cX12_readItem 92 = .ok (.aload_n 0, 1) := by decide +kernel
theorem dX12_readItem_93 : decode cX12_readItem 93 = .ok (.aload_n 0, 1) := by decide +kernel
theorem dX12_readItem_94 : decode cX12_readItem 94 = .ok (.getfield 82, 3) := by decide +kernel
theorem dX12_readItem_97 : decode cX12_readItem 97 = .ok (.putfield 128, 3) := by decide +kernel
theorem dX12_readItem_100 : decode cX12_readItem 100 = .ok (.aload_n 0, 1) := by decide +kernel
theorem dX12_readItem_101 : decode cX12_readItem 101 = .ok (.invokevirtual 104, 3) := by decide +kernel
theorem dX12_readItem_104 : decode cX12_readItem 104 = .ok (.aload_n 0, 1) := by decide +kernel
theorem dX12_readItem_105 : decode cX12_readItem 105 = .ok (.getfield 92, 3) := by decide +kernel
theorem dX12_readItem_108 : decode cX12_readItem 108 = .ok (.iconst 3, 1) := by decide +kernel
theorem dX12_readItem_109 : decode cX12_readItem 109 = .ok (.if_icmp .ne 7, 3) := by decide +kernel
theorem dX12_readItem_112 : decode cX12_readItem 112 = .ok (.iconst 1, 1) := by decide +kernel
theorem dX12_readItem_113 : decode cX12_readItem 113 = .ok (.goto 4, 3) := by decide +kernel
theorem dX12_readItem_116 : decode cX12_readItem 116 = .ok (.iconst 0, 1) := by decide +kernel
theorem dX12_readItem_117 : decode cX12_readItem 117 = .ok (.ireturn, 1) := by decide +kernel
theorem dX12_tales_0 : decode cX12_tales 0 = .ok (.aload_n 0, 1) := by decide +kernel
theorem dX12_tales_1 : decode cX12_tales 1 = .ok (.iconst 0, 1) := by decide +kernel
theorem dX12_tales_2 : decode cX12_tales 2 = .ok (.putfield 79, 3) := by decide +kernel
theorem dX12_tales_5 : decode cX12_tales 5 = .ok (.aload_n 0, 1) := by decide +kernel
theorem dX12_tales_6 : decode cX12_tales 6 = .ok (.iconst 0, 1) := by decide +kernel
theorem dX12_tales_7 : decode cX12_tales 7 = .ok (.putfield 107, 3) := by decide +kernel
theorem dX12_tales_10 : decode cX12_tales 10 = .ok (.aload_n 0, 1) := by decide +kernel
theorem dX12_tales_11 : decode cX12_tales 11 = .ok (.iconst 0, 1) := by decide +kernel
theorem dX12_tales_12 : decode cX12_tales 12 = .ok (.putfield 114, 3) := by decide +kernel
theorem dX12_tales_15 : decode cX12_tales 15 = .ok (.aload_n 0, 1) := by decide +kernel
theorem dX12_tales_16 : decode cX12_tales 16 = .ok (.iconst 0, 1) := by decide +kernel
theorem dX12_tales_17 : decode cX12_tales 17 = .ok (.putfield 125, 3) := by decide +kernel
theorem dX12_tales_20 : decode cX12_tales 20 = .ok (.aload_n 0, 1) := by decide +kernel
theorem dX12_tales_21 : decode cX12_tales 21 = .ok (.iconst 0, 1) := by decide +kernel
theorem dX12_tales_22 : decode cX12_tales 22 = .ok (.putfield 128, 3) := by decide +kernel
theorem dX12_tales_25 : decode cX12_tales 25 = .ok (.iconst 0, 1) := by decide +kernel
theorem dX12_tales_26 : decode cX12_tales 26 = .ok (.istore_n 1, 1) := by decide +kernel
theorem dX12_tales_27 : decode cX12_tales 27 = .ok (.aload_n 0, 1) := by decide +kernel
theorem dX12_tales_28 : decode cX12_tales 28 = .ok (.invokevirtual 104, 3) := by decide +kernel
theorem dX12_tales_31 : decode cX12_tales 31 = .ok (.aload_n 0, 1) := by decide +kernel
theorem dX12_tales_32 : decode cX12_tales 32 = .ok (.getfield 92, 3) := by decide +kernel
theorem dX12_tales_35 : decode cX12_tales 35 = .ok (.ifCond .eq 28, 3) := by decide +kernel
theorem dX12_tales_38 : decode cX12_tales 38 = .ok (.aload_n 0, 1) := by decide +kernel
theorem dX12_tales_39 : decode cX12_tales 39 = .ok (.invokevirtual 131, 3) := by decide +kernel
theorem dX12_tales_42 : decode cX12_tales 42 = .ok (.ifCond .ne 11, 3) := by decide +kernel
theorem dX12_tales_45 : decode cX12_tales 45 = .ok (.bipush (-10), 2) := by decide +kernel
theorem dX12_tales_47 : decode cX12_tales 47 = .ok (.aload_n 0, 1) := by decide +kernel
theorem dX12_tales_48 : decode cX12_tales 48 = .ok (.getfield 89, 3) := by decide +kernel
theorem dX12_tales_51 : decode cX12_tales 51 = .ok (.isub, 1) := by decide +kernel
theorem dX12_tales_52 : decode cX12_tales 52 = .ok (.ireturn, 1) := by decide +kernel
theorem dX12_tales_53 : decode cX12_tales 53 = .ok (.iinc 1 1, 3) := by decide +kernel
theorem dX12_tales_56 : decode cX12_tales 56 = .ok (.aload_n 0, 1) := by decide +kernel
theorem dX12_tales_57 : decode cX12_tales 57 = .ok (.invokevirtual 104, 3) := by decide +kernel
theorem dX12_tales_60 : decode cX12_tales 60 = .ok (.goto (-29), 3) := by decide +kernel
theorem dX12_tales_63 : decode cX12_tales 63 = .ok (.aload_n 0, 1) := by decide +kernel
theorem dX12_tales_64 : decode cX12_tales 64 = .ok (.iconst 0, 1) := by decide +kernel
theorem dX12_tales_65 : decode cX12_tales 65 = .ok (.putfield 67, 3) := by decide +kernel
theorem dX12_tales_68 : decode cX12_tales 68 = .ok (.aload_n 0, 1) := by decide +kernel
theorem dX12_tales_69 : decode cX12_tales 69 = .ok (.invokevirtual 134, 3) := by decide +kernel
theorem dX12_tales_72 : decode cX12_tales 72 = .ok (.iload_n 1, 1) := by decide +kernel
theorem dX12_tales_73 : decode cX12_tales 73 = .ok (.ireturn, 1) := by decide +kernel
theorem dX12_takes_0 : decode cX12_takes 0 = .ok (.aload_n 0, 1) := by decide +kernel
theorem dX12_takes_1 : decode cX12_takes 1 = .ok (.aload_n 0, 1) := by decide +kernel
theorem dX12_takes_2 : decode cX12_takes 2 = .ok (.getfield 107, 3) := by decide +kernel
theorem dX12_takes_5 : decode cX12_takes 5 = .ok (.putfield 137, 3) := by decide +kernel
theorem dX12_takes_8 : decode cX12_takes 8 = .ok (.aload_n 0, 1) := by decide +kernel
theorem dX12_takes_9 : decode cX12_takes 9 = .ok (.aload_n 0, 1) := by decide +kernel
theorem dX12_takes_10 : decode cX12_takes 10 = .ok (.getfield 114, 3) := by decide +kernel
theorem dX12_takes_13 : decode cX12_takes 13 = .ok (.ifCond .ne 7, 3) := by decide +kernel
theorem dX12_takes_16 : decode cX12_takes 16 = .ok (.iconst 1, 1) := by decide +kernel
theorem dX12_takes_17 : decode cX12_takes 17 = .ok (.goto 7, 3) := by decide +kernel
theorem dX12_takes_20 : decode cX12_takes 20 = .ok (.aload_n 0, 1) := by decide +kernel
theorem dX12_takes_21 : decode cX12_takes 21 = .ok (.getfield 114, 3) := by decide +kernel
theorem dX12_takes_24 : decode cX12_takes 24 = .ok (.putfield 140, 3) := by decide +kernel
theorem dX12_takes_27 : decode cX12_takes 27 = .ok (.aload_n 0, 1) := by decide +kernel
theorem dX12_takes_28 : decode cX12_takes 28 = .ok (.aload_n 0, 1) := by decide +kernel
theorem dX12_takes_29 : decode cX12_takes 29 = .ok (.getfield 125, 3) := by decide +kernel
theorem dX12_takes_32 : decode cX12_takes 32 = .ok (.ifCond .ne 7, 3) := by decide +kernel
theorem dX12_takes_35 : decode cX12_takes 35 = .ok (.iconst 3, 1) := by decide +kernel
theorem dX12_takes_36 : decode cX12_takes 36 = .ok (.goto 7, 3) := by decide +kernel
theorem dX12_takes_39 : decode cX12_takes 39 = .ok (.aload_n 0, 1) := by decide +kernel
theorem dX12_takes_40 : decode cX12_takes 40 = .ok (.getfield 125, 3) := by decide +kernel
theorem dX12_takes_43 : decode cX12_takes 43 = .ok (.putfield 143, 3) := by decide +kernel
theorem dX12_takes_46 : decode cX12_takes 46 = .ok (.aload_n 0, 1) := by decide +kernel
theorem dX12_takes_47 : decode cX12_takes 47 = .ok (.aload_n 0, 1) := by decide +kernel
theorem dX12_takes_48 : decode cX12_takes 48 = .ok (.getfield 128, 3) := by decide +kernel
theorem dX12_takes_51 : decode cX12_takes 51 = .ok (.ifCond .ne 8, 3) := by decide +kernel
theorem dX12_takes_54 : decode cX12_takes 54 = .ok (.bipush 6, 2) := by decide +kernel
theorem dX12_takes_56 : decode cX12_takes 56 = .ok (.goto 7, 3) := by decide +kernel
theorem dX12_takes_59 : decode cX12_takes 59 = .ok (.aload_n 0, 1) := by decide +kernel
theorem dX12_takes_60 : decode cX12_takes 60 = .ok (.getfield 128, 3) := by decide +kernel
theorem dX12_takes_63 : decode cX12_takes 63 = .ok (.putfield 146, 3) := by decide +kernel
theorem dX12_takes_66 : decode cX12_takes 66 = .ok (.iconst 0, 1) := by decide +kernel
theorem dX12_takes_67 : decode cX12_takes 67 = .ok (.istore_n 1, 1) := by decide +kernel
theorem dX12_takes_68 : decode cX12_takes 68 = .ok (.iload_n 1, 1) := by decide +kernel
theorem dX12_takes_69 : decode cX12_takes 69 = .ok (.aload_n 0, 1) := by decide +kernel
theorem dX12_takes_70 : decode cX12_takes 70 = .ok (.getfield 137, 3) := by decide +kernel
theorem dX12_takes_73 : decode cX12_takes 73 = .ok (.if_icmp .ge 33, 3) := by decide +kernel
theorem dX12_takes_76 : decode cX12_takes 76 = .ok (.aload_n 0, 1) := by decide +kernel
theorem dX12_takes_77 : decode cX12_takes 77 = .ok (.getfield 22, 3) := by decide +kernel
theorem dX12_takes_80 : decode cX12_takes 80 = .ok (.iload_n 1, 1) := by decide +kernel
theorem dX12_takes_81 : decode cX12_takes 81 = .ok (.aload_n 0, 1) := by decide +kernel
theorem dX12_takes_82 : decode cX12_takes 82 = .ok (.getfield 13, 3) := by decide +kernel
theorem dX12_takes_85 : decode cX12_takes 85 = .ok (.iload_n 1, 1) := by decide +kernel
theorem dX12_takes_86 : decode cX12_takes 86 = .ok (.iaload, 1) := by decide +kernel
theorem dX12_takes_87 : decode cX12_takes 87 = .ok (.iastore, 1) := by decide +kernel
theorem dX12_takes_88 : decode cX12_takes 88 = .ok (.aload_n 0, 1) := by decide +kernel
theorem dX12_takes_89 : decode cX12_takes 89 = .ok (.getfield 25, 3) := by decide +kernel
theorem dX12_takes_92 : decode cX12_takes 92 = .ok (.iload_n 1, 1) := by decide +kernel
theorem dX12_takes_93 : decode cX12_takes 93 = .ok (.aload_n 0, 1) := by decide +kernel
theorem dX12_takes_94 : decode cX12_takes 94 = .ok (.getfield 16, 3) := by decide +kernel
theorem dX12_takes_97 : decode cX12_takes 97 = .ok (.iload_n 1, 1) := by decide +kernel
theorem dX12_takes_98 : decode cX12_takes 98 = .ok (.iaload, 1) := by decide +kernel
theorem dX12_takes_99 : decode cX12_takes 99 = .ok (.iastore, 1) := by decide +kernel
theorem dX12_takes_100 : decode cX12_takes 100 = .ok (.iinc 1 1, 3) := by decide +kernel
theorem dX12_takes_103 : decode cX12_takes 103 = .ok (.goto (-35), 3) := by decide +kernel
theorem dX12_takes_106 : decode cX12_takes 106 = .ok (.iconst 0, 1) := by decide +kernel
theorem dX12_takes_107 : decode cX12_takes 107 = .ok (.istore_n 1, 1) := by decide +kernel
theorem dX12_takes_108 : decode cX12_takes 108 = .ok (.iload_n 1, 1) := by decide +kernel
theorem dX12_takes_109 : decode cX12_takes 109 = .ok (.aload_n 0, 1) := by decide +kernel
theorem dX12_takes_110 : decode cX12_takes 110 = .ok (.getfield 140, 3) := by decide +kernel
theorem dX12_takes_113 : decode cX12_takes 113 = .ok (.if_icmp .ge 32, 3) := by decide +kernel
theorem dX12_takes_116 : decode cX12_takes 116 = .ok (.aload_n 0, 1) := by decide +kernel
theorem dX12_takes_117 : decode cX12_takes 117 = .ok (.getfield 28, 3) := by decide +kernel
theorem dX12_takes_120 : decode cX12_takes 120 = .ok (.iload_n 1, 1) := by decide +kernel
theorem dX12_takes_121 : decode cX12_takes 121 = .ok (.aload_n 0, 1) := by decide +kernel
theorem dX12_takes_122 : decode cX12_takes 122 = .ok (.getfield 114, 3) := by decide +kernel
theorem dX12_takes_125 : decode cX12_takes 125 = .ok (.ifCond .ne 7, 3) := by decide +kernel
theorem dX12_takes_128 : decode cX12_takes 128 = .ok (.iconst 5, 1) := by decide +kernel
theorem dX12_takes_129 : decode cX12_takes 129 = .ok (.goto 9, 3) := by decide +kernel
theorem dX12_takes_132 : decode cX12_takes 132 = .ok (.aload_n 0, 1) := by decide +kernel
theorem dX12_takes_133 : decode cX12_takes 133 = .ok (.getfield 19, 3) := by decide +kernel
theorem dX12_takes_136 : decode cX12_takes 136 = .ok (.iload_n 1, 1) := by decide +kernel
theorem dX12_takes_137 : decode cX12_takes 137 = .ok (.iaload, 1) := by decide +kernel
theorem dX12_takes_138 : decode cX12_takes 138 = .ok (.iastore, 1) := by decide +kernel
theorem dX12_takes_139 : decode cX12_takes 139 = .ok (.iinc 1 1, 3) := by decide +kernel
theorem dX12_takes_142 : decode cX12_takes 142 = .ok (.goto (-34), 3) := by decide +kernel
theorem dX12_takes_145 : decode cX12_takes 145 = .ok (.aload_n 0, 1) := by decide +kernel
theorem dX12_takes_146 : decode cX12_takes 146 = .ok (.invokevirtual 149, 3) := by decide +kernel
theorem dX12_takes_149 : decode cX12_takes 149 = .ok (.iconst 0, 1) := by decide +kernel
theorem dX12_takes_150 : decode cX12_takes 150 = .ok (.istore_n 1, 1) := by decide +kernel
theorem dX12_takes_151 : decode cX12_takes 151 = .ok (.iload_n 1, 1) := by decide +kernel
theorem dX12_takes_152 : decode cX12_takes 152 = .ok (.bipush 28, 2) := by decide +kernel
theorem dX12_takes_154 : decode cX12_takes 154 = .ok (.if_icmp .ge 21, 3) := by decide +kernel
theorem dX12_takes_157 : decode cX12_takes 157 = .ok (.aload_n 0, 1) := by decide +kernel
theorem dX12_takes_158 : decode cX12_takes 158 = .ok (.getfield 31, 3) := by decide +kernel
theorem dX12_takes_161 : decode cX12_takes 161 = .ok (.iload_n 1, 1) := by decide +kernel
theorem dX12_takes_162 : decode cX12_takes 162 = .ok (.aload_n 0, 1) := by decide +kernel
theorem dX12_takes_163 : decode cX12_takes 163 = .ok (.getfield 34, 3) := by decide +kernel
theorem dX12_takes_166 : decode cX12_takes 166 = .ok (.iload_n 1, 1) := by decide +kernel
theorem dX12_takes_167 : decode cX12_takes 167 = .ok (.iaload, 1) := by decide +kernel
theorem dX12_takes_168 : decode cX12_takes 168 = .ok (.iastore, 1) := by decide +kernel
theorem dX12_takes_169 : decode cX12_takes 169 = .ok (.iinc 1 1, 3) := by decide +kernel
theorem dX12_takes_172 : decode cX12_takes 172 = .ok (.goto (-21), 3) := by decide +kernel
theorem dX12_takes_175 : decode cX12_takes 175 = .ok (.aload_n 0, 1) := by decide +kernel
theorem dX12_takes_176 : decode cX12_takes 176 = .ok (.iconst 0, 1) := by decide +kernel
theorem dX12_takes_177 : decode cX12_takes 177 = .ok (.putfield 152, 3) := by decide +kernel
theorem dX12_takes_180 : decode cX12_takes 180 = .ok (.aload_n 0, 1) := by decide +kernel
theorem dX12_takes_181 : decode cX12_takes 181 = .ok (.iconst 0, 1) := by decide +kernel
theorem dX12_takes_182 : decode cX12_takes 182 = .ok (.putfield 155, 3) := by decide +kernel
theorem dX12_takes_185 : decode cX12_takes 185 = .ok (.aload_n 0, 1) := by decide +kernel
theorem dX12_takes_186 : decode cX12_takes 186 = .ok (.iconst 0, 1) := by decide +kernel
theorem dX12_takes_187 : decode cX12_takes 187 = .ok (.putfield 158, 3) := by decide +kernel
theorem dX12_takes_190 : decode cX12_takes 190 = .ok (.aload_n 0, 1) := by decide +kernel
theorem dX12_takes_191 : decode cX12_takes 191 = .ok (.getfield 55, 3) := by decide +kernel
theorem dX12_takes_194 : decode cX12_takes 194 = .ok (.iconst 0, 1) := by decide +kernel
theorem dX12_takes_195 : decode cX12_takes 195 = .ok (.iconst 0, 1) := by decide +kernel
theorem dX12_takes_196 : decode cX12_takes 196 = .ok (.iastore, 1) := by decide +kernel
theorem dX12_takes_197 : decode cX12_takes 197 = .ok (.aload_n 0, 1) := by decide +kernel
theorem dX12_takes_198 : decode cX12_takes 198 = .ok (.getfield 55, 3) := by decide +kernel
theorem dX12_takes_201 : decode cX12_takes 201 = .ok (.sipush 321, 3) := by decide +kernel
theorem dX12_takes_204 : decode cX12_takes 204 = .ok (.iconst 0, 1) := by decide +kernel
theorem dX12_takes_205 : decode cX12_takes 205 = .ok (.iastore, 1) := by decide +kernel
theorem dX12_takes_206 : decode cX12_takes 206 = .ok (.return_, 1) := by decide +kernel
theorem dX12_plain_0 : decode cX12_plain 0 = .ok (.aload_n 0, 1) := by decide +kernel
theorem dX12_plain_1 : decode cX12_plain 1 = .ok (.iconst 0, 1) := by decide +kernel
theorem dX12_plain_2 : decode cX12_plain 2 = .ok (.putfield 107, 3) := by decide +kernel
theorem dX12_plain_5 : decode cX12_plain 5 = .ok (.aload_n 0, 1) := by decide +kernel
theorem dX12_plain_6 : decode cX12_plain 6 = .ok (.iconst 0, 1) := by decide +kernel
theorem dX12_plain_7 : decode cX12_plain 7 = .ok (.putfield 114, 3) := by decide +kernel
theorem dX12_plain_10 : decode cX12_plain 10 = .ok (.aload_n 0, 1) := by decide +kernel
theorem dX12_plain_11 : decode cX12_plain 11 = .ok (.iconst 0, 1) := by decide +kernel
theorem dX12_plain_12 : decode cX12_plain 12 = .ok (.putfield 125, 3) := by decide +kernel
theorem dX12_plain_15 : decode cX12_plain 15 = .ok (.aload_n 0, 1) := by decide +kernel
theorem dX12_plain_16 : decode cX12_plain 16 = .ok (.iconst 0, 1) := by decide +kernel
theorem dX12_plain_17 : decode cX12_plain 17 = .ok (.putfield 128, 3) := by decide +kernel
theorem dX12_plain_20 : decode cX12_plain 20 = .ok (.aload_n 0, 1) := by decide +kernel
theorem dX12_plain_21 : decode cX12_plain 21 = .ok (.invokevirtual 134, 3) := by decide +kernel
theorem dX12_plain_24 : decode cX12_plain 24 = .ok (.return_, 1) := by decide +kernel
theorem dX12_isTale_0 : decode cX12_isTale 0 = .ok (.iload_n 1, 1) := by decide +kernel
theorem dX12_isTale_1 : decode cX12_isTale 1 = .ok (.i2l, 1) := by decide +kernel
theorem dX12_isTale_2 : decode cX12_isTale 2 = .ok (.lconst 0, 1) := by decide +kernel
theorem dX12_isTale_3 : decode cX12_isTale 3 = .ok (.aload_n 0, 1) := by decide +kernel
theorem dX12_isTale_4 : decode cX12_isTale 4 = .ok (.getfield 137, 3) := by decide +kernel
theorem dX12_isTale_7 : decode cX12_isTale 7 = .ok (.iconst 1, 1) := by decide +kernel
theorem dX12_isTale_8 : decode cX12_isTale 8 = .ok (.isub, 1) := by decide +kernel
theorem dX12_isTale_9 : decode cX12_isTale 9 = .ok (.i2l, 1) := by decide +kernel
theorem dX12_isTale_10 : decode cX12_isTale 10 = .ok (.invokestatic 63, 3) := by decide +kernel
theorem dX12_isTale_13 : decode cX12_isTale 13 = .ok (.ireturn, 1) := by decide +kernel
theorem dX12_hoursOf_0 : decode cX12_hoursOf 0 = .ok (.aload_n 0, 1) := by decide +kernel
theorem dX12_hoursOf_1 : decode cX12_hoursOf 1 = .ok (.getfield 28, 3) := by decide +kernel
theorem dX12_hoursOf_4 : decode cX12_hoursOf 4 = .ok (.iload_n 1, 1) := by decide +kernel
theorem dX12_hoursOf_5 : decode cX12_hoursOf 5 = .ok (.aload_n 0, 1) := by decide +kernel
theorem dX12_hoursOf_6 : decode cX12_hoursOf 6 = .ok (.getfield 140, 3) := by decide +kernel
theorem dX12_hoursOf_9 : decode cX12_hoursOf 9 = .ok (.irem, 1) := by decide +kernel
theorem dX12_hoursOf_10 : decode cX12_hoursOf 10 = .ok (.iaload, 1) := by decide +kernel
theorem dX12_hoursOf_11 : decode cX12_hoursOf 11 = .ok (.aload_n 0, 1) := by decide +kernel
theorem dX12_hoursOf_12 : decode cX12_hoursOf 12 = .ok (.getfield 161, 3) := by decide +kernel
theorem dX12_hoursOf_15 : decode cX12_hoursOf 15 = .ok (.iadd, 1) := by decide +kernel
theorem dX12_hoursOf_16 : decode cX12_hoursOf 16 = .ok (.ireturn, 1) := by decide +kernel
theorem dX12_beginsAnew_0 : decode cX12_beginsAnew 0 = .ok (.aload_n 0, 1) := by decide +kernel
theorem dX12_beginsAnew_1 : decode cX12_beginsAnew 1 = .ok (.getfield 34, 3) := by decide +kernel
theorem dX12_beginsAnew_4 : decode cX12_beginsAnew 4 = .ok (.iconst 0, 1) := by decide +kernel
theorem dX12_beginsAnew_5 : decode cX12_beginsAnew 5 = .ok (.iconst 0, 1) := by decide +kernel
theorem dX12_beginsAnew_6 : decode cX12_beginsAnew 6 = .ok (.iastore, 1) := by decide +kernel
theorem dX12_beginsAnew_7 : decode cX12_beginsAnew 7 = .ok (.aload_n 0, 1) := by decide +kernel
theorem dX12_beginsAnew_8 : decode cX12_beginsAnew 8 = .ok (.getfield 34, 3) := by decide +kernel
theorem dX12_beginsAnew_11 : decode cX12_beginsAnew 11 = .ok (.iconst 1, 1) := by decide +kernel
theorem dX12_beginsAnew_12 : decode cX12_beginsAnew 12 = .ok (.aload_n 0, 1) := by decide +kernel
theorem dX12_beginsAnew_13 : decode cX12_beginsAnew 13 = .ok (.iconst 0, 1) := by decide +kernel
theorem dX12_beginsAnew_14 : decode cX12_beginsAnew 14 = .ok (.invokevirtual 164, 3) := by decide +kernel
theorem dX12_beginsAnew_17 : decode cX12_beginsAnew 17 = .ok (.iastore, 1) := by decide +kernel
theorem dX12_beginsAnew_18 : decode cX12_beginsAnew 18 = .ok (.aload_n 0, 1) := by decide +kernel
theorem dX12_beginsAnew_19 : decode cX12_beginsAnew 19 = .ok (.getfield 34, 3) := by decide +kernel
theorem dX12_beginsAnew_22 : decode cX12_beginsAnew 22 = .ok (.iconst 2, 1) := by decide +kernel
theorem dX12_beginsAnew_23 : decode cX12_beginsAnew 23 = .ok (.iconst 0, 1) := by decide +kernel
theorem dX12_beginsAnew_24 : decode cX12_beginsAnew 24 = .ok (.iastore, 1) := by decide +kernel
theorem dX12_beginsAnew_25 : decode cX12_beginsAnew 25 = .ok (.aload_n 0, 1) := by decide +kernel
theorem dX12_beginsAnew_26 : decode cX12_beginsAnew 26 = .ok (.getfield 34, 3) := by decide +kernel
theorem dX12_beginsAnew_29 : decode cX12_beginsAnew 29 = .ok (.iconst 3, 1) := by decide +kernel
theorem dX12_beginsAnew_30 : decode cX12_beginsAnew 30 = .ok (.iconst 1, 1) := by decide +kernel
theorem dX12_beginsAnew_31 : decode cX12_beginsAnew 31 = .ok (.iastore, 1) := by decide +kernel
theorem dX12_beginsAnew_32 : decode cX12_beginsAnew 32 = .ok (.iconst 0, 1) := by decide +kernel
theorem dX12_beginsAnew_33 : decode cX12_beginsAnew 33 = .ok (.istore_n 1, 1) := by decide +kernel
theorem dX12_beginsAnew_34 : decode cX12_beginsAnew 34 = .ok (.iload_n 1, 1) := by decide +kernel
theorem dX12_beginsAnew_35 : decode cX12_beginsAnew 35 = .ok (.bipush 6, 2) := by decide +kernel
theorem dX12_beginsAnew_37 : decode cX12_beginsAnew 37 = .ok (.if_icmp .ge 67, 3) := by decide +kernel
theorem dX12_beginsAnew_40 : decode cX12_beginsAnew 40 = .ok (.aload_n 0, 1) := by decide +kernel
theorem dX12_beginsAnew_41 : decode cX12_beginsAnew 41 = .ok (.getfield 34, 3) := by decide +kernel
theorem dX12_beginsAnew_44 : decode cX12_beginsAnew 44 = .ok (.iconst 4, 1) := by decide +kernel
theorem dX12_beginsAnew_45 : decode cX12_beginsAnew 45 = .ok (.iload_n 1, 1) := by decide +kernel
theorem dX12_beginsAnew_46 : decode cX12_beginsAnew 46 = .ok (.iadd, 1) := by decide +kernel
theorem dX12_beginsAnew_47 : decode cX12_beginsAnew 47 = .ok (.bipush (-9), 2) := by decide +kernel
theorem dX12_beginsAnew_49 : decode cX12_beginsAnew 49 = .ok (.iastore, 1) := by decide +kernel
theorem dX12_beginsAnew_50 : decode cX12_beginsAnew 50 = .ok (.aload_n 0, 1) := by decide +kernel
theorem dX12_beginsAnew_51 : decode cX12_beginsAnew 51 = .ok (.getfield 34, 3) := by decide +kernel
theorem dX12_beginsAnew_54 : decode cX12_beginsAnew 54 = .ok (.bipush 10, 2) := by decide +kernel
theorem dX12_beginsAnew_56 : decode cX12_beginsAnew 56 = .ok (.iload_n 1, 1) := by decide +kernel
theorem dX12_beginsAnew_57 : decode cX12_beginsAnew 57 = .ok (.iadd, 1) := by decide +kernel
theorem dX12_beginsAnew_58 : decode cX12_beginsAnew 58 = .ok (.iload_n 1, 1) := by decide +kernel
theorem dX12_beginsAnew_59 : decode cX12_beginsAnew 59 = .ok (.aload_n 0, 1) := by decide +kernel
theorem dX12_beginsAnew_60 : decode cX12_beginsAnew 60 = .ok (.getfield 137, 3) := by decide +kernel
theorem dX12_beginsAnew_63 : decode cX12_beginsAnew 63 = .ok (.if_icmp .ge 12, 3) := by decide +kernel
theorem dX12_beginsAnew_66 : decode cX12_beginsAnew 66 = .ok (.aload_n 0, 1) := by decide +kernel
theorem dX12_beginsAnew_67 : decode cX12_beginsAnew 67 = .ok (.getfield 22, 3) := by decide +kernel
theorem dX12_beginsAnew_70 : decode cX12_beginsAnew 70 = .ok (.iload_n 1, 1) := by decide +kernel
theorem dX12_beginsAnew_71 : decode cX12_beginsAnew 71 = .ok (.iaload, 1) := by decide +kernel
theorem dX12_beginsAnew_72 : decode cX12_beginsAnew 72 = .ok (.goto 4, 3) := by decide +kernel
theorem dX12_beginsAnew_75 : decode cX12_beginsAnew 75 = .ok (.iconst 0, 1) := by decide +kernel
theorem dX12_beginsAnew_76 : decode cX12_beginsAnew 76 = .ok (.iastore, 1) := by decide +kernel
theorem dX12_beginsAnew_77 : decode cX12_beginsAnew 77 = .ok (.aload_n 0, 1) := by decide +kernel
theorem dX12_beginsAnew_78 : decode cX12_beginsAnew 78 = .ok (.getfield 34, 3) := by decide +kernel
theorem dX12_beginsAnew_81 : decode cX12_beginsAnew 81 = .ok (.bipush 16, 2) := by decide +kernel
theorem dX12_beginsAnew_83 : decode cX12_beginsAnew 83 = .ok (.iload_n 1, 1) := by decide +kernel
theorem dX12_beginsAnew_84 : decode cX12_beginsAnew 84 = .ok (.iadd, 1) := by decide +kernel
theorem dX12_beginsAnew_85 : decode cX12_beginsAnew 85 = .ok (.iconst 0, 1) := by decide +kernel
theorem dX12_beginsAnew_86 : decode cX12_beginsAnew 86 = .ok (.iastore, 1) := by decide +kernel
theorem dX12_beginsAnew_87 : decode cX12_beginsAnew 87 = .ok (.aload_n 0, 1) := by decide +kernel
theorem dX12_beginsAnew_88 : decode cX12_beginsAnew 88 = .ok (.getfield 34, 3) := by decide +kernel
theorem dX12_beginsAnew_91 : decode cX12_beginsAnew 91 = .ok (.bipush 22, 2) := by decide +kernel
theorem dX12_beginsAnew_93 : decode cX12_beginsAnew 93 = .ok (.iload_n 1, 1) := by decide +kernel
theorem dX12_beginsAnew_94 : decode cX12_beginsAnew 94 = .ok (.iadd, 1) := by decide +kernel
theorem dX12_beginsAnew_95 : decode cX12_beginsAnew 95 = .ok (.bipush (-9), 2) := by decide +kernel
theorem dX12_beginsAnew_97 : decode cX12_beginsAnew 97 = .ok (.iastore, 1) := by decide +kernel
theorem dX12_beginsAnew_98 : decode cX12_beginsAnew 98 = .ok (.iinc 1 1, 3) := by decide +kernel
theorem dX12_beginsAnew_101 : decode cX12_beginsAnew 101 = .ok (.goto (-67), 3) := by decide +kernel
theorem dX12_beginsAnew_104 : decode cX12_beginsAnew 104 = .ok (.return_, 1) := by decide +kernel
theorem dX12_inner_0 : decode cX12_inner 0 = .ok (.aload_n 0, 1) := by decide +kernel
theorem dX12_inner_1 : decode cX12_inner 1 = .ok (.iconst 2, 1) := by decide +kernel
theorem dX12_inner_2 : decode cX12_inner 2 = .ok (.iaload, 1) := by decide +kernel
theorem dX12_inner_3 : decode cX12_inner 3 = .ok (.ifCond .ne 8, 3) := by decide +kernel
theorem dX12_inner_6 : decode cX12_inner 6 = .ok (.bipush (-9), 2) := by decide +kernel
theorem dX12_inner_8 : decode cX12_inner 8 = .ok (.goto 10, 3) := by decide +kernel
theorem dX12_inner_11 : decode cX12_inner 11 = .ok (.aload_n 0, 1) := by decide +kernel
theorem dX12_inner_12 : decode cX12_inner 12 = .ok (.iconst 3, 1) := by decide +kernel
theorem dX12_inner_13 : decode cX12_inner 13 = .ok (.aload_n 0, 1) := by decide +kernel
theorem dX12_inner_14 : decode cX12_inner 14 = .ok (.iconst 2, 1) := by decide +kernel
theorem dX12_inner_15 : decode cX12_inner 15 = .ok (.iaload, 1) := by decide +kernel
theorem dX12_inner_16 : decode cX12_inner 16 = .ok (.iadd, 1) := by decide +kernel
theorem dX12_inner_17 : decode cX12_inner 17 = .ok (.iaload, 1) := by decide +kernel
theorem dX12_inner_18 : decode cX12_inner 18 = .ok (.ireturn, 1) := by decide +kernel
theorem dX12_mayBegin_0 : decode cX12_mayBegin 0 = .ok (.aload_n 1, 1) := by decide +kernel
theorem dX12_mayBegin_1 : decode cX12_mayBegin 1 = .ok (.bipush 16, 2) := by decide +kernel
theorem dX12_mayBegin_3 : decode cX12_mayBegin 3 = .ok (.iload_n 2, 1) := by decide +kernel
theorem dX12_mayBegin_4 : decode cX12_mayBegin 4 = .ok (.iadd, 1) := by decide +kernel
theorem dX12_mayBegin_5 : decode cX12_mayBegin 5 = .ok (.iaload, 1) := by decide +kernel
theorem dX12_mayBegin_6 : decode cX12_mayBegin 6 = .ok (.ifCond .ne 41, 3) := by decide +kernel
theorem dX12_mayBegin_9 : decode cX12_mayBegin 9 = .ok (.aload_n 1, 1) := by decide +kernel
theorem dX12_mayBegin_10 : decode cX12_mayBegin 10 = .ok (.iconst 2, 1) := by decide +kernel
theorem dX12_mayBegin_11 : decode cX12_mayBegin 11 = .ok (.iaload, 1) := by decide +kernel
theorem dX12_mayBegin_12 : decode cX12_mayBegin 12 = .ok (.aload_n 0, 1) := by decide +kernel
theorem dX12_mayBegin_13 : decode cX12_mayBegin 13 = .ok (.getfield 146, 3) := by decide +kernel
theorem dX12_mayBegin_16 : decode cX12_mayBegin 16 = .ok (.if_icmp .ge 31, 3) := by decide +kernel
theorem dX12_mayBegin_19 : decode cX12_mayBegin 19 = .ok (.aload_n 0, 1) := by decide +kernel
theorem dX12_mayBegin_20 : decode cX12_mayBegin 20 = .ok (.getfield 25, 3) := by decide +kernel
theorem dX12_mayBegin_23 : decode cX12_mayBegin 23 = .ok (.iload_n 2, 1) := by decide +kernel
theorem dX12_mayBegin_24 : decode cX12_mayBegin 24 = .ok (.iaload, 1) := by decide +kernel
theorem dX12_mayBegin_25 : decode cX12_mayBegin 25 = .ok (.bipush 9, 2) := by decide +kernel
theorem dX12_mayBegin_27 : decode cX12_mayBegin 27 = .ok (.if_icmp .eq 16, 3) := by decide +kernel
theorem dX12_mayBegin_30 : decode cX12_mayBegin 30 = .ok (.aload_n 0, 1) := by decide +kernel
theorem dX12_mayBegin_31 : decode cX12_mayBegin 31 = .ok (.getfield 25, 3) := by decide +kernel
theorem dX12_mayBegin_34 : decode cX12_mayBegin 34 = .ok (.iload_n 2, 1) := by decide +kernel
theorem dX12_mayBegin_35 : decode cX12_mayBegin 35 = .ok (.iaload, 1) := by decide +kernel
theorem dX12_mayBegin_36 : decode cX12_mayBegin 36 = .ok (.aload_n 1, 1) := by decide +kernel
theorem dX12_mayBegin_37 : decode cX12_mayBegin 37 = .ok (.invokestatic 168, 3) := by decide +kernel
theorem dX12_mayBegin_40 : decode cX12_mayBegin 40 = .ok (.if_icmp .ne 7, 3) := by decide +kernel
theorem dX12_mayBegin_43 : decode cX12_mayBegin 43 = .ok (.iconst 1, 1) := by decide +kernel
theorem dX12_mayBegin_44 : decode cX12_mayBegin 44 = .ok (.goto 4, 3) := by decide +kernel
theorem dX12_mayBegin_47 : decode cX12_mayBegin 47 = .ok (.iconst 0, 1) := by decide +kernel
theorem dX12_mayBegin_48 : decode cX12_mayBegin 48 = .ok (.ireturn, 1) := by decide +kernel
theorem dX12_goesOn_0 : decode cX12_goesOn 0 = .ok (.aload_n 0, 1) := by decide +kernel
theorem dX12_goesOn_1 : decode cX12_goesOn 1 = .ok (.invokestatic 168, 3) := by decide +kernel
theorem dX12_goesOn_4 : decode cX12_goesOn 4 = .ok (.istore_n 1, 1) := by decide +kernel
theorem dX12_goesOn_5 : decode cX12_goesOn 5 = .ok (.aload_n 0, 1) := by decide +kernel
theorem dX12_goesOn_6 : decode cX12_goesOn 6 = .ok (.bipush 10, 2) := by decide +kernel
theorem dX12_goesOn_8 : decode cX12_goesOn 8 = .ok (.iload_n 1, 1) := by decide +kernel
theorem dX12_goesOn_9 : decode cX12_goesOn 9 = .ok (.iadd, 1) := by decide +kernel
theorem dX12_goesOn_10 : decode cX12_goesOn 10 = .ok (.dup2, 1) := by decide +kernel
theorem dX12_goesOn_11 : decode cX12_goesOn 11 = .ok (.iaload, 1) := by decide +kernel
theorem dX12_goesOn_12 : decode cX12_goesOn 12 = .ok (.iconst 1, 1) := by decide +kernel
theorem dX12_goesOn_13 : decode cX12_goesOn 13 = .ok (.isub, 1) := by decide +kernel
theorem dX12_goesOn_14 : decode cX12_goesOn 14 = .ok (.iastore, 1) := by decide +kernel
theorem dX12_goesOn_15 : decode cX12_goesOn 15 = .ok (.aload_n 0, 1) := by decide +kernel
theorem dX12_goesOn_16 : decode cX12_goesOn 16 = .ok (.bipush 22, 2) := by decide +kernel
theorem dX12_goesOn_18 : decode cX12_goesOn 18 = .ok (.iload_n 1, 1) := by decide +kernel
theorem dX12_goesOn_19 : decode cX12_goesOn 19 = .ok (.iadd, 1) := by decide +kernel
theorem dX12_goesOn_20 : decode cX12_goesOn 20 = .ok (.aload_n 0, 1) := by decide +kernel
theorem dX12_goesOn_21 : decode cX12_goesOn 21 = .ok (.iconst 0, 1) := by decide +kernel
theorem dX12_goesOn_22 : decode cX12_goesOn 22 = .ok (.iaload, 1) := by decide +kernel
theorem dX12_goesOn_23 : decode cX12_goesOn 23 = .ok (.iastore, 1) := by decide +kernel
theorem dX12_goesOn_24 : decode cX12_goesOn 24 = .ok (.aload_n 0, 1) := by decide +kernel
theorem dX12_goesOn_25 : decode cX12_goesOn 25 = .ok (.iconst 1, 1) := by decide +kernel
theorem dX12_goesOn_26 : decode cX12_goesOn 26 = .ok (.dup2, 1) := by decide +kernel
theorem dX12_goesOn_27 : decode cX12_goesOn 27 = .ok (.iaload, 1) := by decide +kernel
theorem dX12_goesOn_28 : decode cX12_goesOn 28 = .ok (.iconst 1, 1) := by decide +kernel
theorem dX12_goesOn_29 : decode cX12_goesOn 29 = .ok (.isub, 1) := by decide +kernel
theorem dX12_goesOn_30 : decode cX12_goesOn 30 = .ok (.iastore, 1) := by decide +kernel
theorem dX12_goesOn_31 : decode cX12_goesOn 31 = .ok (.aload_n 0, 1) := by decide +kernel
theorem dX12_goesOn_32 : decode cX12_goesOn 32 = .ok (.bipush 10, 2) := by decide +kernel
theorem dX12_goesOn_34 : decode cX12_goesOn 34 = .ok (.iload_n 1, 1) := by decide +kernel
theorem dX12_goesOn_35 : decode cX12_goesOn 35 = .ok (.iadd, 1) := by decide +kernel
theorem dX12_goesOn_36 : decode cX12_goesOn 36 = .ok (.iaload, 1) := by decide +kernel
theorem dX12_goesOn_37 : decode cX12_goesOn 37 = .ok (.ifCond .ne 19, 3) := by decide +kernel
theorem dX12_goesOn_40 : decode cX12_goesOn 40 = .ok (.aload_n 0, 1) := by decide +kernel
theorem dX12_goesOn_41 : decode cX12_goesOn 41 = .ok (.iconst 3, 1) := by decide +kernel
theorem dX12_goesOn_42 : decode cX12_goesOn 42 = .ok (.aload_n 0, 1) := by decide +kernel
theorem dX12_goesOn_43 : decode cX12_goesOn 43 = .ok (.iconst 2, 1) := by decide +kernel
theorem dX12_goesOn_44 : decode cX12_goesOn 44 = .ok (.iaload, 1) := by decide +kernel
theorem dX12_goesOn_45 : decode cX12_goesOn 45 = .ok (.iadd, 1) := by decide +kernel
theorem dX12_goesOn_46 : decode cX12_goesOn 46 = .ok (.bipush (-9), 2) := by decide +kernel
theorem dX12_goesOn_48 : decode cX12_goesOn 48 = .ok (.iastore, 1) := by decide +kernel
theorem dX12_goesOn_49 : decode cX12_goesOn 49 = .ok (.aload_n 0, 1) := by decide +kernel
theorem dX12_goesOn_50 : decode cX12_goesOn 50 = .ok (.iconst 2, 1) := by decide +kernel
theorem dX12_goesOn_51 : decode cX12_goesOn 51 = .ok (.dup2, 1) := by decide +kernel
theorem dX12_goesOn_52 : decode cX12_goesOn 52 = .ok (.iaload, 1) := by decide +kernel
theorem dX12_goesOn_53 : decode cX12_goesOn 53 = .ok (.iconst 1, 1) := by decide +kernel
theorem dX12_goesOn_54 : decode cX12_goesOn 54 = .ok (.isub, 1) := by decide +kernel
theorem dX12_goesOn_55 : decode cX12_goesOn 55 = .ok (.iastore, 1) := by decide +kernel
theorem dX12_goesOn_56 : decode cX12_goesOn 56 = .ok (.return_, 1) := by decide +kernel
theorem dX12_goesIn_0 : decode cX12_goesIn 0 = .ok (.aload_n 0, 1) := by decide +kernel
theorem dX12_goesIn_1 : decode cX12_goesIn 1 = .ok (.bipush 16, 2) := by decide +kernel
theorem dX12_goesIn_3 : decode cX12_goesIn 3 = .ok (.iload_n 1, 1) := by decide +kernel
theorem dX12_goesIn_4 : decode cX12_goesIn 4 = .ok (.iadd, 1) := by decide +kernel
theorem dX12_goesIn_5 : decode cX12_goesIn 5 = .ok (.iconst 1, 1) := by decide +kernel
theorem dX12_goesIn_6 : decode cX12_goesIn 6 = .ok (.iastore, 1) := by decide +kernel
theorem dX12_goesIn_7 : decode cX12_goesIn 7 = .ok (.aload_n 0, 1) := by decide +kernel
theorem dX12_goesIn_8 : decode cX12_goesIn 8 = .ok (.iconst 2, 1) := by decide +kernel
theorem dX12_goesIn_9 : decode cX12_goesIn 9 = .ok (.dup2, 1) := by decide +kernel
theorem dX12_goesIn_10 : decode cX12_goesIn 10 = .ok (.iaload, 1) := by decide +kernel
theorem dX12_goesIn_11 : decode cX12_goesIn 11 = .ok (.iconst 1, 1) := by decide +kernel
theorem dX12_goesIn_12 : decode cX12_goesIn 12 = .ok (.iadd, 1) := by decide +kernel
theorem dX12_goesIn_13 : decode cX12_goesIn 13 = .ok (.iastore, 1) := by decide +kernel
theorem dX12_goesIn_14 : decode cX12_goesIn 14 = .ok (.aload_n 0, 1) := by decide +kernel
theorem dX12_goesIn_15 : decode cX12_goesIn 15 = .ok (.iconst 3, 1) := by decide +kernel
theorem dX12_goesIn_16 : decode cX12_goesIn 16 = .ok (.aload_n 0, 1) := by decide +kernel
theorem dX12_goesIn_17 : decode cX12_goesIn 17 = .ok (.iconst 2, 1) := by decide +kernel
theorem dX12_goesIn_18 : decode cX12_goesIn 18 = .ok (.iaload, 1) := by decide +kernel
theorem dX12_goesIn_19 : decode cX12_goesIn 19 = .ok (.iadd, 1) := by decide +kernel
theorem dX12_goesIn_20 : decode cX12_goesIn 20 = .ok (.iload_n 1, 1) := by decide +kernel
theorem dX12_goesIn_21 : decode cX12_goesIn 21 = .ok (.iastore, 1) := by decide +kernel
theorem dX12_goesIn_22 : decode cX12_goesIn 22 = .ok (.aload_n 0, 1) := by decide +kernel
theorem dX12_goesIn_23 : decode cX12_goesIn 23 = .ok (.invokestatic 172, 3) := by decide +kernel
theorem dX12_goesIn_26 : decode cX12_goesIn 26 = .ok (.return_, 1) := by decide +kernel
theorem dX12_dawns_0 : decode cX12_dawns 0 = .ok (.aload_n 1, 1) := by decide +kernel
theorem dX12_dawns_1 : decode cX12_dawns 1 = .ok (.iconst 2, 1) := by decide +kernel
theorem dX12_dawns_2 : decode cX12_dawns 2 = .ok (.iaload, 1) := by decide +kernel
theorem dX12_dawns_3 : decode cX12_dawns 3 = .ok (.ifCond .le 7, 3) := by decide +kernel
theorem dX12_dawns_6 : decode cX12_dawns 6 = .ok (.iconst 1, 1) := by decide +kernel
theorem dX12_dawns_7 : decode cX12_dawns 7 = .ok (.goto 4, 3) := by decide +kernel
theorem dX12_dawns_10 : decode cX12_dawns 10 = .ok (.iconst 0, 1) := by decide +kernel
theorem dX12_dawns_11 : decode cX12_dawns 11 = .ok (.istore_n 2, 1) := by decide +kernel
theorem dX12_dawns_12 : decode cX12_dawns 12 = .ok (.iconst 0, 1) := by decide +kernel
theorem dX12_dawns_13 : decode cX12_dawns 13 = .ok (.istore_n 3, 1) := by decide +kernel

theorem dX8_isPause_1 : decode cX8_isPause 1 = .ok (.getfield 47, 3) := by decide +kernel
theorem dX8_isPause_4 : decode cX8_isPause 4 = .ok (.ifCond .eq 15, 3) := by decide +kernel
theorem dX8_isPause_7 : decode cX8_isPause 7 = .ok (.aload_n 0, 1) := by decide +kernel
theorem dX8_isPause_8 : decode cX8_isPause 8 = .ok (.aload_n 0, 1) := by decide +kernel
theorem dX8_isPause_9 : decode cX8_isPause 9 = .ok (.invokevirtual 86, 3) := by decide +kernel
theorem dX8_isPause_12 : decode cX8_isPause 12 = .ok (.invokevirtual 94, 3) := by decide +kernel
theorem dX8_isPause_15 : decode cX8_isPause 15 = .ok (.iconst 1, 1) := by decide +kernel
theorem dX8_isPause_16 : decode cX8_isPause 16 = .ok (.if_icmp .ne 7, 3) := by decide +kernel
theorem dX8_isPause_19 : decode cX8_isPause 19 = .ok (.iconst 1, 1) := by decide +kernel
theorem dX8_isPause_20 : decode cX8_isPause 20 = .ok (.goto 4, 3) := by decide +kernel
theorem dX8_isPause_23 : decode cX8_isPause 23 = .ok (.iconst 0, 1) := by decide +kernel
theorem dX8_isPause_24 : decode cX8_isPause 24 = .ok (.ireturn, 1) := by decide +kernel
theorem dX8_isForgotten_0 : decode cX8_isForgotten 0 = .ok (.aload_n 0, 1) := by decide +kernel
theorem dX8_isForgotten_1 : decode cX8_isForgotten 1 = .ok (.getfield 21, 3) := by decide +kernel
theorem dX8_isForgotten_4 : decode cX8_isForgotten 4 = .ok (.aload_n 0, 1) := by decide +kernel
theorem dX8_isForgotten_5 : decode cX8_isForgotten 5 = .ok (.aload_n 0, 1) := by decide +kernel
theorem dX8_isForgotten_6 : decode cX8_isForgotten 6 = .ok (.iconst 0, 1) := by decide +kernel
theorem dX8_isForgotten_7 : decode cX8_isForgotten 7 = .ok (.invokevirtual 59, 3) := by decide +kernel
theorem dX8_isForgotten_10 : decode cX8_isForgotten 10 = .ok (.invokevirtual 106, 3) := by decide +kernel
theorem dX8_isForgotten_13 : decode cX8_isForgotten 13 = .ok (.isub, 1) := by decide +kernel
theorem dX8_isForgotten_14 : decode cX8_isForgotten 14 = .ok (.aload_n 1, 1) := by decide +kernel
theorem dX8_isForgotten_15 : decode cX8_isForgotten 15 = .ok (.getfield 109, 3) := by decide +kernel
theorem dX8_isForgotten_18 : decode cX8_isForgotten 18 = .ok (.if_icmp .lt 7, 3) := by decide +kernel
theorem dX8_isForgotten_21 : decode cX8_isForgotten 21 = .ok (.iconst 1, 1) := by decide +kernel
theorem dX8_isForgotten_22 : decode cX8_isForgotten 22 = .ok (.goto 4, 3) := by decide +kernel
theorem dX8_isForgotten_25 : decode cX8_isForgotten 25 = .ok (.iconst 0, 1) := by decide +kernel
theorem dX8_isForgotten_26 : decode cX8_isForgotten 26 = .ok (.ireturn, 1) := by decide +kernel
theorem dX8_meetDawn_0 : decode cX8_meetDawn 0 = .ok (.aload_n 0, 1) := by decide +kernel
theorem dX8_meetDawn_1 : decode cX8_meetDawn 1 = .ok (.getfield 47, 3) := by decide +kernel
theorem dX8_meetDawn_4 : decode cX8_meetDawn 4 = .ok (.ifCond .eq 11, 3) := by decide +kernel
theorem dX8_meetDawn_7 : decode cX8_meetDawn 7 = .ok (.aload_n 0, 1) := by decide +kernel
theorem dX8_meetDawn_8 : decode cX8_meetDawn 8 = .ok (.aload_n 1, 1) := by decide +kernel
theorem dX8_meetDawn_9 : decode cX8_meetDawn 9 = .ok (.invokevirtual 112, 3) := by decide +kernel
theorem dX8_meetDawn_12 : decode cX8_meetDawn 12 = .ok (.ifCond .eq 10, 3) := by decide +kernel
theorem dX8_meetDawn_15 : decode cX8_meetDawn 15 = .ok (.aload_n 0, 1) := by decide +kernel
theorem dX8_meetDawn_16 : decode cX8_meetDawn 16 = .ok (.iconst 0, 1) := by decide +kernel
theorem dX8_meetDawn_17 : decode cX8_meetDawn 17 = .ok (.putfield 37, 3) := by decide +kernel
theorem dX8_meetDawn_20 : decode cX8_meetDawn 20 = .ok (.iconst 0, 1) := by decide +kernel
theorem dX8_meetDawn_21 : decode cX8_meetDawn 21 = .ok (.ireturn, 1) := by decide +kernel
theorem dX8_meetDawn_22 : decode cX8_meetDawn 22 = .ok (.aload_n 0, 1) := by decide +kernel
theorem dX8_meetDawn_23 : decode cX8_meetDawn 23 = .ok (.dup, 1) := by decide +kernel
theorem dX8_meetDawn_24 : decode cX8_meetDawn 24 = .ok (.getfield 34, 3) := by decide +kernel
theorem dX8_meetDawn_27 : decode cX8_meetDawn 27 = .ok (.iconst 1, 1) := by decide +kernel
theorem dX8_meetDawn_28 : decode cX8_meetDawn 28 = .ok (.iadd, 1) := by decide +kernel
theorem dX8_meetDawn_29 : decode cX8_meetDawn 29 = .ok (.putfield 34, 3) := by decide +kernel
theorem dX8_meetDawn_32 : decode cX8_meetDawn 32 = .ok (.aload_n 0, 1) := by decide +kernel
theorem dX8_meetDawn_33 : decode cX8_meetDawn 33 = .ok (.dup, 1) := by decide +kernel
theorem dX8_meetDawn_34 : decode cX8_meetDawn 34 = .ok (.getfield 21, 3) := by decide +kernel
theorem dX8_meetDawn_37 : decode cX8_meetDawn 37 = .ok (.iconst 1, 1) := by decide +kernel
theorem dX8_meetDawn_38 : decode cX8_meetDawn 38 = .ok (.iadd, 1) := by decide +kernel
theorem dX8_meetDawn_39 : decode cX8_meetDawn 39 = .ok (.putfield 21, 3) := by decide +kernel
theorem dX8_meetDawn_42 : decode cX8_meetDawn 42 = .ok (.aload_n 0, 1) := by decide +kernel
theorem dX8_meetDawn_43 : decode cX8_meetDawn 43 = .ok (.aload_n 1, 1) := by decide +kernel
theorem dX8_meetDawn_44 : decode cX8_meetDawn 44 = .ok (.aload_n 0, 1) := by decide +kernel
theorem dX8_meetDawn_45 : decode cX8_meetDawn 45 = .ok (.getfield 21, 3) := by decide +kernel
theorem dX8_meetDawn_48 : decode cX8_meetDawn 48 = .ok (.invokevirtual 25, 3) := by decide +kernel
theorem dX8_meetDawn_51 : decode cX8_meetDawn 51 = .ok (.putfield 31, 3) := by decide +kernel
theorem dX8_meetDawn_54 : decode cX8_meetDawn 54 = .ok (.iconst 1, 1) := by decide +kernel
theorem dX8_meetDawn_55 : decode cX8_meetDawn 55 = .ok (.ireturn, 1) := by decide +kernel
theorem dX9_init_0 : decode cX9_init 0 = .ok (.aload_n 0, 1) := by decide +kernel
theorem dX9_init_1 : decode cX9_init 1 = .ok (.invokespecial 3, 3) := by decide +kernel
theorem dX9_init_4 : decode cX9_init 4 = .ok (.aload_n 0, 1) := by decide +kernel
theorem dX9_init_5 : decode cX9_init 5 = .ok (.sipush 150, 3) := by decide +kernel
theorem dX9_init_8 : decode cX9_init 8 = .ok (.newarray .int, 2) := by decide +kernel
theorem dX9_init_10 : decode cX9_init 10 = .ok (.putfield 9, 3) := by decide +kernel
theorem dX9_init_13 : decode cX9_init 13 = .ok (.return_, 1) := by decide +kernel
theorem dX9_add_0 : decode cX9_add 0 = .ok (.aload_n 0, 1) := by decide +kernel
theorem dX9_add_1 : decode cX9_add 1 = .ok (.getfield 15, 3) := by decide +kernel
theorem dX9_add_4 : decode cX9_add 4 = .ok (.ifCond .lt 13, 3) := by decide +kernel
theorem dX9_add_7 : decode cX9_add 7 = .ok (.aload_n 0, 1) := by decide +kernel
theorem dX9_add_8 : decode cX9_add 8 = .ok (.getfield 15, 3) := by decide +kernel
theorem dX9_add_11 : decode cX9_add 11 = .ok (.sipush 150, 3) := by decide +kernel
theorem dX9_add_14 : decode cX9_add 14 = .ok (.if_icmp .lt 5, 3) := by decide +kernel
theorem dX9_add_17 : decode cX9_add 17 = .ok (.iconst 0, 1) := by decide +kernel
theorem dX9_add_18 : decode cX9_add 18 = .ok (.ireturn, 1) := by decide +kernel
theorem dX9_add_19 : decode cX9_add 19 = .ok (.aload_n 0, 1) := by decide +kernel
theorem dX9_add_20 : decode cX9_add 20 = .ok (.getfield 9, 3) := by decide +kernel
theorem dX9_add_23 : decode cX9_add 23 = .ok (.aload_n 0, 1) := by decide +kernel
theorem dX9_add_24 : decode cX9_add 24 = .ok (.getfield 15, 3) := by decide +kernel
theorem dX9_add_27 : decode cX9_add 27 = .ok (.iload_n 1, 1) := by decide +kernel
theorem dX9_add_28 : decode cX9_add 28 = .ok (.iastore, 1) := by decide +kernel
theorem dX9_add_29 : decode cX9_add 29 = .ok (.aload_n 0, 1) := by decide +kernel
theorem dX9_add_30 : decode cX9_add 30 = .ok (.dup, 1) := by decide +kernel
theorem dX9_add_31 : decode cX9_add 31 = .ok (.getfield 15, 3) := by decide +kernel
theorem dX9_add_34 : decode cX9_add 34 = .ok (.iconst 1, 1) := by decide +kernel
theorem dX9_add_35 : decode cX9_add 35 = .ok (.iadd, 1) := by decide +kernel
theorem dX9_add_36 : decode cX9_add 36 = .ok (.putfield 15, 3) := by decide +kernel
theorem dX9_add_39 : decode cX9_add 39 = .ok (.iconst 1, 1) := by decide +kernel
theorem dX9_add_40 : decode cX9_add 40 = .ok (.ireturn, 1) := by decide +kernel
theorem dX9_empty_0 : decode cX9_empty 0 = .ok (.aload_n 0, 1) := by decide +kernel
theorem dX9_empty_1 : decode cX9_empty 1 = .ok (.getfield 15, 3) := by decide +kernel
theorem dX9_empty_4 : decode cX9_empty 4 = .ok (.istore_n 1, 1) := by decide +kernel
theorem dX9_empty_5 : decode cX9_empty 5 = .ok (.aload_n 0, 1) := by decide +kernel
theorem dX9_empty_6 : decode cX9_empty 6 = .ok (.iconst 0, 1) := by decide +kernel
theorem dX9_empty_7 : decode cX9_empty 7 = .ok (.putfield 15, 3) := by decide +kernel
theorem dX9_empty_10 : decode cX9_empty 10 = .ok (.iload_n 1, 1) := by decide +kernel
theorem dX9_empty_11 : decode cX9_empty 11 = .ok (.ireturn, 1) := by decide +kernel
theorem dX9_readInto_0 : decode cX9_readInto 0 = .ok (.aload_n 1, 1) := by decide +kernel
theorem dX9_readInto_1 : decode cX9_readInto 1 = .ok (.invokevirtual 19, 3) := by decide +kernel
theorem dX9_readInto_4 : decode cX9_readInto 4 = .ok (.aload_n 0, 1) := by decide +kernel
theorem dX9_readInto_5 : decode cX9_readInto 5 = .ok (.iconst 0, 1) := by decide +kernel
theorem dX9_readInto_6 : decode cX9_readInto 6 = .ok (.putfield 24, 3) := by decide +kernel
theorem dX9_readInto_9 : decode cX9_readInto 9 = .ok (.aload_n 0, 1) := by decide +kernel
theorem dX9_readInto_10 : decode cX9_readInto 10 = .ok (.invokevirtual 27, 3) := by decide +kernel
theorem dX9_readInto_13 : decode cX9_readInto 13 = .ok (.iconst 0, 1) := by decide +kernel
theorem dX9_readInto_14 : decode cX9_readInto 14 = .ok (.istore_n 2, 1) := by decide +kernel
theorem dX9_readInto_15 : decode cX9_readInto 15 = .ok (.iconst 0, 1) := by decide +kernel
theorem dX9_readInto_16 : decode cX9_readInto 16 = .ok (.istore_n 3, 1) := by decide +kernel
theorem dX9_readInto_17 : decode cX9_readInto 17 = .ok (.iload_n 3, 1) := by decide +kernel
theorem dX9_readInto_18 : decode cX9_readInto 18 = .ok (.sipush 150, 3) := by decide +kernel
theorem dX9_readInto_21 : decode cX9_readInto 21 = .ok (.if_icmp .ge 29, 3) := by decide +kernel
theorem dX9_readInto_24 : decode cX9_readInto 24 = .ok (.aload_n 0, 1) := by decide +kernel
theorem dX9_readInto_25 : decode cX9_readInto 25 = .ok (.getfield 30, 3) := by decide +kernel
theorem dX9_readInto_28 : decode cX9_readInto 28 = .ok (.ifCond .eq 22, 3) := by decide +kernel
theorem dX9_readInto_31 : decode cX9_readInto 31 = .ok (.aload_n 0, 1) := by decide +kernel
theorem dX9_readInto_32 : decode cX9_readInto 32 = .ok (.aload_n 1, 1) := by decide +kernel
theorem dX9_readInto_33 : decode cX9_readInto 33 = .ok (.invokevirtual 33, 3) := by decide +kernel
theorem dX9_readInto_36 : decode cX9_readInto 36 = .ok (.ifCond .ne 5, 3) := by decide +kernel
theorem dX9_readInto_39 : decode cX9_readInto 39 = .ok (.iconst (-1), 1) := by decide +kernel
theorem dX9_readInto_40 : decode cX9_readInto 40 = .ok (.ireturn, 1) := by decide +kernel
theorem dX9_readInto_41 : decode cX9_readInto 41 = .ok (.iinc 2 1, 3) := by decide +kernel
theorem dX9_readInto_44 : decode cX9_readInto 44 = .ok (.iinc 3 1, 3) := by decide +kernel
theorem dX9_readInto_47 : decode cX9_readInto 47 = .ok (.goto (-30), 3) := by decide +kernel
theorem dX9_readInto_50 : decode cX9_readInto 50 = .ok (.aload_n 1, 1) := by decide +kernel
theorem dX9_readInto_51 : decode cX9_readInto 51 = .ok (.invokevirtual 37, 3) := by decide +kernel
theorem dX9_readInto_54 : decode cX9_readInto 54 = .ok (.iload_n 2, 1) := by decide +kernel
theorem dX9_readInto_55 : decode cX9_readInto 55 = .ok (.ireturn, 1) := by decide +kernel
theorem dX9_readItem_0 : decode cX9_readItem 0 = .ok (.aload_n 0, 1) := by decide +kernel
theorem dX9_readItem_1 : decode cX9_readItem 1 = .ok (.getfield 30, 3) := by decide +kernel
theorem dX9_readItem_4 : decode cX9_readItem 4 = .ok (.iconst 1, 1) := by decide +kernel
theorem dX9_readItem_5 : decode cX9_readItem 5 = .ok (.if_icmp .eq 5, 3) := by decide +kernel
theorem dX9_readItem_8 : decode cX9_readItem 8 = .ok (.iconst 0, 1) := by decide +kernel
theorem dX9_readItem_9 : decode cX9_readItem 9 = .ok (.ireturn, 1) := by decide +kernel
theorem dX9_readItem_10 : decode cX9_readItem 10 = .ok (.iconst 0, 1) := by decide +kernel
theorem dX9_readItem_11 : decode cX9_readItem 11 = .ok (.istore_n 2, 1) := by decide +kernel
theorem dX9_readItem_12 : decode cX9_readItem 12 = .ok (.aload_n 0, 1) := by decide +kernel
theorem dX9_readItem_13 : decode cX9_readItem 13 = .ok (.getfield 40, 3) := by decide +kernel
theorem dX9_readItem_16 : decode cX9_readItem 16 = .ok (.lookupswitch 80 #[(100, 71), (109, 62), (110, 53), (116, 44)], 44) := by decide +kernel
theorem dX9_readItem_60 : decode cX9_readItem 60 = .ok (.aload_n 0, 1) := by decide +kernel
theorem dX9_readItem_61 : decode cX9_readItem 61 = .ok (.aload_n 1, 1) := by decide +kernel
theorem dX9_readItem_62 : decode cX9_readItem 62 = .ok (.invokevirtual 43, 3) := by decide +kernel
theorem dX9_readItem_65 : decode cX9_readItem 65 = .ok (.istore_n 2, 1) := by decide +kernel
theorem dX9_readItem_66 : decode cX9_readItem 66 = .ok (.goto 30, 3) := by decide +kernel
theorem dX9_readItem_69 : decode cX9_readItem 69 = .ok (.aload_n 0, 1) := by decide +kernel
theorem dX9_readItem_70 : decode cX9_readItem 70 = .ok (.aload_n 1, 1) := by decide +kernel
theorem dX9_readItem_71 : decode cX9_readItem 71 = .ok (.invokevirtual 46, 3) := by decide +kernel
theorem dX9_readItem_74 : decode cX9_readItem 74 = .ok (.istore_n 2, 1) := by decide +kernel
theorem dX9_readItem_75 : decode cX9_readItem 75 = .ok (.goto 21, 3) := by decide +kernel
theorem dX9_readItem_78 : decode cX9_readItem 78 = .ok (.aload_n 0, 1) := by decide +kernel
theorem dX9_readItem_79 : decode cX9_readItem 79 = .ok (.aload_n 1, 1) := by decide +kernel
theorem dX9_readItem_80 : decode cX9_readItem 80 = .ok (.invokevirtual 49, 3) := by decide +kernel
theorem dX9_readItem_83 : decode cX9_readItem 83 = .ok (.istore_n 2, 1) := by decide +kernel
theorem dX9_readItem_84 : decode cX9_readItem 84 = .ok (.goto 12, 3) := by decide +kernel
theorem dX9_readItem_87 : decode cX9_readItem 87 = .ok (.aload_n 0, 1) := by decide +kernel
theorem dX9_readItem_88 : decode cX9_readItem 88 = .ok (.aload_n 1, 1) := by decide +kernel
theorem dX9_readItem_89 : decode cX9_readItem 89 = .ok (.invokevirtual 52, 3) := by decide +kernel
theorem dX9_readItem_92 : decode cX9_readItem 92 = .ok (.istore_n 2, 1) := by decide +kernel
theorem dX9_readItem_93 : decode cX9_readItem 93 = .ok (.goto 3, 3) := by decide +kernel
theorem dX9_readItem_96 : decode cX9_readItem 96 = .ok (.iload_n 2, 1) := by decide +kernel
theorem dX9_readItem_97 : decode cX9_readItem 97 = .ok (.ifCond .eq 11, 3) := by decide +kernel
theorem dX9_readItem_100 : decode cX9_readItem 100 = .ok (.aload_n 0, 1) := by decide +kernel
theorem dX9_readItem_101 : decode cX9_readItem 101 = .ok (.getfield 30, 3) := by decide +kernel
theorem dX9_readItem_104 : decode cX9_readItem 104 = .ok (.iconst 3, 1) := by decide +kernel
theorem dX9_readItem_105 : decode cX9_readItem 105 = .ok (.if_icmp .eq 5, 3) := by decide +kernel
theorem dX9_readItem_108 : decode cX9_readItem 108 = .ok (.iconst 0, 1) := by decide +kernel
theorem dX9_readItem_109 : decode cX9_readItem 109 = .ok (.ireturn, 1) := by decide +kernel
theorem dX9_readItem_110 : decode cX9_readItem 110 = .ok (.aload_n 0, 1) := by decide +kernel
theorem dX9_readItem_111 : decode cX9_readItem 111 = .ok (.invokevirtual 27, 3) := by decide +kernel
theorem dX9_readItem_114 : decode cX9_readItem 114 = .ok (.iconst 1, 1) := by decide +kernel
theorem dX9_readItem_115 : decode cX9_readItem 115 = .ok (.ireturn, 1) := by decide +kernel
theorem dX9_readTale_0 : decode cX9_readTale 0 = .ok (.aload_n 1, 1) := by decide +kernel
theorem dX9_readTale_1 : decode cX9_readTale 1 = .ok (.getfield 55, 3) := by decide +kernel
theorem dX9_readTale_4 : decode cX9_readTale 4 = .ok (.bipush 6, 2) := by decide +kernel
theorem dX9_readTale_6 : decode cX9_readTale 6 = .ok (.if_icmp .lt 5, 3) := by decide +kernel
theorem dX9_readTale_9 : decode cX9_readTale 9 = .ok (.iconst 0, 1) := by decide +kernel
theorem dX9_readTale_10 : decode cX9_readTale 10 = .ok (.ireturn, 1) := by decide +kernel
theorem dX9_readTale_11 : decode cX9_readTale 11 = .ok (.aload_n 0, 1) := by decide +kernel
theorem dX9_readTale_12 : decode cX9_readTale 12 = .ok (.invokevirtual 27, 3) := by decide +kernel
theorem dX9_readTale_15 : decode cX9_readTale 15 = .ok (.aload_n 0, 1) := by decide +kernel
theorem dX9_readTale_16 : decode cX9_readTale 16 = .ok (.iconst 1, 1) := by decide +kernel
theorem dX9_readTale_17 : decode cX9_readTale 17 = .ok (.bipush 9, 2) := by decide +kernel
theorem dX9_readTale_19 : decode cX9_readTale 19 = .ok (.invokevirtual 58, 3) := by decide +kernel
theorem dX9_readTale_22 : decode cX9_readTale 22 = .ok (.ifCond .ne 5, 3) := by decide +kernel
theorem dX9_readTale_25 : decode cX9_readTale 25 = .ok (.iconst 0, 1) := by decide +kernel
theorem dX9_readTale_26 : decode cX9_readTale 26 = .ok (.ireturn, 1) := by decide +kernel
theorem dX9_readTale_27 : decode cX9_readTale 27 = .ok (.aload_n 0, 1) := by decide +kernel
theorem dX9_readTale_28 : decode cX9_readTale 28 = .ok (.getfield 40, 3) := by decide +kernel
theorem dX9_readTale_31 : decode cX9_readTale 31 = .ok (.istore_n 2, 1) := by decide +kernel
theorem dX9_readTale_32 : decode cX9_readTale 32 = .ok (.aload_n 0, 1) := by decide +kernel
theorem dX9_readTale_33 : decode cX9_readTale 33 = .ok (.invokevirtual 27, 3) := by decide +kernel
theorem dX9_readTale_36 : decode cX9_readTale 36 = .ok (.aload_n 0, 1) := by decide +kernel
theorem dX9_readTale_37 : decode cX9_readTale 37 = .ok (.iconst 0, 1) := by decide +kernel
theorem dX9_readTale_38 : decode cX9_readTale 38 = .ok (.aload_n 1, 1) := by decide +kernel
theorem dX9_readTale_39 : decode cX9_readTale 39 = .ok (.getfield 55, 3) := by decide +kernel
theorem dX9_readTale_42 : decode cX9_readTale 42 = .ok (.iconst 1, 1) := by decide +kernel
theorem dX9_readTale_43 : decode cX9_readTale 43 = .ok (.isub, 1) := by decide +kernel
theorem dX9_readTale_44 : decode cX9_readTale 44 = .ok (.invokevirtual 58, 3) := by decide +kernel
theorem dX9_readTale_47 : decode cX9_readTale 47 = .ok (.ifCond .ne 16, 3) := by decide +kernel
theorem dX9_readTale_50 : decode cX9_readTale 50 = .ok (.aload_n 0, 1) := by decide +kernel
theorem dX9_readTale_51 : decode cX9_readTale 51 = .ok (.bipush 9, 2) := by decide +kernel
theorem dX9_readTale_53 : decode cX9_readTale 53 = .ok (.bipush 9, 2) := by decide +kernel
theorem dX9_readTale_55 : decode cX9_readTale 55 = .ok (.invokevirtual 58, 3) := by decide +kernel
theorem dX9_readTale_58 : decode cX9_readTale 58 = .ok (.ifCond .ne 5, 3) := by decide +kernel
theorem dX9_readTale_61 : decode cX9_readTale 61 = .ok (.iconst 0, 1) := by decide +kernel
theorem dX9_readTale_62 : decode cX9_readTale 62 = .ok (.ireturn, 1) := by decide +kernel
theorem dX9_readTale_63 : decode cX9_readTale 63 = .ok (.aload_n 1, 1) := by decide +kernel
theorem dX9_readTale_64 : decode cX9_readTale 64 = .ok (.iload_n 2, 1) := by decide +kernel
theorem dX9_readTale_65 : decode cX9_readTale 65 = .ok (.aload_n 0, 1) := by decide +kernel
theorem dX9_readTale_66 : decode cX9_readTale 66 = .ok (.getfield 40, 3) := by decide +kernel
theorem dX9_readTale_69 : decode cX9_readTale 69 = .ok (.invokevirtual 62, 3) := by decide +kernel
theorem dX9_readTale_72 : decode cX9_readTale 72 = .ok (.aload_n 0, 1) := by decide +kernel
theorem dX9_readTale_73 : decode cX9_readTale 73 = .ok (.invokevirtual 27, 3) := by decide +kernel
theorem dX9_readTale_76 : decode cX9_readTale 76 = .ok (.iconst 1, 1) := by decide +kernel
theorem dX9_readTale_77 : decode cX9_readTale 77 = .ok (.ireturn, 1) := by decide +kernel
theorem dX9_readNights_0 : decode cX9_readNights 0 = .ok (.aload_n 1, 1) := by decide +kernel
theorem dX9_readNights_1 : decode cX9_readNights 1 = .ok (.getfield 66, 3) := by decide +kernel
theorem dX9_readNights_4 : decode cX9_readNights 4 = .ok (.ifCond .le 5, 3) := by decide +kernel
theorem dX9_readNights_7 : decode cX9_readNights 7 = .ok (.iconst 0, 1) := by decide +kernel
theorem dX9_readNights_8 : decode cX9_readNights 8 = .ok (.ireturn, 1) := by decide +kernel
theorem dX9_readNights_9 : decode cX9_readNights 9 = .ok (.aload_n 0, 1) := by decide +kernel
theorem dX9_readNights_10 : decode cX9_readNights 10 = .ok (.invokevirtual 27, 3) := by decide +kernel
theorem dX9_readNights_13 : decode cX9_readNights 13 = .ok (.iconst 0, 1) := by decide +kernel
theorem dX9_readNights_14 : decode cX9_readNights 14 = .ok (.istore_n 2, 1) := by decide +kernel
theorem dX9_readNights_15 : decode cX9_readNights 15 = .ok (.iload_n 2, 1) := by decide +kernel
theorem dX9_readNights_16 : decode cX9_readNights 16 = .ok (.bipush 8, 2) := by decide +kernel
theorem dX9_readNights_18 : decode cX9_readNights 18 = .ok (.if_icmp .ge 31, 3) := by decide +kernel
theorem dX9_readNights_21 : decode cX9_readNights 21 = .ok (.aload_n 0, 1) := by decide +kernel
theorem dX9_readNights_22 : decode cX9_readNights 22 = .ok (.iconst 1, 1) := by decide +kernel
theorem dX9_readNights_23 : decode cX9_readNights 23 = .ok (.bipush 9, 2) := by decide +kernel
theorem dX9_readNights_25 : decode cX9_readNights 25 = .ok (.invokevirtual 58, 3) := by decide +kernel
theorem dX9_readNights_28 : decode cX9_readNights 28 = .ok (.ifCond .eq 21, 3) := by decide +kernel
theorem dX9_readNights_31 : decode cX9_readNights 31 = .ok (.aload_n 1, 1) := by decide +kernel
theorem dX9_readNights_32 : decode cX9_readNights 32 = .ok (.aload_n 0, 1) := by decide +kernel
theorem dX9_readNights_33 : decode cX9_readNights 33 = .ok (.getfield 40, 3) := by decide +kernel
theorem dX9_readNights_36 : decode cX9_readNights 36 = .ok (.invokevirtual 69, 3) := by decide +kernel
theorem dX9_readNights_39 : decode cX9_readNights 39 = .ok (.aload_n 0, 1) := by decide +kernel
theorem dX9_readNights_40 : decode cX9_readNights 40 = .ok (.invokevirtual 27, 3) := by decide +kernel
theorem dX9_readNights_43 : decode cX9_readNights 43 = .ok (.iinc 2 1, 3) := by decide +kernel
theorem dX9_readNights_46 : decode cX9_readNights 46 = .ok (.goto (-31), 3) := by decide +kernel
theorem dX9_readNights_49 : decode cX9_readNights 49 = .ok (.aload_n 1, 1) := by decide +kernel
theorem dX9_readNights_50 : decode cX9_readNights 50 = .ok (.getfield 66, 3) := by decide +kernel
theorem dX9_readNights_53 : decode cX9_readNights 53 = .ok (.ifCond .le 7, 3) := by decide +kernel
theorem dX9_readNights_56 : decode cX9_readNights 56 = .ok (.iconst 1, 1) := by decide +kernel
theorem dX9_readNights_57 : decode cX9_readNights 57 = .ok (.goto 4, 3) := by decide +kernel
theorem dX9_readNights_60 : decode cX9_readNights 60 = .ok (.iconst 0, 1) := by decide +kernel
theorem dX9_readNights_61 : decode cX9_readNights 61 = .ok (.ireturn, 1) := by decide +kernel
theorem dX9_readMemory_0 : decode cX9_readMemory 0 = .ok (.aload_n 1, 1) := by decide +kernel
theorem dX9_readMemory_1 : decode cX9_readMemory 1 = .ok (.getfield 73, 3) := by decide +kernel
theorem dX9_readMemory_4 : decode cX9_readMemory 4 = .ok (.ifCond .le 5, 3) := by decide +kernel
theorem dX9_readMemory_7 : decode cX9_readMemory 7 = .ok (.iconst 0, 1) := by decide +kernel
theorem dX9_readMemory_8 : decode cX9_readMemory 8 = .ok (.ireturn, 1) := by decide +kernel
theorem dX9_readMemory_9 : decode cX9_readMemory 9 = .ok (.aload_n 0, 1) := by decide +kernel
theorem dX9_readMemory_10 : decode cX9_readMemory 10 = .ok (.invokevirtual 27, 3) := by decide +kernel
theorem dX9_readMemory_13 : decode cX9_readMemory 13 = .ok (.aload_n 0, 1) := by decide +kernel
theorem dX9_readMemory_14 : decode cX9_readMemory 14 = .ok (.iconst 1, 1) := by decide +kernel
theorem dX9_readMemory_15 : decode cX9_readMemory 15 = .ok (.bipush 9, 2) := by decide +kernel
theorem dX9_readMemory_17 : decode cX9_readMemory 17 = .ok (.invokevirtual 58, 3) := by decide +kernel
theorem dX9_readMemory_20 : decode cX9_readMemory 20 = .ok (.ifCond .ne 5, 3) := by decide +kernel
theorem dX9_readMemory_23 : decode cX9_readMemory 23 = .ok (.iconst 0, 1) := by decide +kernel
theorem dX9_readMemory_24 : decode cX9_readMemory 24 = .ok (.ireturn, 1) := by decide +kernel
theorem dX9_readMemory_25 : decode cX9_readMemory 25 = .ok (.aload_n 1, 1) := by decide +kernel
theorem dX9_readMemory_26 : decode cX9_readMemory 26 = .ok (.aload_n 0, 1) := by decide +kernel
theorem dX9_readMemory_27 : decode cX9_readMemory 27 = .ok (.getfield 40, 3) := by decide +kernel
theorem dX9_readMemory_30 : decode cX9_readMemory 30 = .ok (.putfield 73, 3) := by decide +kernel
theorem dX9_readMemory_33 : decode cX9_readMemory 33 = .ok (.aload_n 0, 1) := by decide +kernel
theorem dX9_readMemory_34 : decode cX9_readMemory 34 = .ok (.invokevirtual 27, 3) := by decide +kernel
theorem dX9_readMemory_37 : decode cX9_readMemory 37 = .ok (.iconst 1, 1) := by decide +kernel
theorem dX9_readMemory_38 : decode cX9_readMemory 38 = .ok (.ireturn, 1) := by decide +kernel
theorem dX9_readDepth_0 : decode cX9_readDepth 0 = .ok (.aload_n 1, 1) := by decide +kernel
theorem dX9_readDepth_1 : decode cX9_readDepth 1 = .ok (.getfield 76, 3) := by decide +kernel
theorem dX9_readDepth_4 : decode cX9_readDepth 4 = .ok (.ifCond .le 5, 3) := by decide +kernel
theorem dX9_readDepth_7 : decode cX9_readDepth 7 = .ok (.iconst 0, 1) := by decide +kernel
theorem dX9_readDepth_8 : decode cX9_readDepth 8 = .ok (.ireturn, 1) := by decide +kernel
theorem dX9_readDepth_9 : decode cX9_readDepth 9 = .ok (.aload_n 0, 1) := by decide +kernel
theorem dX9_readDepth_10 : decode cX9_readDepth 10 = .ok (.invokevirtual 27, 3) := by decide +kernel
theorem dX9_readDepth_13 : decode cX9_readDepth 13 = .ok (.aload_n 0, 1) := by decide +kernel
theorem dX9_readDepth_14 : decode cX9_readDepth 14 = .ok (.iconst 1, 1) := by decide +kernel
theorem dX9_readDepth_15 : decode cX9_readDepth 15 = .ok (.bipush 6, 2) := by decide +kernel
theorem dX9_readDepth_17 : decode cX9_readDepth 17 = .ok (.invokevirtual 58, 3) := by decide +kernel
theorem dX9_readDepth_20 : decode cX9_readDepth 20 = .ok (.ifCond .ne 5, 3) := by decide +kernel
theorem dX9_readDepth_23 : decode cX9_readDepth 23 = .ok (.iconst 0, 1) := by decide +kernel
theorem dX9_readDepth_24 : decode cX9_readDepth 24 = .ok (.ireturn, 1) := by decide +kernel
theorem dX9_readDepth_25 : decode cX9_readDepth 25 = .ok (.aload_n 1, 1) := by decide +kernel
theorem dX9_readDepth_26 : decode cX9_readDepth 26 = .ok (.aload_n 0, 1) := by decide +kernel
theorem dX9_readDepth_27 : decode cX9_readDepth 27 = .ok (.getfield 40, 3) := by decide +kernel
theorem dX9_readDepth_30 : decode cX9_readDepth 30 = .ok (.putfield 76, 3) := by decide +kernel
theorem dX9_readDepth_33 : decode cX9_readDepth 33 = .ok (.aload_n 0, 1) := by decide +kernel
theorem dX9_readDepth_34 : decode cX9_readDepth 34 = .ok (.invokevirtual 27, 3) := by decide +kernel
theorem dX9_readDepth_37 : decode cX9_readDepth 37 = .ok (.iconst 1, 1) := by decide +kernel
theorem dX9_readDepth_38 : decode cX9_readDepth 38 = .ok (.ireturn, 1) := by decide +kernel
theorem dX9_isNumber_0 : decode cX9_isNumber 0 = .ok (.aload_n 0, 1) := by decide +kernel
theorem dX9_isNumber_1 : decode cX9_isNumber 1 = .ok (.getfield 30, 3) := by decide +kernel
theorem dX9_isNumber_4 : decode cX9_isNumber 4 = .ok (.iconst 2, 1) := by decide +kernel
theorem dX9_isNumber_5 : decode cX9_isNumber 5 = .ok (.if_icmp .ne 23, 3) := by decide +kernel
theorem dX9_isNumber_8 : decode cX9_isNumber 8 = .ok (.aload_n 0, 1) := by decide +kernel
theorem dX9_isNumber_9 : decode cX9_isNumber 9 = .ok (.getfield 40, 3) := by decide +kernel
theorem dX9_isNumber_12 : decode cX9_isNumber 12 = .ok (.iload_n 1, 1) := by decide +kernel
theorem dX9_isNumber_13 : decode cX9_isNumber 13 = .ok (.if_icmp .lt 15, 3) := by decide +kernel
theorem dX9_isNumber_16 : decode cX9_isNumber 16 = .ok (.aload_n 0, 1) := by decide +kernel
theorem dX9_isNumber_17 : decode cX9_isNumber 17 = .ok (.getfield 40, 3) := by decide +kernel
theorem dX9_isNumber_20 : decode cX9_isNumber 20 = .ok (.iload_n 2, 1) := by decide +kernel
theorem dX9_isNumber_21 : decode cX9_isNumber 21 = .ok (.if_icmp .gt 7, 3) := by decide +kernel
theorem dX9_isNumber_24 : decode cX9_isNumber 24 = .ok (.iconst 1, 1) := by decide +kernel
theorem dX9_isNumber_25 : decode cX9_isNumber 25 = .ok (.goto 4, 3) := by decide +kernel
theorem dX9_isNumber_28 : decode cX9_isNumber 28 = .ok (.iconst 0, 1) := by decide +kernel
theorem dX9_isNumber_29 : decode cX9_isNumber 29 = .ok (.ireturn, 1) := by decide +kernel
theorem dX9_nextToken_0 : decode cX9_nextToken 0 = .ok (.iconst 0, 1) := by decide +kernel
theorem dX9_nextToken_1 : decode cX9_nextToken 1 = .ok (.istore_n 1, 1) := by decide +kernel
theorem dX9_nextToken_2 : decode cX9_nextToken 2 = .ok (.iload_n 1, 1) := by decide +kernel
theorem dX9_nextToken_3 : decode cX9_nextToken 3 = .ok (.sipush 150, 3) := by decide +kernel
theorem dX9_nextToken_6 : decode cX9_nextToken 6 = .ok (.if_icmp .ge 32, 3) := by decide +kernel
theorem dX9_nextToken_9 : decode cX9_nextToken 9 = .ok (.aload_n 0, 1) := by decide +kernel
theorem dX9_nextToken_10 : decode cX9_nextToken 10 = .ok (.aload_n 0, 1) := by decide +kernel
theorem dX9_nextToken_11 : decode cX9_nextToken 11 = .ok (.getfield 24, 3) := by decide +kernel
theorem dX9_nextToken_14 : decode cX9_nextToken 14 = .ok (.invokevirtual 79, 3) := by decide +kernel
theorem dX9_nextToken_17 : decode cX9_nextToken 17 = .ok (.bipush 32, 2) := by decide +kernel
theorem dX9_nextToken_19 : decode cX9_nextToken 19 = .ok (.if_icmp .ne 19, 3) := by decide +kernel
theorem dX9_nextToken_22 : decode cX9_nextToken 22 = .ok (.aload_n 0, 1) := by decide +kernel
theorem dX9_nextToken_23 : decode cX9_nextToken 23 = .ok (.dup, 1) := by decide +kernel
theorem dX9_nextToken_24 : decode cX9_nextToken 24 = .ok (.getfield 24, 3) := by decide +kernel
theorem dX9_nextToken_27 : decode cX9_nextToken 27 = .ok (.iconst 1, 1) := by decide +kernel
theorem dX9_nextToken_28 : decode cX9_nextToken 28 = .ok (.iadd, 1) := by decide +kernel
theorem dX9_nextToken_29 : decode cX9_nextToken 29 = .ok (.putfield 24, 3) := by decide +kernel
theorem dX9_nextToken_32 : decode cX9_nextToken 32 = .ok (.iinc 1 1, 3) := by decide +kernel
theorem dX9_nextToken_35 : decode cX9_nextToken 35 = .ok (.goto (-33), 3) := by decide +kernel
theorem dX9_nextToken_38 : decode cX9_nextToken 38 = .ok (.aload_n 0, 1) := by decide +kernel
theorem dX9_nextToken_39 : decode cX9_nextToken 39 = .ok (.aload_n 0, 1) := by decide +kernel
theorem dX9_nextToken_40 : decode cX9_nextToken 40 = .ok (.getfield 24, 3) := by decide +kernel
theorem dX9_nextToken_43 : decode cX9_nextToken 43 = .ok (.putfield 83, 3) := by decide +kernel
theorem dX9_nextToken_46 : decode cX9_nextToken 46 = .ok (.aload_n 0, 1) := by decide +kernel
theorem dX9_nextToken_47 : decode cX9_nextToken 47 = .ok (.aload_n 0, 1) := by decide +kernel
theorem dX9_nextToken_48 : decode cX9_nextToken 48 = .ok (.getfield 83, 3) := by decide +kernel
theorem dX9_nextToken_51 : decode cX9_nextToken 51 = .ok (.invokevirtual 79, 3) := by decide +kernel
theorem dX9_nextToken_54 : decode cX9_nextToken 54 = .ok (.istore_n 1, 1) := by decide +kernel
theorem dX9_nextToken_55 : decode cX9_nextToken 55 = .ok (.aload_n 0, 1) := by decide +kernel
theorem dX9_nextToken_56 : decode cX9_nextToken 56 = .ok (.getfield 83, 3) := by decide +kernel
theorem dX9_nextToken_59 : decode cX9_nextToken 59 = .ok (.aload_n 0, 1) := by decide +kernel
theorem dX9_nextToken_60 : decode cX9_nextToken 60 = .ok (.getfield 15, 3) := by decide +kernel
theorem dX9_nextToken_63 : decode cX9_nextToken 63 = .ok (.if_icmp .lt 11, 3) := by decide +kernel
theorem dX9_nextToken_66 : decode cX9_nextToken 66 = .ok (.aload_n 0, 1) := by decide +kernel
theorem dX9_nextToken_67 : decode cX9_nextToken 67 = .ok (.iconst 0, 1) := by decide +kernel
theorem dX9_nextToken_68 : decode cX9_nextToken 68 = .ok (.putfield 30, 3) := by decide +kernel
theorem dX9_nextToken_71 : decode cX9_nextToken 71 = .ok (.goto 56, 3) := by decide +kernel
theorem dX9_nextToken_74 : decode cX9_nextToken 74 = .ok (.iload_n 1, 1) := by decide +kernel
theorem dX9_nextToken_75 : decode cX9_nextToken 75 = .ok (.invokestatic 86, 3) := by decide +kernel
theorem dX9_nextToken_78 : decode cX9_nextToken 78 = .ok (.ifCond .eq 10, 3) := by decide +kernel
theorem dX9_nextToken_81 : decode cX9_nextToken 81 = .ok (.aload_n 0, 1) := by decide +kernel
theorem dX9_nextToken_82 : decode cX9_nextToken 82 = .ok (.invokevirtual 90, 3) := by decide +kernel
theorem dX9_nextToken_85 : decode cX9_nextToken 85 = .ok (.goto 42, 3) := by decide +kernel
theorem dX9_nextToken_88 : decode cX9_nextToken 88 = .ok (.iload_n 1, 1) := by decide +kernel
theorem dX9_nextToken_89 : decode cX9_nextToken 89 = .ok (.invokestatic 93, 3) := by decide +kernel
theorem dX9_nextToken_92 : decode cX9_nextToken 92 = .ok (.ifCond .eq 10, 3) := by decide +kernel
theorem dX9_nextToken_95 : decode cX9_nextToken 95 = .ok (.aload_n 0, 1) := by decide +kernel
theorem dX9_nextToken_96 : decode cX9_nextToken 96 = .ok (.invokevirtual 96, 3) := by decide +kernel
theorem dX9_nextToken_99 : decode cX9_nextToken 99 = .ok (.goto 28, 3) := by decide +kernel
theorem dX9_nextToken_102 : decode cX9_nextToken 102 = .ok (.aload_n 0, 1) := by decide +kernel
theorem dX9_nextToken_103 : decode cX9_nextToken 103 = .ok (.iload_n 1, 1) := by decide +kernel
theorem dX9_nextToken_104 : decode cX9_nextToken 104 = .ok (.bipush 59, 2) := by decide +kernel
theorem dX9_nextToken_106 : decode cX9_nextToken 106 = .ok (.if_icmp .ne 7, 3) := by decide +kernel
theorem dX9_nextToken_109 : decode cX9_nextToken 109 = .ok (.iconst 3, 1) := by decide +kernel
theorem dX9_nextToken_110 : decode cX9_nextToken 110 = .ok (.goto 4, 3) := by decide +kernel
theorem dX9_nextToken_113 : decode cX9_nextToken 113 = .ok (.iconst 4, 1) := by decide +kernel
theorem dX9_nextToken_114 : decode cX9_nextToken 114 = .ok (.putfield 30, 3) := by decide +kernel
theorem dX9_nextToken_117 : decode cX9_nextToken 117 = .ok (.aload_n 0, 1) := by decide +kernel
theorem dX9_nextToken_118 : decode cX9_nextToken 118 = .ok (.aload_n 0, 1) := by decide +kernel
theorem dX9_nextToken_119 : decode cX9_nextToken 119 = .ok (.getfield 83, 3) := by decide +kernel
theorem dX9_nextToken_122 : decode cX9_nextToken 122 = .ok (.iconst 1, 1) := by decide +kernel
theorem dX9_nextToken_123 : decode cX9_nextToken 123 = .ok (.iadd, 1) := by decide +kernel
theorem dX9_nextToken_124 : decode cX9_nextToken 124 = .ok (.putfield 24, 3) := by decide +kernel
theorem dX9_nextToken_127 : decode cX9_nextToken 127 = .ok (.return_, 1) := by decide +kernel
theorem dX9_takeLetters_0 : decode cX9_takeLetters 0 = .ok (.iconst 0, 1) := by decide +kernel
theorem dX9_takeLetters_1 : decode cX9_takeLetters 1 = .ok (.istore_n 1, 1) := by decide +kernel
theorem dX9_takeLetters_2 : decode cX9_takeLetters 2 = .ok (.iload_n 1, 1) := by decide +kernel
theorem dX9_takeLetters_3 : decode cX9_takeLetters 3 = .ok (.sipush 150, 3) := by decide +kernel
theorem dX9_takeLetters_6 : decode cX9_takeLetters 6 = .ok (.if_icmp .ge 33, 3) := by decide +kernel
theorem dX9_takeLetters_9 : decode cX9_takeLetters 9 = .ok (.aload_n 0, 1) := by decide +kernel
theorem dX9_takeLetters_10 : decode cX9_takeLetters 10 = .ok (.aload_n 0, 1) := by decide +kernel
theorem dX9_takeLetters_11 : decode cX9_takeLetters 11 = .ok (.getfield 24, 3) := by decide +kernel
theorem dX9_takeLetters_14 : decode cX9_takeLetters 14 = .ok (.invokevirtual 79, 3) := by decide +kernel
theorem dX9_takeLetters_17 : decode cX9_takeLetters 17 = .ok (.invokestatic 86, 3) := by decide +kernel
theorem dX9_takeLetters_20 : decode cX9_takeLetters 20 = .ok (.ifCond .eq 19, 3) := by decide +kernel
theorem dX9_takeLetters_23 : decode cX9_takeLetters 23 = .ok (.aload_n 0, 1) := by decide +kernel
theorem dX9_takeLetters_24 : decode cX9_takeLetters 24 = .ok (.dup, 1) := by decide +kernel
theorem dX9_takeLetters_25 : decode cX9_takeLetters 25 = .ok (.getfield 24, 3) := by decide +kernel
theorem dX9_takeLetters_28 : decode cX9_takeLetters 28 = .ok (.iconst 1, 1) := by decide +kernel
theorem dX9_takeLetters_29 : decode cX9_takeLetters 29 = .ok (.iadd, 1) := by decide +kernel
theorem dX9_takeLetters_30 : decode cX9_takeLetters 30 = .ok (.putfield 24, 3) := by decide +kernel
theorem dX9_takeLetters_33 : decode cX9_takeLetters 33 = .ok (.iinc 1 1, 3) := by decide +kernel
theorem dX9_takeLetters_36 : decode cX9_takeLetters 36 = .ok (.goto (-34), 3) := by decide +kernel
theorem dX9_takeLetters_39 : decode cX9_takeLetters 39 = .ok (.aload_n 0, 1) := by decide +kernel
theorem dX9_takeLetters_40 : decode cX9_takeLetters 40 = .ok (.iconst 1, 1) := by decide +kernel
theorem dX9_takeLetters_41 : decode cX9_takeLetters 41 = .ok (.putfield 30, 3) := by decide +kernel
theorem dX9_takeLetters_44 : decode cX9_takeLetters 44 = .ok (.aload_n 0, 1) := by decide +kernel
theorem dX9_takeLetters_45 : decode cX9_takeLetters 45 = .ok (.aload_n 0, 1) := by decide +kernel
theorem dX9_takeLetters_46 : decode cX9_takeLetters 46 = .ok (.getfield 24, 3) := by decide +kernel
theorem dX9_takeLetters_49 : decode cX9_takeLetters 49 = .ok (.aload_n 0, 1) := by decide +kernel
theorem dX9_takeLetters_50 : decode cX9_takeLetters 50 = .ok (.getfield 83, 3) := by decide +kernel
theorem dX9_takeLetters_53 : decode cX9_takeLetters 53 = .ok (.isub, 1) := by decide +kernel
theorem dX9_takeLetters_54 : decode cX9_takeLetters 54 = .ok (.iconst 1, 1) := by decide +kernel
theorem dX9_takeLetters_55 : decode cX9_takeLetters 55 = .ok (.if_icmp .ne 14, 3) := by decide +kernel
theorem dX9_takeLetters_58 : decode cX9_takeLetters 58 = .ok (.aload_n 0, 1) := by decide +kernel
theorem dX9_takeLetters_59 : decode cX9_takeLetters 59 = .ok (.aload_n 0, 1) := by decide +kernel
theorem dX9_takeLetters_60 : decode cX9_takeLetters 60 = .ok (.getfield 83, 3) := by decide +kernel
theorem dX9_takeLetters_63 : decode cX9_takeLetters 63 = .ok (.invokevirtual 79, 3) := by decide +kernel
theorem dX9_takeLetters_66 : decode cX9_takeLetters 66 = .ok (.goto 4, 3) := by decide +kernel
theorem dX9_takeLetters_69 : decode cX9_takeLetters 69 = .ok (.iconst 0, 1) := by decide +kernel
theorem dX9_takeLetters_70 : decode cX9_takeLetters 70 = .ok (.putfield 40, 3) := by decide +kernel
theorem dX9_takeLetters_73 : decode cX9_takeLetters 73 = .ok (.return_, 1) := by decide +kernel
theorem dX9_takeNumber_0 : decode cX9_takeNumber 0 = .ok (.aload_n 0, 1) := by decide +kernel
theorem dX9_takeNumber_1 : decode cX9_takeNumber 1 = .ok (.iconst 0, 1) := by decide +kernel
theorem dX9_takeNumber_2 : decode cX9_takeNumber 2 = .ok (.putfield 40, 3) := by decide +kernel
theorem dX9_takeNumber_5 : decode cX9_takeNumber 5 = .ok (.iconst 0, 1) := by decide +kernel
theorem dX9_takeNumber_6 : decode cX9_takeNumber 6 = .ok (.istore_n 1, 1) := by decide +kernel
theorem dX9_takeNumber_7 : decode cX9_takeNumber 7 = .ok (.iload_n 1, 1) := by decide +kernel
theorem dX9_takeNumber_8 : decode cX9_takeNumber 8 = .ok (.sipush 150, 3) := by decide +kernel
theorem dX9_takeNumber_11 : decode cX9_takeNumber 11 = .ok (.if_icmp .ge 61, 3) := by decide +kernel
theorem dX9_takeNumber_14 : decode cX9_takeNumber 14 = .ok (.aload_n 0, 1) := by decide +kernel
theorem dX9_takeNumber_15 : decode cX9_takeNumber 15 = .ok (.aload_n 0, 1) := by decide +kernel
theorem dX9_takeNumber_16 : decode cX9_takeNumber 16 = .ok (.getfield 24, 3) := by decide +kernel
theorem dX9_takeNumber_19 : decode cX9_takeNumber 19 = .ok (.invokevirtual 79, 3) := by decide +kernel
theorem dX9_takeNumber_22 : decode cX9_takeNumber 22 = .ok (.invokestatic 93, 3) := by decide +kernel
theorem dX9_takeNumber_25 : decode cX9_takeNumber 25 = .ok (.ifCond .eq 47, 3) := by decide +kernel
theorem dX9_takeNumber_28 : decode cX9_takeNumber 28 = .ok (.aload_n 0, 1) := by decide +kernel
theorem dX9_takeNumber_29 : decode cX9_takeNumber 29 = .ok (.aload_n 0, 1) := by decide +kernel
theorem dX9_takeNumber_30 : decode cX9_takeNumber 30 = .ok (.getfield 40, 3) := by decide +kernel
theorem dX9_takeNumber_33 : decode cX9_takeNumber 33 = .ok (.bipush 10, 2) := by decide +kernel
theorem dX9_takeNumber_35 : decode cX9_takeNumber 35 = .ok (.imul, 1) := by decide +kernel
theorem dX9_takeNumber_36 : decode cX9_takeNumber 36 = .ok (.aload_n 0, 1) := by decide +kernel
theorem dX9_takeNumber_37 : decode cX9_takeNumber 37 = .ok (.aload_n 0, 1) := by decide +kernel
theorem dX9_takeNumber_38 : decode cX9_takeNumber 38 = .ok (.getfield 24, 3) := by decide +kernel
theorem dX9_takeNumber_41 : decode cX9_takeNumber 41 = .ok (.invokevirtual 79, 3) := by decide +kernel
theorem dX9_takeNumber_44 : decode cX9_takeNumber 44 = .ok (.iadd, 1) := by decide +kernel
theorem dX9_takeNumber_45 : decode cX9_takeNumber 45 = .ok (.bipush 48, 2) := by decide +kernel
theorem dX9_takeNumber_47 : decode cX9_takeNumber 47 = .ok (.isub, 1) := by decide +kernel
theorem dX9_takeNumber_48 : decode cX9_takeNumber 48 = .ok (.bipush 100, 2) := by decide +kernel
theorem dX9_takeNumber_50 : decode cX9_takeNumber 50 = .ok (.invokestatic 99, 3) := by decide +kernel
theorem dX9_takeNumber_53 : decode cX9_takeNumber 53 = .ok (.putfield 40, 3) := by decide +kernel
theorem dX9_takeNumber_56 : decode cX9_takeNumber 56 = .ok (.aload_n 0, 1) := by decide +kernel
theorem dX9_takeNumber_57 : decode cX9_takeNumber 57 = .ok (.dup, 1) := by decide +kernel
theorem dX9_takeNumber_58 : decode cX9_takeNumber 58 = .ok (.getfield 24, 3) := by decide +kernel
theorem dX9_takeNumber_61 : decode cX9_takeNumber 61 = .ok (.iconst 1, 1) := by decide +kernel
theorem dX9_takeNumber_62 : decode cX9_takeNumber 62 = .ok (.iadd, 1) := by decide +kernel
theorem dX9_takeNumber_63 : decode cX9_takeNumber 63 = .ok (.putfield 24, 3) := by decide +kernel
theorem dX9_takeNumber_66 : decode cX9_takeNumber 66 = .ok (.iinc 1 1, 3) := by decide +kernel
theorem dX9_takeNumber_69 : decode cX9_takeNumber 69 = .ok (.goto (-62), 3) := by decide +kernel
theorem dX9_takeNumber_72 : decode cX9_takeNumber 72 = .ok (.aload_n 0, 1) := by decide +kernel
theorem dX9_takeNumber_73 : decode cX9_takeNumber 73 = .ok (.aload_n 0, 1) := by decide +kernel
theorem dX9_takeNumber_74 : decode cX9_takeNumber 74 = .ok (.getfield 83, 3) := by decide +kernel
theorem dX9_takeNumber_77 : decode cX9_takeNumber 77 = .ok (.invokevirtual 79, 3) := by decide +kernel
theorem dX9_takeNumber_80 : decode cX9_takeNumber 80 = .ok (.bipush 48, 2) := by decide +kernel
theorem dX9_takeNumber_82 : decode cX9_takeNumber 82 = .ok (.if_icmp .ne 20, 3) := by decide +kernel
theorem dX9_takeNumber_85 : decode cX9_takeNumber 85 = .ok (.aload_n 0, 1) := by decide +kernel
theorem dX9_takeNumber_86 : decode cX9_takeNumber 86 = .ok (.getfield 24, 3) := by decide +kernel
theorem dX9_takeNumber_89 : decode cX9_takeNumber 89 = .ok (.aload_n 0, 1) := by decide +kernel
theorem dX9_takeNumber_90 : decode cX9_takeNumber 90 = .ok (.getfield 83, 3) := by decide +kernel
theorem dX9_takeNumber_93 : decode cX9_takeNumber 93 = .ok (.isub, 1) := by decide +kernel
theorem dX9_takeNumber_94 : decode cX9_takeNumber 94 = .ok (.iconst 1, 1) := by decide +kernel
theorem dX9_takeNumber_95 : decode cX9_takeNumber 95 = .ok (.if_icmp .le 7, 3) := by decide +kernel
theorem dX9_takeNumber_98 : decode cX9_takeNumber 98 = .ok (.iconst 1, 1) := by decide +kernel
theorem dX9_takeNumber_99 : decode cX9_takeNumber 99 = .ok (.goto 4, 3) := by decide +kernel
theorem dX9_takeNumber_102 : decode cX9_takeNumber 102 = .ok (.iconst 0, 1) := by decide +kernel
theorem dX9_takeNumber_103 : decode cX9_takeNumber 103 = .ok (.istore_n 1, 1) := by decide +kernel
theorem dX9_takeNumber_104 : decode cX9_takeNumber 104 = .ok (.aload_n 0, 1) := by decide +kernel
theorem dX9_takeNumber_105 : decode cX9_takeNumber 105 = .ok (.aload_n 0, 1) := by decide +kernel
theorem dX9_takeNumber_106 : decode cX9_takeNumber 106 = .ok (.getfield 40, 3) := by decide +kernel
theorem dX9_takeNumber_109 : decode cX9_takeNumber 109 = .ok (.bipush 99, 2) := by decide +kernel
theorem dX9_takeNumber_111 : decode cX9_takeNumber 111 = .ok (.if_icmp .gt 7, 3) := by decide +kernel
theorem dX9_takeNumber_114 : decode cX9_takeNumber 114 = .ok (.iload_n 1, 1) := by decide +kernel
theorem dX9_takeNumber_115 : decode cX9_takeNumber 115 = .ok (.ifCond .eq 7, 3) := by decide +kernel
theorem dX9_takeNumber_118 : decode cX9_takeNumber 118 = .ok (.iconst 4, 1) := by decide +kernel
theorem dX9_takeNumber_119 : decode cX9_takeNumber 119 = .ok (.goto 4, 3) := by decide +kernel
theorem dX9_takeNumber_122 : decode cX9_takeNumber 122 = .ok (.iconst 2, 1) := by decide +kernel
theorem dX9_takeNumber_123 : decode cX9_takeNumber 123 = .ok (.putfield 30, 3) := by decide +kernel
theorem dX9_takeNumber_126 : decode cX9_takeNumber 126 = .ok (.return_, 1) := by decide +kernel
theorem dX9_byteAt_0 : decode cX9_byteAt 0 = .ok (.iload_n 1, 1) := by decide +kernel
theorem dX9_byteAt_1 : decode cX9_byteAt 1 = .ok (.ifCond .lt 27, 3) := by decide +kernel
theorem dX9_byteAt_4 : decode cX9_byteAt 4 = .ok (.iload_n 1, 1) := by decide +kernel
theorem dX9_byteAt_5 : decode cX9_byteAt 5 = .ok (.aload_n 0, 1) := by decide +kernel
theorem dX9_byteAt_6 : decode cX9_byteAt 6 = .ok (.getfield 15, 3) := by decide +kernel
theorem dX9_byteAt_9 : decode cX9_byteAt 9 = .ok (.if_icmp .ge 19, 3) := by decide +kernel
theorem dX9_byteAt_12 : decode cX9_byteAt 12 = .ok (.iload_n 1, 1) := by decide +kernel
theorem dX9_byteAt_13 : decode cX9_byteAt 13 = .ok (.sipush 150, 3) := by decide +kernel
theorem dX9_byteAt_16 : decode cX9_byteAt 16 = .ok (.if_icmp .ge 12, 3) := by decide +kernel
theorem dX9_byteAt_19 : decode cX9_byteAt 19 = .ok (.aload_n 0, 1) := by decide +kernel
theorem dX9_byteAt_20 : decode cX9_byteAt 20 = .ok (.getfield 9, 3) := by decide +kernel
theorem dX9_byteAt_23 : decode cX9_byteAt 23 = .ok (.iload_n 1, 1) := by decide +kernel
theorem dX9_byteAt_24 : decode cX9_byteAt 24 = .ok (.iaload, 1) := by decide +kernel
theorem dX9_byteAt_25 : decode cX9_byteAt 25 = .ok (.goto 4, 3) := by decide +kernel
theorem dX9_byteAt_28 : decode cX9_byteAt 28 = .ok (.iconst (-1), 1) := by decide +kernel
theorem dX9_byteAt_29 : decode cX9_byteAt 29 = .ok (.ireturn, 1) := by decide +kernel
theorem dX9_isLetter_0 : decode cX9_isLetter 0 = .ok (.iload_n 0, 1) := by decide +kernel
theorem dX9_isLetter_1 : decode cX9_isLetter 1 = .ok (.bipush 97, 2) := by decide +kernel
theorem dX9_isLetter_3 : decode cX9_isLetter 3 = .ok (.if_icmp .lt 13, 3) := by decide +kernel
theorem dX9_isLetter_6 : decode cX9_isLetter 6 = .ok (.iload_n 0, 1) := by decide +kernel
theorem dX9_isLetter_7 : decode cX9_isLetter 7 = .ok (.bipush 122, 2) := by decide +kernel
theorem dX9_isLetter_9 : decode cX9_isLetter 9 = .ok (.if_icmp .gt 7, 3) := by decide +kernel
theorem dX9_isLetter_12 : decode cX9_isLetter 12 = .ok (.iconst 1, 1) := by decide +kernel
theorem dX9_isLetter_13 : decode cX9_isLetter 13 = .ok (.goto 4, 3) := by decide +kernel
theorem dX9_isLetter_16 : decode cX9_isLetter 16 = .ok (.iconst 0, 1) := by decide +kernel
theorem dX9_isLetter_17 : decode cX9_isLetter 17 = .ok (.ireturn, 1) := by decide +kernel
theorem dX9_isDigit_0 : decode cX9_isDigit 0 = .ok (.iload_n 0, 1) := by decide +kernel
theorem dX9_isDigit_1 : decode cX9_isDigit 1 = .ok (.bipush 48, 2) := by decide +kernel
theorem dX9_isDigit_3 : decode cX9_isDigit 3 = .ok (.if_icmp .lt 13, 3) := by decide +kernel
theorem dX9_isDigit_6 : decode cX9_isDigit 6 = .ok (.iload_n 0, 1) := by decide +kernel
theorem dX9_isDigit_7 : decode cX9_isDigit 7 = .ok (.bipush 57, 2) := by decide +kernel
theorem dX9_isDigit_9 : decode cX9_isDigit 9 = .ok (.if_icmp .gt 7, 3) := by decide +kernel
theorem dX9_isDigit_12 : decode cX9_isDigit 12 = .ok (.iconst 1, 1) := by decide +kernel
theorem dX9_isDigit_13 : decode cX9_isDigit 13 = .ok (.goto 4, 3) := by decide +kernel
theorem dX9_isDigit_16 : decode cX9_isDigit 16 = .ok (.iconst 0, 1) := by decide +kernel
theorem dX9_isDigit_17 : decode cX9_isDigit 17 = .ok (.ireturn, 1) := by decide +kernel
theorem dX10_init_0 : decode cX10_init 0 = .ok (.aload_n 0, 1) := by decide +kernel
theorem dX10_init_1 : decode cX10_init 1 = .ok (.invokespecial 1, 3) := by decide +kernel
theorem dX10_init_4 : decode cX10_init 4 = .ok (.return_, 1) := by decide +kernel
theorem dX10_marked_0 : decode cX10_marked 0 = .ok (.aload_n 0, 1) := by decide +kernel
theorem dX10_marked_1 : decode cX10_marked 1 = .ok (.dup, 1) := by decide +kernel
theorem dX10_marked_2 : decode cX10_marked 2 = .ok (.getfield 7, 3) := by decide +kernel
theorem dX10_marked_5 : decode cX10_marked 5 = .ok (.ldc2_w 13, 3) := by decide +kernel
theorem dX10_marked_8 : decode cX10_marked 8 = .ok (.ladd, 1) := by decide +kernel
theorem dX10_marked_9 : decode cX10_marked 9 = .ok (.putfield 7, 3) := by decide +kernel
theorem dX10_marked_12 : decode cX10_marked 12 = .ok (.aload_n 0, 1) := by decide +kernel
theorem dX10_marked_13 : decode cX10_marked 13 = .ok (.aload_n 1, 1) := by decide +kernel
theorem dX10_marked_14 : decode cX10_marked 14 = .ok (.aload_n 2, 1) := by decide +kernel
theorem dX10_marked_15 : decode cX10_marked 15 = .ok (.iload_n 3, 1) := by decide +kernel
theorem dX10_marked_16 : decode cX10_marked 16 = .ok (.invokespecial 15, 3) := by decide +kernel
theorem dX10_marked_19 : decode cX10_marked 19 = .ok (.iconst 2, 1) := by decide +kernel
theorem dX10_marked_20 : decode cX10_marked 20 = .ok (.imul, 1) := by decide +kernel
theorem dX10_marked_21 : decode cX10_marked 21 = .ok (.ireturn, 1) := by decide +kernel

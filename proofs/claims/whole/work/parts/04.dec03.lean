theorem dX5_init_0 : decode cX5_init 0 = .ok (.aload_n 0, 1) := by decide +kernel
theorem dX5_init_1 : decode cX5_init 1 = .ok (.invokespecial 3, 3) := by decide +kernel
theorem dX5_init_4 : decode cX5_init 4 = .ok (.aload_n 0, 1) := by decide +kernel
theorem dX5_init_5 : decode cX5_init 5 = .ok (.sipush 1957, 3) := by decide +kernel
theorem dX5_init_8 : decode cX5_init 8 = .ok (.newarray .int, 2) := by decide +kernel
theorem dX5_init_10 : decode cX5_init 10 = .ok (.putfield 11, 3) := by decide +kernel
theorem dX5_init_13 : decode cX5_init 13 = .ok (.aload_n 0, 1) := by decide +kernel
theorem dX5_init_14 : decode cX5_init 14 = .ok (.sipush 1957, 3) := by decide +kernel
theorem dX5_init_17 : decode cX5_init 17 = .ok (.newarray .byte, 2) := by decide +kernel
theorem dX5_init_19 : decode cX5_init 19 = .ok (.putfield 15, 3) := by decide +kernel
theorem dX5_init_22 : decode cX5_init 22 = .ok (.aload_n 0, 1) := by decide +kernel
theorem dX5_init_23 : decode cX5_init 23 = .ok (.sipush 5871, 3) := by decide +kernel
theorem dX5_init_26 : decode cX5_init 26 = .ok (.newarray .long, 2) := by decide +kernel
theorem dX5_init_28 : decode cX5_init 28 = .ok (.putfield 19, 3) := by decide +kernel
theorem dX5_init_31 : decode cX5_init 31 = .ok (.aload_n 0, 1) := by decide +kernel
theorem dX5_init_32 : decode cX5_init 32 = .ok (.sipush 1957, 3) := by decide +kernel
theorem dX5_init_35 : decode cX5_init 35 = .ok (.newarray .boolean, 2) := by decide +kernel
theorem dX5_init_37 : decode cX5_init 37 = .ok (.putfield 23, 3) := by decide +kernel
theorem dX5_init_40 : decode cX5_init 40 = .ok (.aload_n 0, 1) := by decide +kernel
theorem dX5_init_41 : decode cX5_init 41 = .ok (.new 27, 3) := by decide +kernel
theorem dX5_init_44 : decode cX5_init 44 = .ok (.dup, 1) := by decide +kernel
theorem dX5_init_45 : decode cX5_init 45 = .ok (.invokespecial 29, 3) := by decide +kernel
theorem dX5_init_48 : decode cX5_init 48 = .ok (.putfield 30, 3) := by decide +kernel
theorem dX5_init_51 : decode cX5_init 51 = .ok (.aload_n 0, 1) := by decide +kernel
theorem dX5_init_52 : decode cX5_init 52 = .ok (.iconst 3, 1) := by decide +kernel
theorem dX5_init_53 : decode cX5_init 53 = .ok (.newarray .long, 2) := by decide +kernel
theorem dX5_init_55 : decode cX5_init 55 = .ok (.putfield 34, 3) := by decide +kernel
theorem dX5_init_58 : decode cX5_init 58 = .ok (.aload_n 0, 1) := by decide +kernel
theorem dX5_init_59 : decode cX5_init 59 = .ok (.bipush 6, 2) := by decide +kernel
theorem dX5_init_61 : decode cX5_init 61 = .ok (.newarray .int, 2) := by decide +kernel
theorem dX5_init_63 : decode cX5_init 63 = .ok (.putfield 37, 3) := by decide +kernel
theorem dX5_init_66 : decode cX5_init 66 = .ok (.aload_n 0, 1) := by decide +kernel
theorem dX5_init_67 : decode cX5_init 67 = .ok (.new 40, 3) := by decide +kernel
theorem dX5_init_70 : decode cX5_init 70 = .ok (.dup, 1) := by decide +kernel
theorem dX5_init_71 : decode cX5_init 71 = .ok (.invokespecial 42, 3) := by decide +kernel
theorem dX5_init_74 : decode cX5_init 74 = .ok (.putfield 43, 3) := by decide +kernel
theorem dX5_init_77 : decode cX5_init 77 = .ok (.return_, 1) := by decide +kernel
theorem dX5_spread_0 : decode cX5_spread 0 = .ok (.aload_n 0, 1) := by decide +kernel
theorem dX5_spread_1 : decode cX5_spread 1 = .ok (.iconst 0, 1) := by decide +kernel
theorem dX5_spread_2 : decode cX5_spread 2 = .ok (.putfield 47, 3) := by decide +kernel
theorem dX5_spread_5 : decode cX5_spread 5 = .ok (.iload_n 1, 1) := by decide +kernel
theorem dX5_spread_6 : decode cX5_spread 6 = .ok (.ifCond .ge 5, 3) := by decide +kernel
theorem dX5_spread_9 : decode cX5_spread 9 = .ok (.iconst 0, 1) := by decide +kernel
theorem dX5_spread_10 : decode cX5_spread 10 = .ok (.ireturn, 1) := by decide +kernel
theorem dX5_spread_11 : decode cX5_spread 11 = .ok (.iconst 0, 1) := by decide +kernel
theorem dX5_spread_12 : decode cX5_spread 12 = .ok (.istore_n 3, 1) := by decide +kernel
theorem dX5_spread_13 : decode cX5_spread 13 = .ok (.iload_n 1, 1) := by decide +kernel
theorem dX5_spread_14 : decode cX5_spread 14 = .ok (.istore 4, 2) := by decide +kernel
theorem dX5_spread_16 : decode cX5_spread 16 = .ok (.iconst 0, 1) := by decide +kernel
theorem dX5_spread_17 : decode cX5_spread 17 = .ok (.istore 5, 2) := by decide +kernel
theorem dX5_spread_19 : decode cX5_spread 19 = .ok (.iload 5, 2) := by decide +kernel
theorem dX5_spread_21 : decode cX5_spread 21 = .ok (.bipush 6, 2) := by decide +kernel
theorem dX5_spread_23 : decode cX5_spread 23 = .ok (.if_icmp .ge 70, 3) := by decide +kernel
theorem dX5_spread_26 : decode cX5_spread 26 = .ok (.iload 4, 2) := by decide +kernel
theorem dX5_spread_28 : decode cX5_spread 28 = .ok (.ifCond .le 65, 3) := by decide +kernel
theorem dX5_spread_31 : decode cX5_spread 31 = .ok (.iload 4, 2) := by decide +kernel
theorem dX5_spread_33 : decode cX5_spread 33 = .ok (.bipush 10, 2) := by decide +kernel
theorem dX5_spread_35 : decode cX5_spread 35 = .ok (.irem, 1) := by decide +kernel
theorem dX5_spread_36 : decode cX5_spread 36 = .ok (.iconst 1, 1) := by decide +kernel
theorem dX5_spread_37 : decode cX5_spread 37 = .ok (.isub, 1) := by decide +kernel
theorem dX5_spread_38 : decode cX5_spread 38 = .ok (.istore 6, 2) := by decide +kernel
theorem dX5_spread_40 : decode cX5_spread 40 = .ok (.iload 6, 2) := by decide +kernel
theorem dX5_spread_42 : decode cX5_spread 42 = .ok (.ifCond .lt 19, 3) := by decide +kernel
theorem dX5_spread_45 : decode cX5_spread 45 = .ok (.iload 6, 2) := by decide +kernel
theorem dX5_spread_47 : decode cX5_spread 47 = .ok (.iload_n 2, 1) := by decide +kernel
theorem dX5_spread_48 : decode cX5_spread 48 = .ok (.if_icmp .ge 13, 3) := by decide +kernel
theorem dX5_spread_51 : decode cX5_spread 51 = .ok (.iload_n 3, 1) := by decide +kernel
theorem dX5_spread_52 : decode cX5_spread 52 = .ok (.iload 6, 2) := by decide +kernel
theorem dX5_spread_54 : decode cX5_spread 54 = .ok (.ishr, 1) := by decide +kernel
theorem dX5_spread_55 : decode cX5_spread 55 = .ok (.iconst 1, 1) := by decide +kernel
theorem dX5_spread_56 : decode cX5_spread 56 = .ok (.iand, 1) := by decide +kernel
theorem dX5_spread_57 : decode cX5_spread 57 = .ok (.iconst 1, 1) := by decide +kernel
theorem dX5_spread_58 : decode cX5_spread 58 = .ok (.if_icmp .ne 5, 3) := by decide +kernel
theorem dX5_spread_61 : decode cX5_spread 61 = .ok (.iconst 0, 1) := by decide +kernel
theorem dX5_spread_62 : decode cX5_spread 62 = .ok (.ireturn, 1) := by decide +kernel
theorem dX5_spread_63 : decode cX5_spread 63 = .ok (.iload_n 3, 1) := by decide +kernel
theorem dX5_spread_64 : decode cX5_spread 64 = .ok (.iconst 1, 1) := by decide +kernel
theorem dX5_spread_65 : decode cX5_spread 65 = .ok (.iload 6, 2) := by decide +kernel
theorem dX5_spread_67 : decode cX5_spread 67 = .ok (.ishl, 1) := by decide +kernel
theorem dX5_spread_68 : decode cX5_spread 68 = .ok (.ior, 1) := by decide +kernel
theorem dX5_spread_69 : decode cX5_spread 69 = .ok (.istore_n 3, 1) := by decide +kernel
theorem dX5_spread_70 : decode cX5_spread 70 = .ok (.iload 4, 2) := by decide +kernel
theorem dX5_spread_72 : decode cX5_spread 72 = .ok (.bipush 10, 2) := by decide +kernel
theorem dX5_spread_74 : decode cX5_spread 74 = .ok (.idiv, 1) := by decide +kernel
theorem dX5_spread_75 : decode cX5_spread 75 = .ok (.istore 4, 2) := by decide +kernel
theorem dX5_spread_77 : decode cX5_spread 77 = .ok (.aload_n 0, 1) := by decide +kernel
theorem dX5_spread_78 : decode cX5_spread 78 = .ok (.dup, 1) := by decide +kernel
theorem dX5_spread_79 : decode cX5_spread 79 = .ok (.getfield 47, 3) := by decide +kernel
theorem dX5_spread_82 : decode cX5_spread 82 = .ok (.iconst 1, 1) := by decide +kernel
theorem dX5_spread_83 : decode cX5_spread 83 = .ok (.iadd, 1) := by decide +kernel
theorem dX5_spread_84 : decode cX5_spread 84 = .ok (.putfield 47, 3) := by decide +kernel
theorem dX5_spread_87 : decode cX5_spread 87 = .ok (.iinc 5 1, 3) := by decide +kernel
theorem dX5_spread_90 : decode cX5_spread 90 = .ok (.goto (-71), 3) := by decide +kernel
theorem dX5_spread_93 : decode cX5_spread 93 = .ok (.iload 4, 2) := by decide +kernel
theorem dX5_spread_95 : decode cX5_spread 95 = .ok (.ifCond .le 5, 3) := by decide +kernel
theorem dX5_spread_98 : decode cX5_spread 98 = .ok (.iconst 0, 1) := by decide +kernel
theorem dX5_spread_99 : decode cX5_spread 99 = .ok (.ireturn, 1) := by decide +kernel
theorem dX5_spread_100 : decode cX5_spread 100 = .ok (.iload_n 1, 1) := by decide +kernel
theorem dX5_spread_101 : decode cX5_spread 101 = .ok (.istore 4, 2) := by decide +kernel
theorem dX5_spread_103 : decode cX5_spread 103 = .ok (.aload_n 0, 1) := by decide +kernel
theorem dX5_spread_104 : decode cX5_spread 104 = .ok (.getfield 47, 3) := by decide +kernel
theorem dX5_spread_107 : decode cX5_spread 107 = .ok (.bipush 6, 2) := by decide +kernel
theorem dX5_spread_109 : decode cX5_spread 109 = .ok (.invokestatic 51, 3) := by decide +kernel
theorem dX5_spread_112 : decode cX5_spread 112 = .ok (.iconst 1, 1) := by decide +kernel
theorem dX5_spread_113 : decode cX5_spread 113 = .ok (.isub, 1) := by decide +kernel
theorem dX5_spread_114 : decode cX5_spread 114 = .ok (.istore 5, 2) := by decide +kernel
theorem dX5_spread_116 : decode cX5_spread 116 = .ok (.iload 5, 2) := by decide +kernel
theorem dX5_spread_118 : decode cX5_spread 118 = .ok (.ifCond .lt 30, 3) := by decide +kernel
theorem dX5_spread_121 : decode cX5_spread 121 = .ok (.aload_n 0, 1) := by decide +kernel
theorem dX5_spread_122 : decode cX5_spread 122 = .ok (.getfield 37, 3) := by decide +kernel
theorem dX5_spread_125 : decode cX5_spread 125 = .ok (.iload 5, 2) := by decide +kernel
theorem dX5_spread_127 : decode cX5_spread 127 = .ok (.iload 4, 2) := by decide +kernel
theorem dX5_spread_129 : decode cX5_spread 129 = .ok (.bipush 10, 2) := by decide +kernel
theorem dX5_spread_131 : decode cX5_spread 131 = .ok (.irem, 1) := by decide +kernel
theorem dX5_spread_132 : decode cX5_spread 132 = .ok (.iconst 1, 1) := by decide +kernel
theorem dX5_spread_133 : decode cX5_spread 133 = .ok (.isub, 1) := by decide +kernel
theorem dX5_spread_134 : decode cX5_spread 134 = .ok (.iastore, 1) := by decide +kernel
theorem dX5_spread_135 : decode cX5_spread 135 = .ok (.iload 4, 2) := by decide +kernel
theorem dX5_spread_137 : decode cX5_spread 137 = .ok (.bipush 10, 2) := by decide +kernel
theorem dX5_spread_139 : decode cX5_spread 139 = .ok (.idiv, 1) := by decide +kernel
theorem dX5_spread_140 : decode cX5_spread 140 = .ok (.istore 4, 2) := by decide +kernel
theorem dX5_spread_142 : decode cX5_spread 142 = .ok (.iinc 5 (-1), 3) := by decide +kernel
theorem dX5_spread_145 : decode cX5_spread 145 = .ok (.goto (-29), 3) := by decide +kernel
theorem dX5_spread_148 : decode cX5_spread 148 = .ok (.iconst 1, 1) := by decide +kernel
theorem dX5_spread_149 : decode cX5_spread 149 = .ok (.ireturn, 1) := by decide +kernel
theorem dX5_walk_0 : decode cX5_walk 0 = .ok (.aload_n 0, 1) := by decide +kernel
theorem dX5_walk_1 : decode cX5_walk 1 = .ok (.getfield 34, 3) := by decide +kernel
theorem dX5_walk_4 : decode cX5_walk 4 = .ok (.lconst 0, 1) := by decide +kernel
theorem dX5_walk_5 : decode cX5_walk 5 = .ok (.invokestatic 57, 3) := by decide +kernel
theorem dX5_walk_8 : decode cX5_walk 8 = .ok (.aload_n 0, 1) := by decide +kernel
theorem dX5_walk_9 : decode cX5_walk 9 = .ok (.getfield 30, 3) := by decide +kernel
theorem dX5_walk_12 : decode cX5_walk 12 = .ok (.aload_n 1, 1) := by decide +kernel
theorem dX5_walk_13 : decode cX5_walk 13 = .ok (.invokevirtual 63, 3) := by decide +kernel
theorem dX5_walk_16 : decode cX5_walk 16 = .ok (.aload_n 0, 1) := by decide +kernel
theorem dX5_walk_17 : decode cX5_walk 17 = .ok (.iconst 0, 1) := by decide +kernel
theorem dX5_walk_18 : decode cX5_walk 18 = .ok (.putfield 67, 3) := by decide +kernel
theorem dX5_walk_21 : decode cX5_walk 21 = .ok (.iconst 0, 1) := by decide +kernel
theorem dX5_walk_22 : decode cX5_walk 22 = .ok (.istore_n 2, 1) := by decide +kernel
theorem dX5_walk_23 : decode cX5_walk 23 = .ok (.iload_n 2, 1) := by decide +kernel
theorem dX5_walk_24 : decode cX5_walk 24 = .ok (.bipush 30, 2) := by decide +kernel
theorem dX5_walk_26 : decode cX5_walk 26 = .ok (.if_icmp .ge 64, 3) := by decide +kernel
theorem dX5_walk_29 : decode cX5_walk 29 = .ok (.aload_n 0, 1) := by decide +kernel
theorem dX5_walk_30 : decode cX5_walk 30 = .ok (.aload_n 1, 1) := by decide +kernel
theorem dX5_walk_31 : decode cX5_walk 31 = .ok (.invokevirtual 70, 3) := by decide +kernel
theorem dX5_walk_34 : decode cX5_walk 34 = .ok (.aload_n 0, 1) := by decide +kernel
theorem dX5_walk_35 : decode cX5_walk 35 = .ok (.getfield 30, 3) := by decide +kernel
theorem dX5_walk_38 : decode cX5_walk 38 = .ok (.getfield 73, 3) := by decide +kernel
theorem dX5_walk_41 : decode cX5_walk 41 = .ok (.i2l, 1) := by decide +kernel
theorem dX5_walk_42 : decode cX5_walk 42 = .ok (.lstore_n 3, 1) := by decide +kernel
theorem dX5_walk_43 : decode cX5_walk 43 = .ok (.aload_n 0, 1) := by decide +kernel
theorem dX5_walk_44 : decode cX5_walk 44 = .ok (.getfield 30, 3) := by decide +kernel
theorem dX5_walk_47 : decode cX5_walk 47 = .ok (.aload_n 1, 1) := by decide +kernel
theorem dX5_walk_48 : decode cX5_walk 48 = .ok (.invokevirtual 76, 3) := by decide +kernel
theorem dX5_walk_51 : decode cX5_walk 51 = .ok (.ifCond .ne 5, 3) := by decide +kernel
theorem dX5_walk_54 : decode cX5_walk 54 = .ok (.iload_n 2, 1) := by decide +kernel
theorem dX5_walk_55 : decode cX5_walk 55 = .ok (.ireturn, 1) := by decide +kernel
theorem dX5_walk_56 : decode cX5_walk 56 = .ok (.iload_n 2, 1) := by decide +kernel
theorem dX5_walk_57 : decode cX5_walk 57 = .ok (.bipush 10, 2) := by decide +kernel
theorem dX5_walk_59 : decode cX5_walk 59 = .ok (.idiv, 1) := by decide +kernel
theorem dX5_walk_60 : decode cX5_walk 60 = .ok (.istore 5, 2) := by decide +kernel
theorem dX5_walk_62 : decode cX5_walk 62 = .ok (.iload 5, 2) := by decide +kernel
theorem dX5_walk_64 : decode cX5_walk 64 = .ok (.iconst 3, 1) := by decide +kernel
theorem dX5_walk_65 : decode cX5_walk 65 = .ok (.if_icmp .ge 19, 3) := by decide +kernel
theorem dX5_walk_68 : decode cX5_walk 68 = .ok (.aload_n 0, 1) := by decide +kernel
theorem dX5_walk_69 : decode cX5_walk 69 = .ok (.getfield 34, 3) := by decide +kernel
theorem dX5_walk_72 : decode cX5_walk 72 = .ok (.iload 5, 2) := by decide +kernel
theorem dX5_walk_74 : decode cX5_walk 74 = .ok (.dup2, 1) := by decide +kernel
theorem dX5_walk_75 : decode cX5_walk 75 = .ok (.laload, 1) := by decide +kernel
theorem dX5_walk_76 : decode cX5_walk 76 = .ok (.lload_n 3, 1) := by decide +kernel
theorem dX5_walk_77 : decode cX5_walk 77 = .ok (.iload_n 2, 1) := by decide +kernel
theorem dX5_walk_78 : decode cX5_walk 78 = .ok (.invokestatic 80, 3) := by decide +kernel
theorem dX5_walk_81 : decode cX5_walk 81 = .ok (.lshl, 1) := by decide +kernel
theorem dX5_walk_82 : decode cX5_walk 82 = .ok (.lor, 1) := by decide +kernel
theorem dX5_walk_83 : decode cX5_walk 83 = .ok (.lastore, 1) := by decide +kernel
theorem dX5_walk_84 : decode cX5_walk 84 = .ok (.iinc 2 1, 3) := by decide +kernel
theorem dX5_walk_87 : decode cX5_walk 87 = .ok (.goto (-64), 3) := by decide +kernel
theorem dX5_walk_90 : decode cX5_walk 90 = .ok (.bipush 30, 2) := by decide +kernel
theorem dX5_walk_92 : decode cX5_walk 92 = .ok (.ireturn, 1) := by decide +kernel
theorem dX5_walkNight_0 : decode cX5_walkNight 0 = .ok (.iconst 0, 1) := by decide +kernel
theorem dX5_walkNight_1 : decode cX5_walkNight 1 = .ok (.istore_n 2, 1) := by decide +kernel
theorem dX5_walkNight_2 : decode cX5_walkNight 2 = .ok (.iload_n 2, 1) := by decide +kernel
theorem dX5_walkNight_3 : decode cX5_walkNight 3 = .ok (.bipush 10, 2) := by decide +kernel
theorem dX5_walkNight_5 : decode cX5_walkNight 5 = .ok (.if_icmp .ge 111, 3) := by decide +kernel
theorem dX5_walkNight_8 : decode cX5_walkNight 8 = .ok (.aload_n 0, 1) := by decide +kernel
theorem dX5_walkNight_9 : decode cX5_walkNight 9 = .ok (.getfield 30, 3) := by decide +kernel
theorem dX5_walkNight_12 : decode cX5_walkNight 12 = .ok (.getfield 84, 3) := by decide +kernel
theorem dX5_walkNight_15 : decode cX5_walkNight 15 = .ok (.ifCond .le 101, 3) := by decide +kernel
theorem dX5_walkNight_18 : decode cX5_walkNight 18 = .ok (.aload_n 0, 1) := by decide +kernel
theorem dX5_walkNight_19 : decode cX5_walkNight 19 = .ok (.getfield 67, 3) := by decide +kernel
theorem dX5_walkNight_22 : decode cX5_walkNight 22 = .ok (.ifCond .lt 35, 3) := by decide +kernel
theorem dX5_walkNight_25 : decode cX5_walkNight 25 = .ok (.aload_n 0, 1) := by decide +kernel
theorem dX5_walkNight_26 : decode cX5_walkNight 26 = .ok (.getfield 67, 3) := by decide +kernel
theorem dX5_walkNight_29 : decode cX5_walkNight 29 = .ok (.aload_n 0, 1) := by decide +kernel
theorem dX5_walkNight_30 : decode cX5_walkNight 30 = .ok (.getfield 47, 3) := by decide +kernel
theorem dX5_walkNight_33 : decode cX5_walkNight 33 = .ok (.if_icmp .ge 24, 3) := by decide +kernel
theorem dX5_walkNight_36 : decode cX5_walkNight 36 = .ok (.aload_n 0, 1) := by decide +kernel
theorem dX5_walkNight_37 : decode cX5_walkNight 37 = .ok (.getfield 67, 3) := by decide +kernel
theorem dX5_walkNight_40 : decode cX5_walkNight 40 = .ok (.bipush 6, 2) := by decide +kernel
theorem dX5_walkNight_42 : decode cX5_walkNight 42 = .ok (.if_icmp .ge 15, 3) := by decide +kernel
theorem dX5_walkNight_45 : decode cX5_walkNight 45 = .ok (.aload_n 0, 1) := by decide +kernel
theorem dX5_walkNight_46 : decode cX5_walkNight 46 = .ok (.getfield 37, 3) := by decide +kernel
theorem dX5_walkNight_49 : decode cX5_walkNight 49 = .ok (.aload_n 0, 1) := by decide +kernel
theorem dX5_walkNight_50 : decode cX5_walkNight 50 = .ok (.getfield 67, 3) := by decide +kernel
theorem dX5_walkNight_53 : decode cX5_walkNight 53 = .ok (.iaload, 1) := by decide +kernel
theorem dX5_walkNight_54 : decode cX5_walkNight 54 = .ok (.goto 5, 3) := by decide +kernel
theorem dX5_walkNight_57 : decode cX5_walkNight 57 = .ok (.bipush (-9), 2) := by decide +kernel
theorem dX5_walkNight_59 : decode cX5_walkNight 59 = .ok (.istore_n 3, 1) := by decide +kernel
theorem dX5_walkNight_60 : decode cX5_walkNight 60 = .ok (.aload_n 0, 1) := by decide +kernel
theorem dX5_walkNight_61 : decode cX5_walkNight 61 = .ok (.getfield 30, 3) := by decide +kernel
theorem dX5_walkNight_64 : decode cX5_walkNight 64 = .ok (.invokevirtual 87, 3) := by decide +kernel
theorem dX5_walkNight_67 : decode cX5_walkNight 67 = .ok (.ifCond .eq 36, 3) := by decide +kernel
theorem dX5_walkNight_70 : decode cX5_walkNight 70 = .ok (.aload_n 0, 1) := by decide +kernel
theorem dX5_walkNight_71 : decode cX5_walkNight 71 = .ok (.getfield 30, 3) := by decide +kernel
theorem dX5_walkNight_74 : decode cX5_walkNight 74 = .ok (.aload_n 1, 1) := by decide +kernel
theorem dX5_walkNight_75 : decode cX5_walkNight 75 = .ok (.iload_n 3, 1) := by decide +kernel
theorem dX5_walkNight_76 : decode cX5_walkNight 76 = .ok (.invokevirtual 91, 3) := by decide +kernel
theorem dX5_walkNight_79 : decode cX5_walkNight 79 = .ok (.ifCond .eq 24, 3) := by decide +kernel
theorem dX5_walkNight_82 : decode cX5_walkNight 82 = .ok (.aload_n 0, 1) := by decide +kernel
theorem dX5_walkNight_83 : decode cX5_walkNight 83 = .ok (.getfield 30, 3) := by decide +kernel
theorem dX5_walkNight_86 : decode cX5_walkNight 86 = .ok (.iload_n 3, 1) := by decide +kernel
theorem dX5_walkNight_87 : decode cX5_walkNight 87 = .ok (.invokevirtual 95, 3) := by decide +kernel
theorem dX5_walkNight_90 : decode cX5_walkNight 90 = .ok (.aload_n 0, 1) := by decide +kernel
theorem dX5_walkNight_91 : decode cX5_walkNight 91 = .ok (.dup, 1) := by decide +kernel
theorem dX5_walkNight_92 : decode cX5_walkNight 92 = .ok (.getfield 67, 3) := by decide +kernel
theorem dX5_walkNight_95 : decode cX5_walkNight 95 = .ok (.iconst 1, 1) := by decide +kernel
theorem dX5_walkNight_96 : decode cX5_walkNight 96 = .ok (.iadd, 1) := by decide +kernel
theorem dX5_walkNight_97 : decode cX5_walkNight 97 = .ok (.putfield 67, 3) := by decide +kernel
theorem dX5_walkNight_100 : decode cX5_walkNight 100 = .ok (.goto 10, 3) := by decide +kernel
theorem dX5_walkNight_103 : decode cX5_walkNight 103 = .ok (.aload_n 0, 1) := by decide +kernel
theorem dX5_walkNight_104 : decode cX5_walkNight 104 = .ok (.getfield 30, 3) := by decide +kernel
theorem dX5_walkNight_107 : decode cX5_walkNight 107 = .ok (.invokevirtual 99, 3) := by decide +kernel
theorem dX5_walkNight_110 : decode cX5_walkNight 110 = .ok (.iinc 2 1, 3) := by decide +kernel
theorem dX5_walkNight_113 : decode cX5_walkNight 113 = .ok (.goto (-111), 3) := by decide +kernel
theorem dX5_walkNight_116 : decode cX5_walkNight 116 = .ok (.return_, 1) := by decide +kernel
theorem dX5_walkOn_0 : decode cX5_walkOn 0 = .ok (.aload_n 0, 1) := by decide +kernel
theorem dX5_walkOn_1 : decode cX5_walkOn 1 = .ok (.getfield 30, 3) := by decide +kernel
theorem dX5_walkOn_4 : decode cX5_walkOn 4 = .ok (.aload_n 2, 1) := by decide +kernel
theorem dX5_walkOn_5 : decode cX5_walkOn 5 = .ok (.invokevirtual 102, 3) := by decide +kernel
theorem dX5_walkOn_8 : decode cX5_walkOn 8 = .ok (.iconst 0, 1) := by decide +kernel
theorem dX5_walkOn_9 : decode cX5_walkOn 9 = .ok (.istore_n 3, 1) := by decide +kernel
theorem dX5_walkOn_10 : decode cX5_walkOn 10 = .ok (.iload_n 3, 1) := by decide +kernel
theorem dX5_walkOn_11 : decode cX5_walkOn 11 = .ok (.bipush 30, 2) := by decide +kernel
theorem dX5_walkOn_13 : decode cX5_walkOn 13 = .ok (.if_icmp .ge 65, 3) := by decide +kernel
theorem dX5_walkOn_16 : decode cX5_walkOn 16 = .ok (.iconst 0, 1) := by decide +kernel
theorem dX5_walkOn_17 : decode cX5_walkOn 17 = .ok (.istore 4, 2) := by decide +kernel
theorem dX5_walkOn_19 : decode cX5_walkOn 19 = .ok (.iload 4, 2) := by decide +kernel
theorem dX5_walkOn_21 : decode cX5_walkOn 21 = .ok (.bipush 10, 2) := by decide +kernel
theorem dX5_walkOn_23 : decode cX5_walkOn 23 = .ok (.if_icmp .ge 26, 3) := by decide +kernel
theorem dX5_walkOn_26 : decode cX5_walkOn 26 = .ok (.aload_n 0, 1) := by decide +kernel
theorem dX5_walkOn_27 : decode cX5_walkOn 27 = .ok (.getfield 30, 3) := by decide +kernel
theorem dX5_walkOn_30 : decode cX5_walkOn 30 = .ok (.invokevirtual 106, 3) := by decide +kernel
theorem dX5_walkOn_33 : decode cX5_walkOn 33 = .ok (.ifCond .eq 16, 3) := by decide +kernel
theorem dX5_walkOn_36 : decode cX5_walkOn 36 = .ok (.aload_n 0, 1) := by decide +kernel
theorem dX5_walkOn_37 : decode cX5_walkOn 37 = .ok (.getfield 30, 3) := by decide +kernel
theorem dX5_walkOn_40 : decode cX5_walkOn 40 = .ok (.invokevirtual 99, 3) := by decide +kernel
theorem dX5_walkOn_43 : decode cX5_walkOn 43 = .ok (.iinc 4 1, 3) := by decide +kernel
theorem dX5_walkOn_46 : decode cX5_walkOn 46 = .ok (.goto (-27), 3) := by decide +kernel
theorem dX5_walkOn_49 : decode cX5_walkOn 49 = .ok (.aload_n 0, 1) := by decide +kernel
theorem dX5_walkOn_50 : decode cX5_walkOn 50 = .ok (.getfield 30, 3) := by decide +kernel
theorem dX5_walkOn_53 : decode cX5_walkOn 53 = .ok (.invokevirtual 109, 3) := by decide +kernel
theorem dX5_walkOn_56 : decode cX5_walkOn 56 = .ok (.ifCond .eq 14, 3) := by decide +kernel
theorem dX5_walkOn_59 : decode cX5_walkOn 59 = .ok (.aload_n 0, 1) := by decide +kernel
theorem dX5_walkOn_60 : decode cX5_walkOn 60 = .ok (.getfield 30, 3) := by decide +kernel
theorem dX5_walkOn_63 : decode cX5_walkOn 63 = .ok (.aload_n 1, 1) := by decide +kernel
theorem dX5_walkOn_64 : decode cX5_walkOn 64 = .ok (.invokevirtual 76, 3) := by decide +kernel
theorem dX5_walkOn_67 : decode cX5_walkOn 67 = .ok (.ifCond .ne 5, 3) := by decide +kernel
theorem dX5_walkOn_70 : decode cX5_walkOn 70 = .ok (.iload_n 3, 1) := by decide +kernel
theorem dX5_walkOn_71 : decode cX5_walkOn 71 = .ok (.ireturn, 1) := by decide +kernel
theorem dX5_walkOn_72 : decode cX5_walkOn 72 = .ok (.iinc 3 1, 3) := by decide +kernel
theorem dX5_walkOn_75 : decode cX5_walkOn 75 = .ok (.goto (-65), 3) := by decide +kernel
theorem dX5_walkOn_78 : decode cX5_walkOn 78 = .ok (.bipush 30, 2) := by decide +kernel
theorem dX5_walkOn_80 : decode cX5_walkOn 80 = .ok (.ireturn, 1) := by decide +kernel
theorem dX5_drop_0 : decode cX5_drop 0 = .ok (.aload_n 0, 1) := by decide +kernel
theorem dX5_drop_1 : decode cX5_drop 1 = .ok (.iconst 0, 1) := by decide +kernel
theorem dX5_drop_2 : decode cX5_drop 2 = .ok (.putfield 112, 3) := by decide +kernel
theorem dX5_drop_5 : decode cX5_drop 5 = .ok (.aload_n 0, 1) := by decide +kernel
theorem dX5_drop_6 : decode cX5_drop 6 = .ok (.bipush (-9), 2) := by decide +kernel
theorem dX5_drop_8 : decode cX5_drop 8 = .ok (.putfield 116, 3) := by decide +kernel
theorem dX5_drop_11 : decode cX5_drop 11 = .ok (.return_, 1) := by decide +kernel
theorem dX5_know_0 : decode cX5_know 0 = .ok (.aload_n 0, 1) := by decide +kernel
theorem dX5_know_1 : decode cX5_know 1 = .ok (.getfield 112, 3) := by decide +kernel
theorem dX5_know_4 : decode cX5_know 4 = .ok (.ifCond .ne 13, 3) := by decide +kernel
theorem dX5_know_7 : decode cX5_know 7 = .ok (.aload_n 0, 1) := by decide +kernel
theorem dX5_know_8 : decode cX5_know 8 = .ok (.aload_n 1, 1) := by decide +kernel
theorem dX5_know_9 : decode cX5_know 9 = .ok (.invokevirtual 119, 3) := by decide +kernel
theorem dX5_know_12 : decode cX5_know 12 = .ok (.aload_n 0, 1) := by decide +kernel
theorem dX5_know_13 : decode cX5_know 13 = .ok (.iconst 1, 1) := by decide +kernel
theorem dX5_know_14 : decode cX5_know 14 = .ok (.putfield 112, 3) := by decide +kernel
theorem dX5_know_17 : decode cX5_know 17 = .ok (.return_, 1) := by decide +kernel
theorem dX5_walkAll_0 : decode cX5_walkAll 0 = .ok (.aload_n 0, 1) := by decide +kernel
theorem dX5_walkAll_1 : decode cX5_walkAll 1 = .ok (.aload_n 1, 1) := by decide +kernel
theorem dX5_walkAll_2 : decode cX5_walkAll 2 = .ok (.getfield 122, 3) := by decide +kernel
theorem dX5_walkAll_5 : decode cX5_walkAll 5 = .ok (.invokevirtual 125, 3) := by decide +kernel
theorem dX5_walkAll_8 : decode cX5_walkAll 8 = .ok (.iconst 0, 1) := by decide +kernel
theorem dX5_walkAll_9 : decode cX5_walkAll 9 = .ok (.istore_n 2, 1) := by decide +kernel
theorem dX5_walkAll_10 : decode cX5_walkAll 10 = .ok (.iconst 0, 1) := by decide +kernel
theorem dX5_walkAll_11 : decode cX5_walkAll 11 = .ok (.istore_n 3, 1) := by decide +kernel
theorem dX5_walkAll_12 : decode cX5_walkAll 12 = .ok (.iload_n 3, 1) := by decide +kernel
theorem dX5_walkAll_13 : decode cX5_walkAll 13 = .ok (.aload_n 0, 1) := by decide +kernel
theorem dX5_walkAll_14 : decode cX5_walkAll 14 = .ok (.getfield 128, 3) := by decide +kernel
theorem dX5_walkAll_17 : decode cX5_walkAll 17 = .ok (.if_icmp .ge 133, 3) := by decide +kernel
theorem dX5_walkAll_20 : decode cX5_walkAll 20 = .ok (.iload_n 3, 1) := by decide +kernel
theorem dX5_walkAll_21 : decode cX5_walkAll 21 = .ok (.sipush 1957, 3) := by decide +kernel
theorem dX5_walkAll_24 : decode cX5_walkAll 24 = .ok (.if_icmp .ge 126, 3) := by decide +kernel
theorem dX5_walkAll_27 : decode cX5_walkAll 27 = .ok (.iload_n 2, 1) := by decide +kernel
theorem dX5_walkAll_28 : decode cX5_walkAll 28 = .ok (.iload_n 3, 1) := by decide +kernel
theorem dX5_walkAll_29 : decode cX5_walkAll 29 = .ok (.if_icmp .ge 27, 3) := by decide +kernel
theorem dX5_walkAll_32 : decode cX5_walkAll 32 = .ok (.aload_n 0, 1) := by decide +kernel
theorem dX5_walkAll_33 : decode cX5_walkAll 33 = .ok (.getfield 11, 3) := by decide +kernel
theorem dX5_walkAll_36 : decode cX5_walkAll 36 = .ok (.iload_n 2, 1) := by decide +kernel
theorem dX5_walkAll_37 : decode cX5_walkAll 37 = .ok (.iaload, 1) := by decide +kernel
theorem dX5_walkAll_38 : decode cX5_walkAll 38 = .ok (.aload_n 0, 1) := by decide +kernel
theorem dX5_walkAll_39 : decode cX5_walkAll 39 = .ok (.getfield 11, 3) := by decide +kernel
theorem dX5_walkAll_42 : decode cX5_walkAll 42 = .ok (.iload_n 3, 1) := by decide +kernel
theorem dX5_walkAll_43 : decode cX5_walkAll 43 = .ok (.iaload, 1) := by decide +kernel
theorem dX5_walkAll_44 : decode cX5_walkAll 44 = .ok (.bipush 10, 2) := by decide +kernel
theorem dX5_walkAll_46 : decode cX5_walkAll 46 = .ok (.idiv, 1) := by decide +kernel
theorem dX5_walkAll_47 : decode cX5_walkAll 47 = .ok (.if_icmp .eq 9, 3) := by decide +kernel
theorem dX5_walkAll_50 : decode cX5_walkAll 50 = .ok (.iinc 2 1, 3) := by decide +kernel
theorem dX5_walkAll_53 : decode cX5_walkAll 53 = .ok (.goto (-26), 3) := by decide +kernel
theorem dX5_walkAll_56 : decode cX5_walkAll 56 = .ok (.aload_n 0, 1) := by decide +kernel
theorem dX5_walkAll_57 : decode cX5_walkAll 57 = .ok (.getfield 23, 3) := by decide +kernel
theorem dX5_walkAll_60 : decode cX5_walkAll 60 = .ok (.iload_n 2, 1) := by decide +kernel
theorem dX5_walkAll_61 : decode cX5_walkAll 61 = .ok (.baload, 1) := by decide +kernel
theorem dX5_walkAll_62 : decode cX5_walkAll 62 = .ok (.ifCond .eq 17, 3) := by decide +kernel
theorem dX5_walkAll_65 : decode cX5_walkAll 65 = .ok (.iload_n 2, 1) := by decide +kernel
theorem dX5_walkAll_66 : decode cX5_walkAll 66 = .ok (.iload_n 3, 1) := by decide +kernel
theorem dX5_walkAll_67 : decode cX5_walkAll 67 = .ok (.if_icmp .ge 12, 3) := by decide +kernel
theorem dX5_walkAll_70 : decode cX5_walkAll 70 = .ok (.aload_n 0, 1) := by decide +kernel
theorem dX5_walkAll_71 : decode cX5_walkAll 71 = .ok (.iload_n 2, 1) := by decide +kernel
theorem dX5_walkAll_72 : decode cX5_walkAll 72 = .ok (.iload_n 3, 1) := by decide +kernel
theorem dX5_walkAll_73 : decode cX5_walkAll 73 = .ok (.invokevirtual 131, 3) := by decide +kernel
theorem dX5_walkAll_76 : decode cX5_walkAll 76 = .ok (.goto 68, 3) := by decide +kernel
theorem dX5_walkAll_79 : decode cX5_walkAll 79 = .ok (.aload_n 0, 1) := by decide +kernel
theorem dX5_walkAll_80 : decode cX5_walkAll 80 = .ok (.aload_n 0, 1) := by decide +kernel
theorem dX5_walkAll_81 : decode cX5_walkAll 81 = .ok (.getfield 11, 3) := by decide +kernel
theorem dX5_walkAll_84 : decode cX5_walkAll 84 = .ok (.iload_n 3, 1) := by decide +kernel
theorem dX5_walkAll_85 : decode cX5_walkAll 85 = .ok (.iaload, 1) := by decide +kernel
theorem dX5_walkAll_86 : decode cX5_walkAll 86 = .ok (.aload_n 1, 1) := by decide +kernel
theorem dX5_walkAll_87 : decode cX5_walkAll 87 = .ok (.getfield 122, 3) := by decide +kernel
theorem dX5_walkAll_90 : decode cX5_walkAll 90 = .ok (.invokevirtual 135, 3) := by decide +kernel
theorem dX5_walkAll_93 : decode cX5_walkAll 93 = .ok (.pop, 1) := by decide +kernel
theorem dX5_walkAll_94 : decode cX5_walkAll 94 = .ok (.aload_n 0, 1) := by decide +kernel
theorem dX5_walkAll_95 : decode cX5_walkAll 95 = .ok (.getfield 15, 3) := by decide +kernel
theorem dX5_walkAll_98 : decode cX5_walkAll 98 = .ok (.iload_n 3, 1) := by decide +kernel
theorem dX5_walkAll_99 : decode cX5_walkAll 99 = .ok (.aload_n 0, 1) := by decide +kernel
theorem dX5_walkAll_100 : decode cX5_walkAll 100 = .ok (.aload_n 1, 1) := by decide +kernel
theorem dX5_walkAll_101 : decode cX5_walkAll 101 = .ok (.invokevirtual 139, 3) := by decide +kernel
theorem dX5_walkAll_104 : decode cX5_walkAll 104 = .ok (.i2b, 1) := by decide +kernel
theorem dX5_walkAll_105 : decode cX5_walkAll 105 = .ok (.bastore, 1) := by decide +kernel
theorem dX5_walkAll_106 : decode cX5_walkAll 106 = .ok (.aload_n 0, 1) := by decide +kernel
theorem dX5_walkAll_107 : decode cX5_walkAll 107 = .ok (.getfield 34, 3) := by decide +kernel
theorem dX5_walkAll_110 : decode cX5_walkAll 110 = .ok (.iconst 0, 1) := by decide +kernel
theorem dX5_walkAll_111 : decode cX5_walkAll 111 = .ok (.aload_n 0, 1) := by decide +kernel
theorem dX5_walkAll_112 : decode cX5_walkAll 112 = .ok (.getfield 19, 3) := by decide +kernel
theorem dX5_walkAll_115 : decode cX5_walkAll 115 = .ok (.iload_n 3, 1) := by decide +kernel
theorem dX5_walkAll_116 : decode cX5_walkAll 116 = .ok (.iconst 3, 1) := by decide +kernel
theorem dX5_walkAll_117 : decode cX5_walkAll 117 = .ok (.imul, 1) := by decide +kernel
theorem dX5_walkAll_118 : decode cX5_walkAll 118 = .ok (.iconst 3, 1) := by decide +kernel
theorem dX5_walkAll_119 : decode cX5_walkAll 119 = .ok (.invokestatic 143, 3) := by decide +kernel
theorem dX5_walkAll_122 : decode cX5_walkAll 122 = .ok (.aload_n 0, 1) := by decide +kernel
theorem dX5_walkAll_123 : decode cX5_walkAll 123 = .ok (.getfield 23, 3) := by decide +kernel
theorem dX5_walkAll_126 : decode cX5_walkAll 126 = .ok (.iload_n 3, 1) := by decide +kernel
theorem dX5_walkAll_127 : decode cX5_walkAll 127 = .ok (.aload_n 0, 1) := by decide +kernel
theorem dX5_walkAll_128 : decode cX5_walkAll 128 = .ok (.getfield 67, 3) := by decide +kernel
theorem dX5_walkAll_131 : decode cX5_walkAll 131 = .ok (.aload_n 0, 1) := by decide +kernel
theorem dX5_walkAll_132 : decode cX5_walkAll 132 = .ok (.getfield 47, 3) := by decide +kernel
theorem dX5_walkAll_135 : decode cX5_walkAll 135 = .ok (.if_icmp .ge 7, 3) := by decide +kernel
theorem dX5_walkAll_138 : decode cX5_walkAll 138 = .ok (.iconst 1, 1) := by decide +kernel
theorem dX5_walkAll_139 : decode cX5_walkAll 139 = .ok (.goto 4, 3) := by decide +kernel
theorem dX5_walkAll_142 : decode cX5_walkAll 142 = .ok (.iconst 0, 1) := by decide +kernel
theorem dX5_walkAll_143 : decode cX5_walkAll 143 = .ok (.bastore, 1) := by decide +kernel
theorem dX5_walkAll_144 : decode cX5_walkAll 144 = .ok (.iinc 3 1, 3) := by decide +kernel
theorem dX5_walkAll_147 : decode cX5_walkAll 147 = .ok (.goto (-135), 3) := by decide +kernel
theorem dX5_walkAll_150 : decode cX5_walkAll 150 = .ok (.return_, 1) := by decide +kernel
theorem dX5_takeOver_0 : decode cX5_takeOver 0 = .ok (.aload_n 0, 1) := by decide +kernel
theorem dX5_takeOver_1 : decode cX5_takeOver 1 = .ok (.getfield 15, 3) := by decide +kernel
theorem dX5_takeOver_4 : decode cX5_takeOver 4 = .ok (.iload_n 2, 1) := by decide +kernel
theorem dX5_takeOver_5 : decode cX5_takeOver 5 = .ok (.aload_n 0, 1) := by decide +kernel
theorem dX5_takeOver_6 : decode cX5_takeOver 6 = .ok (.getfield 15, 3) := by decide +kernel
theorem dX5_takeOver_9 : decode cX5_takeOver 9 = .ok (.iload_n 1, 1) := by decide +kernel
theorem dX5_takeOver_10 : decode cX5_takeOver 10 = .ok (.baload, 1) := by decide +kernel
theorem dX5_takeOver_11 : decode cX5_takeOver 11 = .ok (.bastore, 1) := by decide +kernel
theorem dX5_takeOver_12 : decode cX5_takeOver 12 = .ok (.aload_n 0, 1) := by decide +kernel
theorem dX5_takeOver_13 : decode cX5_takeOver 13 = .ok (.getfield 19, 3) := by decide +kernel
theorem dX5_takeOver_16 : decode cX5_takeOver 16 = .ok (.iload_n 1, 1) := by decide +kernel
theorem dX5_takeOver_17 : decode cX5_takeOver 17 = .ok (.iconst 3, 1) := by decide +kernel
theorem dX5_takeOver_18 : decode cX5_takeOver 18 = .ok (.imul, 1) := by decide +kernel
theorem dX5_takeOver_19 : decode cX5_takeOver 19 = .ok (.aload_n 0, 1) := by decide +kernel
theorem dX5_takeOver_20 : decode cX5_takeOver 20 = .ok (.getfield 19, 3) := by decide +kernel
theorem dX5_takeOver_23 : decode cX5_takeOver 23 = .ok (.iload_n 2, 1) := by decide +kernel
theorem dX5_takeOver_24 : decode cX5_takeOver 24 = .ok (.iconst 3, 1) := by decide +kernel
theorem dX5_takeOver_25 : decode cX5_takeOver 25 = .ok (.imul, 1) := by decide +kernel
theorem dX5_takeOver_26 : decode cX5_takeOver 26 = .ok (.iconst 3, 1) := by decide +kernel
theorem dX5_takeOver_27 : decode cX5_takeOver 27 = .ok (.invokestatic 143, 3) := by decide +kernel
theorem dX5_takeOver_30 : decode cX5_takeOver 30 = .ok (.aload_n 0, 1) := by decide +kernel
theorem dX5_takeOver_31 : decode cX5_takeOver 31 = .ok (.getfield 23, 3) := by decide +kernel
theorem dX5_takeOver_34 : decode cX5_takeOver 34 = .ok (.iload_n 2, 1) := by decide +kernel
theorem dX5_takeOver_35 : decode cX5_takeOver 35 = .ok (.iconst 1, 1) := by decide +kernel
theorem dX5_takeOver_36 : decode cX5_takeOver 36 = .ok (.bastore, 1) := by decide +kernel
theorem dX5_takeOver_37 : decode cX5_takeOver 37 = .ok (.return_, 1) := by decide +kernel
theorem dX5_list_0 : decode cX5_list 0 = .ok (.aload_n 0, 1) := by decide +kernel
theorem dX5_list_1 : decode cX5_list 1 = .ok (.getfield 11, 3) := by decide +kernel
theorem dX5_list_4 : decode cX5_list 4 = .ok (.iconst 0, 1) := by decide +kernel
theorem dX5_list_5 : decode cX5_list 5 = .ok (.iconst 0, 1) := by decide +kernel
theorem dX5_list_6 : decode cX5_list 6 = .ok (.iastore, 1) := by decide +kernel
theorem dX5_list_7 : decode cX5_list 7 = .ok (.aload_n 0, 1) := by decide +kernel
theorem dX5_list_8 : decode cX5_list 8 = .ok (.iconst 1, 1) := by decide +kernel
theorem dX5_list_9 : decode cX5_list 9 = .ok (.putfield 128, 3) := by decide +kernel
theorem dX5_list_12 : decode cX5_list 12 = .ok (.aload_n 0, 1) := by decide +kernel
theorem dX5_list_13 : decode cX5_list 13 = .ok (.iconst 0, 1) := by decide +kernel
theorem dX5_list_14 : decode cX5_list 14 = .ok (.putfield 149, 3) := by decide +kernel
theorem dX5_list_17 : decode cX5_list 17 = .ok (.iconst 0, 1) := by decide +kernel
theorem dX5_list_18 : decode cX5_list 18 = .ok (.istore_n 2, 1) := by decide +kernel
theorem dX5_list_19 : decode cX5_list 19 = .ok (.iload_n 2, 1) := by decide +kernel
theorem dX5_list_20 : decode cX5_list 20 = .ok (.iload_n 1, 1) := by decide +kernel
theorem dX5_list_21 : decode cX5_list 21 = .ok (.if_icmp .ge 63, 3) := by decide +kernel
theorem dX5_list_24 : decode cX5_list 24 = .ok (.iload_n 2, 1) := by decide +kernel
theorem dX5_list_25 : decode cX5_list 25 = .ok (.bipush 6, 2) := by decide +kernel
theorem dX5_list_27 : decode cX5_list 27 = .ok (.if_icmp .ge 57, 3) := by decide +kernel
theorem dX5_list_30 : decode cX5_list 30 = .ok (.aload_n 0, 1) := by decide +kernel
theorem dX5_list_31 : decode cX5_list 31 = .ok (.getfield 128, 3) := by decide +kernel
theorem dX5_list_34 : decode cX5_list 34 = .ok (.istore_n 3, 1) := by decide +kernel
theorem dX5_list_35 : decode cX5_list 35 = .ok (.aload_n 0, 1) := by decide +kernel
theorem dX5_list_36 : decode cX5_list 36 = .ok (.getfield 149, 3) := by decide +kernel
theorem dX5_list_39 : decode cX5_list 39 = .ok (.istore 4, 2) := by decide +kernel
theorem dX5_list_41 : decode cX5_list 41 = .ok (.iload 4, 2) := by decide +kernel
theorem dX5_list_43 : decode cX5_list 43 = .ok (.iload_n 3, 1) := by decide +kernel
theorem dX5_list_44 : decode cX5_list 44 = .ok (.if_icmp .ge 29, 3) := by decide +kernel
theorem dX5_list_47 : decode cX5_list 47 = .ok (.iload 4, 2) := by decide +kernel
theorem dX5_list_49 : decode cX5_list 49 = .ok (.sipush 1957, 3) := by decide +kernel
theorem dX5_list_52 : decode cX5_list 52 = .ok (.if_icmp .ge 21, 3) := by decide +kernel
theorem dX5_list_55 : decode cX5_list 55 = .ok (.aload_n 0, 1) := by decide +kernel
theorem dX5_list_56 : decode cX5_list 56 = .ok (.aload_n 0, 1) := by decide +kernel
theorem dX5_list_57 : decode cX5_list 57 = .ok (.getfield 11, 3) := by decide +kernel
theorem dX5_list_60 : decode cX5_list 60 = .ok (.iload 4, 2) := by decide +kernel
theorem dX5_list_62 : decode cX5_list 62 = .ok (.iaload, 1) := by decide +kernel
theorem dX5_list_63 : decode cX5_list 63 = .ok (.iload_n 1, 1) := by decide +kernel
theorem dX5_list_64 : decode cX5_list 64 = .ok (.invokevirtual 152, 3) := by decide +kernel
theorem dX5_list_67 : decode cX5_list 67 = .ok (.iinc 4 1, 3) := by decide +kernel
theorem dX5_list_70 : decode cX5_list 70 = .ok (.goto (-29), 3) := by decide +kernel
theorem dX5_list_73 : decode cX5_list 73 = .ok (.aload_n 0, 1) := by decide +kernel
theorem dX5_list_74 : decode cX5_list 74 = .ok (.iload_n 3, 1) := by decide +kernel
theorem dX5_list_75 : decode cX5_list 75 = .ok (.putfield 149, 3) := by decide +kernel
theorem dX5_list_78 : decode cX5_list 78 = .ok (.iinc 2 1, 3) := by decide +kernel
theorem dX5_list_81 : decode cX5_list 81 = .ok (.goto (-62), 3) := by decide +kernel
theorem dX5_list_84 : decode cX5_list 84 = .ok (.return_, 1) := by decide +kernel
theorem dX5_listLonger_0 : decode cX5_listLonger 0 = .ok (.iload_n 1, 1) := by decide +kernel
theorem dX5_listLonger_1 : decode cX5_listLonger 1 = .ok (.invokestatic 155, 3) := by decide +kernel
theorem dX5_listLonger_4 : decode cX5_listLonger 4 = .ok (.istore_n 3, 1) := by decide +kernel
theorem dX5_listLonger_5 : decode cX5_listLonger 5 = .ok (.iconst 0, 1) := by decide +kernel
theorem dX5_listLonger_6 : decode cX5_listLonger 6 = .ok (.istore 4, 2) := by decide +kernel
theorem dX5_listLonger_8 : decode cX5_listLonger 8 = .ok (.iload 4, 2) := by decide +kernel
theorem dX5_listLonger_10 : decode cX5_listLonger 10 = .ok (.iload_n 2, 1) := by decide +kernel
theorem dX5_listLonger_11 : decode cX5_listLonger 11 = .ok (.if_icmp .ge 70, 3) := by decide +kernel
theorem dX5_listLonger_14 : decode cX5_listLonger 14 = .ok (.iload 4, 2) := by decide +kernel
theorem dX5_listLonger_16 : decode cX5_listLonger 16 = .ok (.bipush 6, 2) := by decide +kernel
theorem dX5_listLonger_18 : decode cX5_listLonger 18 = .ok (.if_icmp .ge 63, 3) := by decide +kernel
theorem dX5_listLonger_21 : decode cX5_listLonger 21 = .ok (.iload_n 3, 1) := by decide +kernel
theorem dX5_listLonger_22 : decode cX5_listLonger 22 = .ok (.iload 4, 2) := by decide +kernel
theorem dX5_listLonger_24 : decode cX5_listLonger 24 = .ok (.ishr, 1) := by decide +kernel
theorem dX5_listLonger_25 : decode cX5_listLonger 25 = .ok (.iconst 1, 1) := by decide +kernel
theorem dX5_listLonger_26 : decode cX5_listLonger 26 = .ok (.iand, 1) := by decide +kernel
theorem dX5_listLonger_27 : decode cX5_listLonger 27 = .ok (.ifCond .ne 48, 3) := by decide +kernel
theorem dX5_listLonger_30 : decode cX5_listLonger 30 = .ok (.aload_n 0, 1) := by decide +kernel
theorem dX5_listLonger_31 : decode cX5_listLonger 31 = .ok (.getfield 128, 3) := by decide +kernel
theorem dX5_listLonger_34 : decode cX5_listLonger 34 = .ok (.ifCond .lt 41, 3) := by decide +kernel
theorem dX5_listLonger_37 : decode cX5_listLonger 37 = .ok (.aload_n 0, 1) := by decide +kernel
theorem dX5_listLonger_38 : decode cX5_listLonger 38 = .ok (.getfield 128, 3) := by decide +kernel
theorem dX5_listLonger_41 : decode cX5_listLonger 41 = .ok (.sipush 1957, 3) := by decide +kernel
theorem dX5_listLonger_44 : decode cX5_listLonger 44 = .ok (.if_icmp .ge 31, 3) := by decide +kernel
theorem dX5_listLonger_47 : decode cX5_listLonger 47 = .ok (.aload_n 0, 1) := by decide +kernel
theorem dX5_listLonger_48 : decode cX5_listLonger 48 = .ok (.getfield 11, 3) := by decide +kernel
theorem dX5_listLonger_51 : decode cX5_listLonger 51 = .ok (.aload_n 0, 1) := by decide +kernel
theorem dX5_listLonger_52 : decode cX5_listLonger 52 = .ok (.getfield 128, 3) := by decide +kernel
theorem dX5_listLonger_55 : decode cX5_listLonger 55 = .ok (.iload_n 1, 1) := by decide +kernel
theorem dX5_listLonger_56 : decode cX5_listLonger 56 = .ok (.bipush 10, 2) := by decide +kernel
theorem dX5_listLonger_58 : decode cX5_listLonger 58 = .ok (.imul, 1) := by decide +kernel
theorem dX5_listLonger_59 : decode cX5_listLonger 59 = .ok (.iload 4, 2) := by decide +kernel
theorem dX5_listLonger_61 : decode cX5_listLonger 61 = .ok (.iadd, 1) := by decide +kernel
theorem dX5_listLonger_62 : decode cX5_listLonger 62 = .ok (.iconst 1, 1) := by decide +kernel
theorem dX5_listLonger_63 : decode cX5_listLonger 63 = .ok (.iadd, 1) := by decide +kernel
theorem dX5_listLonger_64 : decode cX5_listLonger 64 = .ok (.iastore, 1) := by decide +kernel
theorem dX5_listLonger_65 : decode cX5_listLonger 65 = .ok (.aload_n 0, 1) := by decide +kernel
theorem dX5_listLonger_66 : decode cX5_listLonger 66 = .ok (.dup, 1) := by decide +kernel
theorem dX5_listLonger_67 : decode cX5_listLonger 67 = .ok (.getfield 128, 3) := by decide +kernel
theorem dX5_listLonger_70 : decode cX5_listLonger 70 = .ok (.iconst 1, 1) := by decide +kernel
theorem dX5_listLonger_71 : decode cX5_listLonger 71 = .ok (.iadd, 1) := by decide +kernel
theorem dX5_listLonger_72 : decode cX5_listLonger 72 = .ok (.putfield 128, 3) := by decide +kernel
theorem dX5_listLonger_75 : decode cX5_listLonger 75 = .ok (.iinc 4 1, 3) := by decide +kernel
theorem dX5_listLonger_78 : decode cX5_listLonger 78 = .ok (.goto (-70), 3) := by decide +kernel
theorem dX5_listLonger_81 : decode cX5_listLonger 81 = .ok (.return_, 1) := by decide +kernel
theorem dX5_bestIfLonger_0 : decode cX5_bestIfLonger 0 = .ok (.aload_n 0, 1) := by decide +kernel
theorem dX5_bestIfLonger_1 : decode cX5_bestIfLonger 1 = .ok (.getfield 116, 3) := by decide +kernel
theorem dX5_bestIfLonger_4 : decode cX5_bestIfLonger 4 = .ok (.bipush (-9), 2) := by decide +kernel
theorem dX5_bestIfLonger_6 : decode cX5_bestIfLonger 6 = .ok (.if_icmp .ne 43, 3) := by decide +kernel
theorem dX5_bestIfLonger_9 : decode cX5_bestIfLonger 9 = .ok (.aload_n 0, 1) := by decide +kernel
theorem dX5_bestIfLonger_10 : decode cX5_bestIfLonger 10 = .ok (.getfield 43, 3) := by decide +kernel
theorem dX5_bestIfLonger_13 : decode cX5_bestIfLonger 13 = .ok (.aload_n 1, 1) := by decide +kernel
theorem dX5_bestIfLonger_14 : decode cX5_bestIfLonger 14 = .ok (.invokevirtual 158, 3) := by decide +kernel
theorem dX5_bestIfLonger_17 : decode cX5_bestIfLonger 17 = .ok (.aload_n 0, 1) := by decide +kernel
theorem dX5_bestIfLonger_18 : decode cX5_bestIfLonger 18 = .ok (.getfield 43, 3) := by decide +kernel
theorem dX5_bestIfLonger_21 : decode cX5_bestIfLonger 21 = .ok (.invokevirtual 160, 3) := by decide +kernel
theorem dX5_bestIfLonger_24 : decode cX5_bestIfLonger 24 = .ok (.aload_n 0, 1) := by decide +kernel
theorem dX5_bestIfLonger_25 : decode cX5_bestIfLonger 25 = .ok (.aload_n 0, 1) := by decide +kernel
theorem dX5_bestIfLonger_26 : decode cX5_bestIfLonger 26 = .ok (.getfield 43, 3) := by decide +kernel
theorem dX5_bestIfLonger_29 : decode cX5_bestIfLonger 29 = .ok (.invokevirtual 119, 3) := by decide +kernel
theorem dX5_bestIfLonger_32 : decode cX5_bestIfLonger 32 = .ok (.aload_n 0, 1) := by decide +kernel
theorem dX5_bestIfLonger_33 : decode cX5_bestIfLonger 33 = .ok (.aload_n 0, 1) := by decide +kernel
theorem dX5_bestIfLonger_34 : decode cX5_bestIfLonger 34 = .ok (.aload_n 0, 1) := by decide +kernel
theorem dX5_bestIfLonger_35 : decode cX5_bestIfLonger 35 = .ok (.invokevirtual 163, 3) := by decide +kernel
theorem dX5_bestIfLonger_38 : decode cX5_bestIfLonger 38 = .ok (.invokevirtual 167, 3) := by decide +kernel
theorem dX5_bestIfLonger_41 : decode cX5_bestIfLonger 41 = .ok (.putfield 116, 3) := by decide +kernel
theorem dX5_bestIfLonger_44 : decode cX5_bestIfLonger 44 = .ok (.aload_n 0, 1) := by decide +kernel
theorem dX5_bestIfLonger_45 : decode cX5_bestIfLonger 45 = .ok (.iconst 0, 1) := by decide +kernel
theorem dX5_bestIfLonger_46 : decode cX5_bestIfLonger 46 = .ok (.putfield 112, 3) := by decide +kernel
theorem dX5_bestIfLonger_49 : decode cX5_bestIfLonger 49 = .ok (.aload_n 0, 1) := by decide +kernel
theorem dX5_bestIfLonger_50 : decode cX5_bestIfLonger 50 = .ok (.getfield 116, 3) := by decide +kernel
theorem dX5_bestIfLonger_53 : decode cX5_bestIfLonger 53 = .ok (.ireturn, 1) := by decide +kernel
theorem dX5_bestPlace_0 : decode cX5_bestPlace 0 = .ok (.iconst 0, 1) := by decide +kernel
theorem dX5_bestPlace_1 : decode cX5_bestPlace 1 = .ok (.istore_n 1, 1) := by decide +kernel
theorem dX5_bestPlace_2 : decode cX5_bestPlace 2 = .ok (.iconst 1, 1) := by decide +kernel
theorem dX5_bestPlace_3 : decode cX5_bestPlace 3 = .ok (.istore_n 2, 1) := by decide +kernel
theorem dX5_bestPlace_4 : decode cX5_bestPlace 4 = .ok (.iload_n 2, 1) := by decide +kernel
theorem dX5_bestPlace_5 : decode cX5_bestPlace 5 = .ok (.aload_n 0, 1) := by decide +kernel
theorem dX5_bestPlace_6 : decode cX5_bestPlace 6 = .ok (.getfield 128, 3) := by decide +kernel
theorem dX5_bestPlace_9 : decode cX5_bestPlace 9 = .ok (.if_icmp .ge 24, 3) := by decide +kernel
theorem dX5_bestPlace_12 : decode cX5_bestPlace 12 = .ok (.aload_n 0, 1) := by decide +kernel
theorem dX5_bestPlace_13 : decode cX5_bestPlace 13 = .ok (.iload_n 2, 1) := by decide +kernel
theorem dX5_bestPlace_14 : decode cX5_bestPlace 14 = .ok (.invokevirtual 167, 3) := by decide +kernel
theorem dX5_bestPlace_17 : decode cX5_bestPlace 17 = .ok (.aload_n 0, 1) := by decide +kernel
theorem dX5_bestPlace_18 : decode cX5_bestPlace 18 = .ok (.iload_n 1, 1) := by decide +kernel
theorem dX5_bestPlace_19 : decode cX5_bestPlace 19 = .ok (.invokevirtual 167, 3) := by decide +kernel
theorem dX5_bestPlace_22 : decode cX5_bestPlace 22 = .ok (.if_icmp .le 5, 3) := by decide +kernel
theorem dX5_bestPlace_25 : decode cX5_bestPlace 25 = .ok (.iload_n 2, 1) := by decide +kernel
theorem dX5_bestPlace_26 : decode cX5_bestPlace 26 = .ok (.istore_n 1, 1) := by decide +kernel
theorem dX5_bestPlace_27 : decode cX5_bestPlace 27 = .ok (.iinc 2 1, 3) := by decide +kernel
theorem dX5_bestPlace_30 : decode cX5_bestPlace 30 = .ok (.goto (-26), 3) := by decide +kernel
theorem dX5_bestPlace_33 : decode cX5_bestPlace 33 = .ok (.iload_n 1, 1) := by decide +kernel
theorem dX5_bestPlace_34 : decode cX5_bestPlace 34 = .ok (.ireturn, 1) := by decide +kernel
theorem dX5_fewestPlace_0 : decode cX5_fewestPlace 0 = .ok (.iconst 0, 1) := by decide +kernel
theorem dX5_fewestPlace_1 : decode cX5_fewestPlace 1 = .ok (.istore_n 2, 1) := by decide +kernel
theorem dX5_fewestPlace_2 : decode cX5_fewestPlace 2 = .ok (.iload_n 2, 1) := by decide +kernel
theorem dX5_fewestPlace_3 : decode cX5_fewestPlace 3 = .ok (.aload_n 0, 1) := by decide +kernel
theorem dX5_fewestPlace_4 : decode cX5_fewestPlace 4 = .ok (.getfield 128, 3) := by decide +kernel
theorem dX5_fewestPlace_7 : decode cX5_fewestPlace 7 = .ok (.if_icmp .ge 20, 3) := by decide +kernel
theorem dX5_fewestPlace_10 : decode cX5_fewestPlace 10 = .ok (.aload_n 0, 1) := by decide +kernel
theorem dX5_fewestPlace_11 : decode cX5_fewestPlace 11 = .ok (.iload_n 2, 1) := by decide +kernel
theorem dX5_fewestPlace_12 : decode cX5_fewestPlace 12 = .ok (.invokevirtual 167, 3) := by decide +kernel
theorem dX5_fewestPlace_15 : decode cX5_fewestPlace 15 = .ok (.iload_n 1, 1) := by decide +kernel
theorem dX5_fewestPlace_16 : decode cX5_fewestPlace 16 = .ok (.if_icmp .lt 5, 3) := by decide +kernel
theorem dX5_fewestPlace_19 : decode cX5_fewestPlace 19 = .ok (.iload_n 2, 1) := by decide +kernel
theorem dX5_fewestPlace_20 : decode cX5_fewestPlace 20 = .ok (.ireturn, 1) := by decide +kernel
theorem dX5_fewestPlace_21 : decode cX5_fewestPlace 21 = .ok (.iinc 2 1, 3) := by decide +kernel
theorem dX5_fewestPlace_24 : decode cX5_fewestPlace 24 = .ok (.goto (-22), 3) := by decide +kernel
theorem dX5_fewestPlace_27 : decode cX5_fewestPlace 27 = .ok (.bipush (-9), 2) := by decide +kernel
theorem dX5_fewestPlace_29 : decode cX5_fewestPlace 29 = .ok (.ireturn, 1) := by decide +kernel
theorem dX5_mindPlace_0 : decode cX5_mindPlace 0 = .ok (.bipush (-9), 2) := by decide +kernel
theorem dX5_mindPlace_2 : decode cX5_mindPlace 2 = .ok (.istore_n 2, 1) := by decide +kernel
theorem dX5_mindPlace_3 : decode cX5_mindPlace 3 = .ok (.bipush 7, 2) := by decide +kernel
theorem dX5_mindPlace_5 : decode cX5_mindPlace 5 = .ok (.istore_n 3, 1) := by decide +kernel
theorem dX5_mindPlace_6 : decode cX5_mindPlace 6 = .ok (.iconst 0, 1) := by decide +kernel
theorem dX5_mindPlace_7 : decode cX5_mindPlace 7 = .ok (.istore 4, 2) := by decide +kernel
theorem dX5_mindPlace_9 : decode cX5_mindPlace 9 = .ok (.iload 4, 2) := by decide +kernel
theorem dX5_mindPlace_11 : decode cX5_mindPlace 11 = .ok (.aload_n 0, 1) := by decide +kernel
theorem dX5_mindPlace_12 : decode cX5_mindPlace 12 = .ok (.getfield 128, 3) := by decide +kernel
theorem dX5_mindPlace_15 : decode cX5_mindPlace 15 = .ok (.if_icmp .ge 41, 3) := by decide +kernel
theorem dX5_mindPlace_18 : decode cX5_mindPlace 18 = .ok (.aload_n 0, 1) := by decide +kernel
theorem dX5_mindPlace_19 : decode cX5_mindPlace 19 = .ok (.iload 4, 2) := by decide +kernel
theorem dX5_mindPlace_21 : decode cX5_mindPlace 21 = .ok (.invokevirtual 167, 3) := by decide +kernel
theorem dX5_mindPlace_24 : decode cX5_mindPlace 24 = .ok (.iload_n 1, 1) := by decide +kernel
theorem dX5_mindPlace_25 : decode cX5_mindPlace 25 = .ok (.if_icmp .lt 25, 3) := by decide +kernel
theorem dX5_mindPlace_28 : decode cX5_mindPlace 28 = .ok (.aload_n 0, 1) := by decide +kernel
theorem dX5_mindPlace_29 : decode cX5_mindPlace 29 = .ok (.iload 4, 2) := by decide +kernel
theorem dX5_mindPlace_31 : decode cX5_mindPlace 31 = .ok (.iload_n 1, 1) := by decide +kernel
theorem dX5_mindPlace_32 : decode cX5_mindPlace 32 = .ok (.invokevirtual 170, 3) := by decide +kernel
theorem dX5_mindPlace_35 : decode cX5_mindPlace 35 = .ok (.iload_n 3, 1) := by decide +kernel
theorem dX5_mindPlace_36 : decode cX5_mindPlace 36 = .ok (.if_icmp .ge 14, 3) := by decide +kernel
theorem dX5_mindPlace_39 : decode cX5_mindPlace 39 = .ok (.iload 4, 2) := by decide +kernel
theorem dX5_mindPlace_41 : decode cX5_mindPlace 41 = .ok (.istore_n 2, 1) := by decide +kernel
theorem dX5_mindPlace_42 : decode cX5_mindPlace 42 = .ok (.aload_n 0, 1) := by decide +kernel
theorem dX5_mindPlace_43 : decode cX5_mindPlace 43 = .ok (.iload 4, 2) := by decide +kernel
theorem dX5_mindPlace_45 : decode cX5_mindPlace 45 = .ok (.iload_n 1, 1) := by decide +kernel
theorem dX5_mindPlace_46 : decode cX5_mindPlace 46 = .ok (.invokevirtual 170, 3) := by decide +kernel
theorem dX5_mindPlace_49 : decode cX5_mindPlace 49 = .ok (.istore_n 3, 1) := by decide +kernel
theorem dX5_mindPlace_50 : decode cX5_mindPlace 50 = .ok (.iinc 4 1, 3) := by decide +kernel
theorem dX5_mindPlace_53 : decode cX5_mindPlace 53 = .ok (.goto (-44), 3) := by decide +kernel
theorem dX5_mindPlace_56 : decode cX5_mindPlace 56 = .ok (.iload_n 2, 1) := by decide +kernel
theorem dX5_mindPlace_57 : decode cX5_mindPlace 57 = .ok (.ireturn, 1) := by decide +kernel
theorem dX5_inAllThatReach_0 : decode cX5_inAllThatReach 0 = .ok (.iconst 0, 1) := by decide +kernel
theorem dX5_inAllThatReach_1 : decode cX5_inAllThatReach 1 = .ok (.istore_n 2, 1) := by decide +kernel
theorem dX5_inAllThatReach_2 : decode cX5_inAllThatReach 2 = .ok (.bipush 63, 2) := by decide +kernel
theorem dX5_inAllThatReach_4 : decode cX5_inAllThatReach 4 = .ok (.istore_n 3, 1) := by decide +kernel
theorem dX5_inAllThatReach_5 : decode cX5_inAllThatReach 5 = .ok (.iconst 0, 1) := by decide +kernel
theorem dX5_inAllThatReach_6 : decode cX5_inAllThatReach 6 = .ok (.istore 4, 2) := by decide +kernel
theorem dX5_inAllThatReach_8 : decode cX5_inAllThatReach 8 = .ok (.iload 4, 2) := by decide +kernel
theorem dX5_inAllThatReach_10 : decode cX5_inAllThatReach 10 = .ok (.aload_n 0, 1) := by decide +kernel
theorem dX5_inAllThatReach_11 : decode cX5_inAllThatReach 11 = .ok (.getfield 128, 3) := by decide +kernel
theorem dX5_inAllThatReach_14 : decode cX5_inAllThatReach 14 = .ok (.if_icmp .ge 33, 3) := by decide +kernel
theorem dX5_inAllThatReach_17 : decode cX5_inAllThatReach 17 = .ok (.aload_n 0, 1) := by decide +kernel
theorem dX5_inAllThatReach_18 : decode cX5_inAllThatReach 18 = .ok (.iload 4, 2) := by decide +kernel
theorem dX5_inAllThatReach_20 : decode cX5_inAllThatReach 20 = .ok (.invokevirtual 167, 3) := by decide +kernel
theorem dX5_inAllThatReach_23 : decode cX5_inAllThatReach 23 = .ok (.iload_n 1, 1) := by decide +kernel
theorem dX5_inAllThatReach_24 : decode cX5_inAllThatReach 24 = .ok (.if_icmp .lt 17, 3) := by decide +kernel
theorem dX5_inAllThatReach_27 : decode cX5_inAllThatReach 27 = .ok (.iconst 1, 1) := by decide +kernel
theorem dX5_inAllThatReach_28 : decode cX5_inAllThatReach 28 = .ok (.istore_n 2, 1) := by decide +kernel
theorem dX5_inAllThatReach_29 : decode cX5_inAllThatReach 29 = .ok (.iload_n 3, 1) := by decide +kernel
theorem dX5_inAllThatReach_30 : decode cX5_inAllThatReach 30 = .ok (.aload_n 0, 1) := by decide +kernel
theorem dX5_inAllThatReach_31 : decode cX5_inAllThatReach 31 = .ok (.iload 4, 2) := by decide +kernel
theorem dX5_inAllThatReach_33 : decode cX5_inAllThatReach 33 = .ok (.invokevirtual 173, 3) := by decide +kernel
theorem dX5_inAllThatReach_36 : decode cX5_inAllThatReach 36 = .ok (.invokestatic 155, 3) := by decide +kernel
theorem dX5_inAllThatReach_39 : decode cX5_inAllThatReach 39 = .ok (.iand, 1) := by decide +kernel
theorem dX5_inAllThatReach_40 : decode cX5_inAllThatReach 40 = .ok (.istore_n 3, 1) := by decide +kernel
theorem dX5_inAllThatReach_41 : decode cX5_inAllThatReach 41 = .ok (.iinc 4 1, 3) := by decide +kernel
theorem dX5_inAllThatReach_44 : decode cX5_inAllThatReach 44 = .ok (.goto (-36), 3) := by decide +kernel
theorem dX5_inAllThatReach_47 : decode cX5_inAllThatReach 47 = .ok (.iload_n 2, 1) := by decide +kernel
theorem dX5_inAllThatReach_48 : decode cX5_inAllThatReach 48 = .ok (.ifCond .eq 7, 3) := by decide +kernel
theorem dX5_inAllThatReach_51 : decode cX5_inAllThatReach 51 = .ok (.iload_n 3, 1) := by decide +kernel
theorem dX5_inAllThatReach_52 : decode cX5_inAllThatReach 52 = .ok (.goto 4, 3) := by decide +kernel
theorem dX5_inAllThatReach_55 : decode cX5_inAllThatReach 55 = .ok (.iconst 0, 1) := by decide +kernel
theorem dX5_inAllThatReach_56 : decode cX5_inAllThatReach 56 = .ok (.ireturn, 1) := by decide +kernel
theorem dX5_mostOpen_0 : decode cX5_mostOpen 0 = .ok (.iconst 0, 1) := by decide +kernel
theorem dX5_mostOpen_1 : decode cX5_mostOpen 1 = .ok (.istore_n 3, 1) := by decide +kernel
theorem dX5_mostOpen_2 : decode cX5_mostOpen 2 = .ok (.iconst 1, 1) := by decide +kernel
theorem dX5_mostOpen_3 : decode cX5_mostOpen 3 = .ok (.istore 4, 2) := by decide +kernel
theorem dX5_mostOpen_5 : decode cX5_mostOpen 5 = .ok (.iload 4, 2) := by decide +kernel
theorem dX5_mostOpen_7 : decode cX5_mostOpen 7 = .ok (.iload_n 2, 1) := by decide +kernel
theorem dX5_mostOpen_8 : decode cX5_mostOpen 8 = .ok (.if_icmp .gt 31, 3) := by decide +kernel
theorem dX5_mostOpen_11 : decode cX5_mostOpen 11 = .ok (.iload 4, 2) := by decide +kernel
theorem dX5_mostOpen_13 : decode cX5_mostOpen 13 = .ok (.bipush 30, 2) := by decide +kernel
theorem dX5_mostOpen_15 : decode cX5_mostOpen 15 = .ok (.if_icmp .gt 24, 3) := by decide +kernel
theorem dX5_mostOpen_18 : decode cX5_mostOpen 18 = .ok (.iload_n 3, 1) := by decide +kernel
theorem dX5_mostOpen_19 : decode cX5_mostOpen 19 = .ok (.aload_n 0, 1) := by decide +kernel
theorem dX5_mostOpen_20 : decode cX5_mostOpen 20 = .ok (.iload_n 1, 1) := by decide +kernel
theorem dX5_mostOpen_21 : decode cX5_mostOpen 21 = .ok (.iload 4, 2) := by decide +kernel
theorem dX5_mostOpen_23 : decode cX5_mostOpen 23 = .ok (.invokevirtual 176, 3) := by decide +kernel
theorem dX5_mostOpen_26 : decode cX5_mostOpen 26 = .ok (.invokestatic 179, 3) := by decide +kernel
theorem dX5_mostOpen_29 : decode cX5_mostOpen 29 = .ok (.invokestatic 184, 3) := by decide +kernel
theorem dX5_mostOpen_32 : decode cX5_mostOpen 32 = .ok (.istore_n 3, 1) := by decide +kernel
theorem dX5_mostOpen_33 : decode cX5_mostOpen 33 = .ok (.iinc 4 1, 3) := by decide +kernel
theorem dX5_mostOpen_36 : decode cX5_mostOpen 36 = .ok (.goto (-31), 3) := by decide +kernel
theorem dX5_mostOpen_39 : decode cX5_mostOpen 39 = .ok (.iload_n 3, 1) := by decide +kernel
theorem dX5_mostOpen_40 : decode cX5_mostOpen 40 = .ok (.ireturn, 1) := by decide +kernel
theorem dX5_rowAt_0 : decode cX5_rowAt 0 = .ok (.iload_n 1, 1) := by decide +kernel
theorem dX5_rowAt_1 : decode cX5_rowAt 1 = .ok (.ifCond .lt 19, 3) := by decide +kernel
theorem dX5_rowAt_4 : decode cX5_rowAt 4 = .ok (.iload_n 1, 1) := by decide +kernel
theorem dX5_rowAt_5 : decode cX5_rowAt 5 = .ok (.sipush 1957, 3) := by decide +kernel
theorem dX5_rowAt_8 : decode cX5_rowAt 8 = .ok (.if_icmp .ge 12, 3) := by decide +kernel
theorem dX5_rowAt_11 : decode cX5_rowAt 11 = .ok (.aload_n 0, 1) := by decide +kernel
theorem dX5_rowAt_12 : decode cX5_rowAt 12 = .ok (.getfield 11, 3) := by decide +kernel
theorem dX5_rowAt_15 : decode cX5_rowAt 15 = .ok (.iload_n 1, 1) := by decide +kernel
theorem dX5_rowAt_16 : decode cX5_rowAt 16 = .ok (.iaload, 1) := by decide +kernel
theorem dX5_rowAt_17 : decode cX5_rowAt 17 = .ok (.goto 4, 3) := by decide +kernel
theorem dX5_rowAt_20 : decode cX5_rowAt 20 = .ok (.iconst 0, 1) := by decide +kernel
theorem dX5_rowAt_21 : decode cX5_rowAt 21 = .ok (.ireturn, 1) := by decide +kernel
theorem dX5_savedBy_0 : decode cX5_savedBy 0 = .ok (.iload_n 1, 1) := by decide +kernel
theorem dX5_savedBy_1 : decode cX5_savedBy 1 = .ok (.ifCond .lt 19, 3) := by decide +kernel
theorem dX5_savedBy_4 : decode cX5_savedBy 4 = .ok (.iload_n 1, 1) := by decide +kernel
theorem dX5_savedBy_5 : decode cX5_savedBy 5 = .ok (.sipush 1957, 3) := by decide +kernel
theorem dX5_savedBy_8 : decode cX5_savedBy 8 = .ok (.if_icmp .ge 12, 3) := by decide +kernel
theorem dX5_savedBy_11 : decode cX5_savedBy 11 = .ok (.aload_n 0, 1) := by decide +kernel
theorem dX5_savedBy_12 : decode cX5_savedBy 12 = .ok (.getfield 15, 3) := by decide +kernel
theorem dX5_savedBy_15 : decode cX5_savedBy 15 = .ok (.iload_n 1, 1) := by decide +kernel
theorem dX5_savedBy_16 : decode cX5_savedBy 16 = .ok (.baload, 1) := by decide +kernel
theorem dX5_savedBy_17 : decode cX5_savedBy 17 = .ok (.goto 4, 3) := by decide +kernel
theorem dX5_savedBy_20 : decode cX5_savedBy 20 = .ok (.iconst 0, 1) := by decide +kernel
theorem dX5_savedBy_21 : decode cX5_savedBy 21 = .ok (.ireturn, 1) := by decide +kernel
theorem dX5_sizeAt_0 : decode cX5_sizeAt 0 = .ok (.aload_n 0, 1) := by decide +kernel
theorem dX5_sizeAt_1 : decode cX5_sizeAt 1 = .ok (.iload_n 1, 1) := by decide +kernel
theorem dX5_sizeAt_2 : decode cX5_sizeAt 2 = .ok (.invokevirtual 173, 3) := by decide +kernel
theorem dX5_sizeAt_5 : decode cX5_sizeAt 5 = .ok (.invokestatic 155, 3) := by decide +kernel
theorem dX5_sizeAt_8 : decode cX5_sizeAt 8 = .ok (.invokestatic 179, 3) := by decide +kernel
theorem dX5_sizeAt_11 : decode cX5_sizeAt 11 = .ok (.ireturn, 1) := by decide +kernel
theorem dX5_openAt_0 : decode cX5_openAt 0 = .ok (.iload_n 1, 1) := by decide +kernel
theorem dX5_openAt_1 : decode cX5_openAt 1 = .ok (.iconst 3, 1) := by decide +kernel
theorem dX5_openAt_2 : decode cX5_openAt 2 = .ok (.imul, 1) := by decide +kernel
theorem dX5_openAt_3 : decode cX5_openAt 3 = .ok (.iload_n 2, 1) := by decide +kernel
theorem dX5_openAt_4 : decode cX5_openAt 4 = .ok (.iconst 1, 1) := by decide +kernel
theorem dX5_openAt_5 : decode cX5_openAt 5 = .ok (.isub, 1) := by decide +kernel
theorem dX5_openAt_6 : decode cX5_openAt 6 = .ok (.bipush 10, 2) := by decide +kernel
theorem dX5_openAt_8 : decode cX5_openAt 8 = .ok (.idiv, 1) := by decide +kernel
theorem dX5_openAt_9 : decode cX5_openAt 9 = .ok (.iadd, 1) := by decide +kernel
theorem dX5_openAt_10 : decode cX5_openAt 10 = .ok (.istore_n 3, 1) := by decide +kernel
theorem dX5_openAt_11 : decode cX5_openAt 11 = .ok (.iload_n 1, 1) := by decide +kernel
theorem dX5_openAt_12 : decode cX5_openAt 12 = .ok (.ifCond .lt 30, 3) := by decide +kernel
theorem dX5_openAt_15 : decode cX5_openAt 15 = .ok (.iload_n 1, 1) := by decide +kernel
theorem dX5_openAt_16 : decode cX5_openAt 16 = .ok (.sipush 1957, 3) := by decide +kernel
theorem dX5_openAt_19 : decode cX5_openAt 19 = .ok (.if_icmp .ge 23, 3) := by decide +kernel
theorem dX5_openAt_22 : decode cX5_openAt 22 = .ok (.iload_n 2, 1) := by decide +kernel
theorem dX5_openAt_23 : decode cX5_openAt 23 = .ok (.iconst 1, 1) := by decide +kernel
theorem dX5_openAt_24 : decode cX5_openAt 24 = .ok (.if_icmp .lt 18, 3) := by decide +kernel
theorem dX5_openAt_27 : decode cX5_openAt 27 = .ok (.iload_n 2, 1) := by decide +kernel
theorem dX5_openAt_28 : decode cX5_openAt 28 = .ok (.bipush 30, 2) := by decide +kernel
theorem dX5_openAt_30 : decode cX5_openAt 30 = .ok (.if_icmp .gt 12, 3) := by decide +kernel
theorem dX5_openAt_33 : decode cX5_openAt 33 = .ok (.iload_n 3, 1) := by decide +kernel
theorem dX5_openAt_34 : decode cX5_openAt 34 = .ok (.aload_n 0, 1) := by decide +kernel
theorem dX5_openAt_35 : decode cX5_openAt 35 = .ok (.getfield 19, 3) := by decide +kernel
theorem dX5_openAt_38 : decode cX5_openAt 38 = .ok (.arraylength, 1) := by decide +kernel
theorem dX5_openAt_39 : decode cX5_openAt 39 = .ok (.if_icmp .lt 5, 3) := by decide +kernel
theorem dX5_openAt_42 : decode cX5_openAt 42 = .ok (.iconst 0, 1) := by decide +kernel
theorem dX5_openAt_43 : decode cX5_openAt 43 = .ok (.ireturn, 1) := by decide +kernel
theorem dX5_openAt_44 : decode cX5_openAt 44 = .ok (.aload_n 0, 1) := by decide +kernel
theorem dX5_openAt_45 : decode cX5_openAt 45 = .ok (.getfield 19, 3) := by decide +kernel
theorem dX5_openAt_48 : decode cX5_openAt 48 = .ok (.iload_n 3, 1) := by decide +kernel
theorem dX5_openAt_49 : decode cX5_openAt 49 = .ok (.laload, 1) := by decide +kernel
theorem dX5_openAt_50 : decode cX5_openAt 50 = .ok (.iload_n 2, 1) := by decide +kernel
theorem dX5_openAt_51 : decode cX5_openAt 51 = .ok (.iconst 1, 1) := by decide +kernel
theorem dX5_openAt_52 : decode cX5_openAt 52 = .ok (.isub, 1) := by decide +kernel
theorem dX5_openAt_53 : decode cX5_openAt 53 = .ok (.invokestatic 80, 3) := by decide +kernel
theorem dX5_openAt_56 : decode cX5_openAt 56 = .ok (.lushr, 1) := by decide +kernel
theorem dX5_openAt_57 : decode cX5_openAt 57 = .ok (.l2i, 1) := by decide +kernel
theorem dX5_openAt_58 : decode cX5_openAt 58 = .ok (.bipush 63, 2) := by decide +kernel
theorem dX5_openAt_60 : decode cX5_openAt 60 = .ok (.iand, 1) := by decide +kernel
theorem dX5_openAt_61 : decode cX5_openAt 61 = .ok (.ireturn, 1) := by decide +kernel
theorem dX5_shiftOf_0 : decode cX5_shiftOf 0 = .ok (.iload_n 0, 1) := by decide +kernel
theorem dX5_shiftOf_1 : decode cX5_shiftOf 1 = .ok (.bipush 10, 2) := by decide +kernel
theorem dX5_shiftOf_3 : decode cX5_shiftOf 3 = .ok (.irem, 1) := by decide +kernel
theorem dX5_shiftOf_4 : decode cX5_shiftOf 4 = .ok (.bipush 6, 2) := by decide +kernel
theorem dX5_shiftOf_6 : decode cX5_shiftOf 6 = .ok (.imul, 1) := by decide +kernel
theorem dX5_shiftOf_7 : decode cX5_shiftOf 7 = .ok (.ireturn, 1) := by decide +kernel
theorem dX5_bitsOf_0 : decode cX5_bitsOf 0 = .ok (.iconst 0, 1) := by decide +kernel
theorem dX5_bitsOf_1 : decode cX5_bitsOf 1 = .ok (.istore_n 1, 1) := by decide +kernel
theorem dX5_bitsOf_2 : decode cX5_bitsOf 2 = .ok (.iload_n 0, 1) := by decide +kernel
theorem dX5_bitsOf_3 : decode cX5_bitsOf 3 = .ok (.istore_n 2, 1) := by decide +kernel
theorem dX5_bitsOf_4 : decode cX5_bitsOf 4 = .ok (.iconst 0, 1) := by decide +kernel
theorem dX5_bitsOf_5 : decode cX5_bitsOf 5 = .ok (.istore_n 3, 1) := by decide +kernel
theorem dX5_bitsOf_6 : decode cX5_bitsOf 6 = .ok (.iload_n 3, 1) := by decide +kernel
theorem dX5_bitsOf_7 : decode cX5_bitsOf 7 = .ok (.bipush 6, 2) := by decide +kernel
theorem dX5_bitsOf_9 : decode cX5_bitsOf 9 = .ok (.if_icmp .ge 30, 3) := by decide +kernel
theorem dX5_bitsOf_12 : decode cX5_bitsOf 12 = .ok (.iload_n 2, 1) := by decide +kernel
theorem dX5_bitsOf_13 : decode cX5_bitsOf 13 = .ok (.ifCond .le 26, 3) := by decide +kernel
theorem dX5_bitsOf_16 : decode cX5_bitsOf 16 = .ok (.iload_n 1, 1) := by decide +kernel
theorem dX5_bitsOf_17 : decode cX5_bitsOf 17 = .ok (.iload_n 2, 1) := by decide +kernel
theorem dX5_bitsOf_18 : decode cX5_bitsOf 18 = .ok (.bipush 10, 2) := by decide +kernel
theorem dX5_bitsOf_20 : decode cX5_bitsOf 20 = .ok (.irem, 1) := by decide +kernel
theorem dX5_bitsOf_21 : decode cX5_bitsOf 21 = .ok (.iconst 1, 1) := by decide +kernel
theorem dX5_bitsOf_22 : decode cX5_bitsOf 22 = .ok (.isub, 1) := by decide +kernel
theorem dX5_bitsOf_23 : decode cX5_bitsOf 23 = .ok (.invokestatic 187, 3) := by decide +kernel
theorem dX5_bitsOf_26 : decode cX5_bitsOf 26 = .ok (.ior, 1) := by decide +kernel
theorem dX5_bitsOf_27 : decode cX5_bitsOf 27 = .ok (.istore_n 1, 1) := by decide +kernel
theorem dX5_bitsOf_28 : decode cX5_bitsOf 28 = .ok (.iload_n 2, 1) := by decide +kernel
theorem dX5_bitsOf_29 : decode cX5_bitsOf 29 = .ok (.bipush 10, 2) := by decide +kernel
theorem dX5_bitsOf_31 : decode cX5_bitsOf 31 = .ok (.idiv, 1) := by decide +kernel
theorem dX5_bitsOf_32 : decode cX5_bitsOf 32 = .ok (.istore_n 2, 1) := by decide +kernel
theorem dX5_bitsOf_33 : decode cX5_bitsOf 33 = .ok (.iinc 3 1, 3) := by decide +kernel
theorem dX5_bitsOf_36 : decode cX5_bitsOf 36 = .ok (.goto (-30), 3) := by decide +kernel
theorem dX5_bitsOf_39 : decode cX5_bitsOf 39 = .ok (.iload_n 1, 1) := by decide +kernel
theorem dX5_bitsOf_40 : decode cX5_bitsOf 40 = .ok (.ireturn, 1) := by decide +kernel

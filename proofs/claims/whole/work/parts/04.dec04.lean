theorem dX11_init_0 : decode cX11_init 0 = .ok (.aload_n 0, 1) := by decide +kernel
theorem dX11_init_1 : decode cX11_init 1 = .ok (.invokespecial 1, 3) := by decide +kernel
theorem dX11_init_4 : decode cX11_init 4 = .ok (.aload_n 0, 1) := by decide +kernel
theorem dX11_init_5 : decode cX11_init 5 = .ok (.new 7, 3) := by decide +kernel
theorem dX11_init_8 : decode cX11_init 8 = .ok (.dup, 1) := by decide +kernel
theorem dX11_init_9 : decode cX11_init 9 = .ok (.invokespecial 9, 3) := by decide +kernel
theorem dX11_init_12 : decode cX11_init 12 = .ok (.putfield 10, 3) := by decide +kernel
theorem dX11_init_15 : decode cX11_init 15 = .ok (.aload_n 0, 1) := by decide +kernel
theorem dX11_init_16 : decode cX11_init 16 = .ok (.new 16, 3) := by decide +kernel
theorem dX11_init_19 : decode cX11_init 19 = .ok (.dup, 1) := by decide +kernel
theorem dX11_init_20 : decode cX11_init 20 = .ok (.invokespecial 18, 3) := by decide +kernel
theorem dX11_init_23 : decode cX11_init 23 = .ok (.putfield 19, 3) := by decide +kernel
theorem dX11_init_26 : decode cX11_init 26 = .ok (.aload_n 0, 1) := by decide +kernel
theorem dX11_init_27 : decode cX11_init 27 = .ok (.new 16, 3) := by decide +kernel
theorem dX11_init_30 : decode cX11_init 30 = .ok (.dup, 1) := by decide +kernel
theorem dX11_init_31 : decode cX11_init 31 = .ok (.invokespecial 18, 3) := by decide +kernel
theorem dX11_init_34 : decode cX11_init 34 = .ok (.putfield 23, 3) := by decide +kernel
theorem dX11_init_37 : decode cX11_init 37 = .ok (.aload_n 0, 1) := by decide +kernel
theorem dX11_init_38 : decode cX11_init 38 = .ok (.new 26, 3) := by decide +kernel
theorem dX11_init_41 : decode cX11_init 41 = .ok (.dup, 1) := by decide +kernel
theorem dX11_init_42 : decode cX11_init 42 = .ok (.invokespecial 28, 3) := by decide +kernel
theorem dX11_init_45 : decode cX11_init 45 = .ok (.putfield 29, 3) := by decide +kernel
theorem dX11_init_48 : decode cX11_init 48 = .ok (.aload_n 0, 1) := by decide +kernel
theorem dX11_init_49 : decode cX11_init 49 = .ok (.iconst 2, 1) := by decide +kernel
theorem dX11_init_50 : decode cX11_init 50 = .ok (.anewarray 26, 3) := by decide +kernel
theorem dX11_init_53 : decode cX11_init 53 = .ok (.putfield 33, 3) := by decide +kernel
theorem dX11_init_56 : decode cX11_init 56 = .ok (.aload_n 0, 1) := by decide +kernel
theorem dX11_init_57 : decode cX11_init 57 = .ok (.new 37, 3) := by decide +kernel
theorem dX11_init_60 : decode cX11_init 60 = .ok (.dup, 1) := by decide +kernel
theorem dX11_init_61 : decode cX11_init 61 = .ok (.invokespecial 39, 3) := by decide +kernel
theorem dX11_init_64 : decode cX11_init 64 = .ok (.putfield 40, 3) := by decide +kernel
theorem dX11_init_67 : decode cX11_init 67 = .ok (.aload_n 0, 1) := by decide +kernel
theorem dX11_init_68 : decode cX11_init 68 = .ok (.bipush 6, 2) := by decide +kernel
theorem dX11_init_70 : decode cX11_init 70 = .ok (.newarray .int, 2) := by decide +kernel
theorem dX11_init_72 : decode cX11_init 72 = .ok (.putfield 44, 3) := by decide +kernel
theorem dX11_init_75 : decode cX11_init 75 = .ok (.aload_n 0, 1) := by decide +kernel
theorem dX11_init_76 : decode cX11_init 76 = .ok (.bipush 6, 2) := by decide +kernel
theorem dX11_init_78 : decode cX11_init 78 = .ok (.newarray .int, 2) := by decide +kernel
theorem dX11_init_80 : decode cX11_init 80 = .ok (.putfield 48, 3) := by decide +kernel
theorem dX11_init_83 : decode cX11_init 83 = .ok (.aload_n 0, 1) := by decide +kernel
theorem dX11_init_84 : decode cX11_init 84 = .ok (.bipush 6, 2) := by decide +kernel
theorem dX11_init_86 : decode cX11_init 86 = .ok (.anewarray 51, 3) := by decide +kernel
theorem dX11_init_89 : decode cX11_init 89 = .ok (.dup, 1) := by decide +kernel
theorem dX11_init_90 : decode cX11_init 90 = .ok (.iconst 0, 1) := by decide +kernel
theorem dX11_init_91 : decode cX11_init 91 = .ok (.new 51, 3) := by decide +kernel
theorem dX11_init_94 : decode cX11_init 94 = .ok (.dup, 1) := by decide +kernel
theorem dX11_init_95 : decode cX11_init 95 = .ok (.invokespecial 53, 3) := by decide +kernel
theorem dX11_init_98 : decode cX11_init 98 = .ok (.aastore, 1) := by decide +kernel
theorem dX11_init_99 : decode cX11_init 99 = .ok (.dup, 1) := by decide +kernel
theorem dX11_init_100 : decode cX11_init 100 = .ok (.iconst 1, 1) := by decide +kernel
theorem dX11_init_101 : decode cX11_init 101 = .ok (.new 54, 3) := by decide +kernel
theorem dX11_init_104 : decode cX11_init 104 = .ok (.dup, 1) := by decide +kernel
theorem dX11_init_105 : decode cX11_init 105 = .ok (.invokespecial 56, 3) := by decide +kernel
theorem dX11_init_108 : decode cX11_init 108 = .ok (.aastore, 1) := by decide +kernel
theorem dX11_init_109 : decode cX11_init 109 = .ok (.dup, 1) := by decide +kernel
theorem dX11_init_110 : decode cX11_init 110 = .ok (.iconst 2, 1) := by decide +kernel
theorem dX11_init_111 : decode cX11_init 111 = .ok (.new 57, 3) := by decide +kernel
theorem dX11_init_114 : decode cX11_init 114 = .ok (.dup, 1) := by decide +kernel
theorem dX11_init_115 : decode cX11_init 115 = .ok (.invokespecial 59, 3) := by decide +kernel
theorem dX11_init_118 : decode cX11_init 118 = .ok (.aastore, 1) := by decide +kernel
theorem dX11_init_119 : decode cX11_init 119 = .ok (.dup, 1) := by decide +kernel
theorem dX11_init_120 : decode cX11_init 120 = .ok (.iconst 3, 1) := by decide +kernel
theorem dX11_init_121 : decode cX11_init 121 = .ok (.new 60, 3) := by decide +kernel
theorem dX11_init_124 : decode cX11_init 124 = .ok (.dup, 1) := by decide +kernel
theorem dX11_init_125 : decode cX11_init 125 = .ok (.invokespecial 62, 3) := by decide +kernel
theorem dX11_init_128 : decode cX11_init 128 = .ok (.aastore, 1) := by decide +kernel
theorem dX11_init_129 : decode cX11_init 129 = .ok (.dup, 1) := by decide +kernel
theorem dX11_init_130 : decode cX11_init 130 = .ok (.iconst 4, 1) := by decide +kernel
theorem dX11_init_131 : decode cX11_init 131 = .ok (.new 63, 3) := by decide +kernel
theorem dX11_init_134 : decode cX11_init 134 = .ok (.dup, 1) := by decide +kernel
theorem dX11_init_135 : decode cX11_init 135 = .ok (.invokespecial 65, 3) := by decide +kernel
theorem dX11_init_138 : decode cX11_init 138 = .ok (.aastore, 1) := by decide +kernel
theorem dX11_init_139 : decode cX11_init 139 = .ok (.dup, 1) := by decide +kernel
theorem dX11_init_140 : decode cX11_init 140 = .ok (.iconst 5, 1) := by decide +kernel
theorem dX11_init_141 : decode cX11_init 141 = .ok (.new 66, 3) := by decide +kernel
theorem dX11_init_144 : decode cX11_init 144 = .ok (.dup, 1) := by decide +kernel
theorem dX11_init_145 : decode cX11_init 145 = .ok (.invokespecial 68, 3) := by decide +kernel
theorem dX11_init_148 : decode cX11_init 148 = .ok (.aastore, 1) := by decide +kernel
theorem dX11_init_149 : decode cX11_init 149 = .ok (.putfield 69, 3) := by decide +kernel
theorem dX11_init_152 : decode cX11_init 152 = .ok (.iconst 0, 1) := by decide +kernel
theorem dX11_init_153 : decode cX11_init 153 = .ok (.istore_n 1, 1) := by decide +kernel
theorem dX11_init_154 : decode cX11_init 154 = .ok (.iload_n 1, 1) := by decide +kernel
theorem dX11_init_155 : decode cX11_init 155 = .ok (.aload_n 0, 1) := by decide +kernel
theorem dX11_init_156 : decode cX11_init 156 = .ok (.getfield 33, 3) := by decide +kernel
theorem dX11_init_159 : decode cX11_init 159 = .ok (.arraylength, 1) := by decide +kernel
theorem dX11_init_160 : decode cX11_init 160 = .ok (.if_icmp .ge 22, 3) := by decide +kernel
theorem dX11_init_163 : decode cX11_init 163 = .ok (.aload_n 0, 1) := by decide +kernel
theorem dX11_init_164 : decode cX11_init 164 = .ok (.getfield 33, 3) := by decide +kernel
theorem dX11_init_167 : decode cX11_init 167 = .ok (.iload_n 1, 1) := by decide +kernel
theorem dX11_init_168 : decode cX11_init 168 = .ok (.new 26, 3) := by decide +kernel
theorem dX11_init_171 : decode cX11_init 171 = .ok (.dup, 1) := by decide +kernel
theorem dX11_init_172 : decode cX11_init 172 = .ok (.invokespecial 28, 3) := by decide +kernel
theorem dX11_init_175 : decode cX11_init 175 = .ok (.aastore, 1) := by decide +kernel
theorem dX11_init_176 : decode cX11_init 176 = .ok (.iinc 1 1, 3) := by decide +kernel
theorem dX11_init_179 : decode cX11_init 179 = .ok (.goto (-25), 3) := by decide +kernel
theorem dX11_init_182 : decode cX11_init 182 = .ok (.aload_n 0, 1) := by decide +kernel
theorem dX11_init_183 : decode cX11_init 183 = .ok (.invokevirtual 73, 3) := by decide +kernel
theorem dX11_init_186 : decode cX11_init 186 = .ok (.return_, 1) := by decide +kernel
theorem dX11_type_0 : decode cX11_type 0 = .ok (.iload_n 1, 1) := by decide +kernel
theorem dX11_type_1 : decode cX11_type 1 = .ok (.ifCond .lt 10, 3) := by decide +kernel
theorem dX11_type_4 : decode cX11_type 4 = .ok (.iload_n 1, 1) := by decide +kernel
theorem dX11_type_5 : decode cX11_type 5 = .ok (.sipush 255, 3) := by decide +kernel
theorem dX11_type_8 : decode cX11_type 8 = .ok (.if_icmp .le 5, 3) := by decide +kernel
theorem dX11_type_11 : decode cX11_type 11 = .ok (.iconst (-1), 1) := by decide +kernel
theorem dX11_type_12 : decode cX11_type 12 = .ok (.ireturn, 1) := by decide +kernel
theorem dX11_type_13 : decode cX11_type 13 = .ok (.aload_n 0, 1) := by decide +kernel
theorem dX11_type_14 : decode cX11_type 14 = .ok (.getfield 10, 3) := by decide +kernel
theorem dX11_type_17 : decode cX11_type 17 = .ok (.iload_n 1, 1) := by decide +kernel
theorem dX11_type_18 : decode cX11_type 18 = .ok (.invokevirtual 76, 3) := by decide +kernel
theorem dX11_type_21 : decode cX11_type 21 = .ok (.ifCond .eq 13, 3) := by decide +kernel
theorem dX11_type_24 : decode cX11_type 24 = .ok (.aload_n 0, 1) := by decide +kernel
theorem dX11_type_25 : decode cX11_type 25 = .ok (.getfield 10, 3) := by decide +kernel
theorem dX11_type_28 : decode cX11_type 28 = .ok (.getfield 80, 3) := by decide +kernel
theorem dX11_type_31 : decode cX11_type 31 = .ok (.goto 5, 3) := by decide +kernel
theorem dX11_type_34 : decode cX11_type 34 = .ok (.bipush (-3), 2) := by decide +kernel
theorem dX11_type_36 : decode cX11_type 36 = .ok (.ireturn, 1) := by decide +kernel
theorem dX11_clear_0 : decode cX11_clear 0 = .ok (.aload_n 0, 1) := by decide +kernel
theorem dX11_clear_1 : decode cX11_clear 1 = .ok (.getfield 10, 3) := by decide +kernel
theorem dX11_clear_4 : decode cX11_clear 4 = .ok (.invokevirtual 84, 3) := by decide +kernel
theorem dX11_clear_7 : decode cX11_clear 7 = .ok (.ireturn, 1) := by decide +kernel
theorem dX11_tales_0 : decode cX11_tales 0 = .ok (.aload_n 0, 1) := by decide +kernel
theorem dX11_tales_1 : decode cX11_tales 1 = .ok (.getfield 10, 3) := by decide +kernel
theorem dX11_tales_4 : decode cX11_tales 4 = .ok (.aload_n 0, 1) := by decide +kernel
theorem dX11_tales_5 : decode cX11_tales 5 = .ok (.getfield 23, 3) := by decide +kernel
theorem dX11_tales_8 : decode cX11_tales 8 = .ok (.invokevirtual 88, 3) := by decide +kernel
theorem dX11_tales_11 : decode cX11_tales 11 = .ok (.istore_n 1, 1) := by decide +kernel
theorem dX11_tales_12 : decode cX11_tales 12 = .ok (.iload_n 1, 1) := by decide +kernel
theorem dX11_tales_13 : decode cX11_tales 13 = .ok (.ifCond .ge 14, 3) := by decide +kernel
theorem dX11_tales_16 : decode cX11_tales 16 = .ok (.bipush (-10), 2) := by decide +kernel
theorem dX11_tales_18 : decode cX11_tales 18 = .ok (.aload_n 0, 1) := by decide +kernel
theorem dX11_tales_19 : decode cX11_tales 19 = .ok (.getfield 10, 3) := by decide +kernel
theorem dX11_tales_22 : decode cX11_tales 22 = .ok (.getfield 92, 3) := by decide +kernel
theorem dX11_tales_25 : decode cX11_tales 25 = .ok (.isub, 1) := by decide +kernel
theorem dX11_tales_26 : decode cX11_tales 26 = .ok (.ireturn, 1) := by decide +kernel
theorem dX11_tales_27 : decode cX11_tales 27 = .ok (.aload_n 0, 1) := by decide +kernel
theorem dX11_tales_28 : decode cX11_tales 28 = .ok (.getfield 19, 3) := by decide +kernel
theorem dX11_tales_31 : decode cX11_tales 31 = .ok (.aload_n 0, 1) := by decide +kernel
theorem dX11_tales_32 : decode cX11_tales 32 = .ok (.getfield 23, 3) := by decide +kernel
theorem dX11_tales_35 : decode cX11_tales 35 = .ok (.invokevirtual 95, 3) := by decide +kernel
theorem dX11_tales_38 : decode cX11_tales 38 = .ok (.aload_n 0, 1) := by decide +kernel
theorem dX11_tales_39 : decode cX11_tales 39 = .ok (.getfield 10, 3) := by decide +kernel
theorem dX11_tales_42 : decode cX11_tales 42 = .ok (.invokevirtual 84, 3) := by decide +kernel
theorem dX11_tales_45 : decode cX11_tales 45 = .ok (.pop, 1) := by decide +kernel
theorem dX11_tales_46 : decode cX11_tales 46 = .ok (.aload_n 0, 1) := by decide +kernel
theorem dX11_tales_47 : decode cX11_tales 47 = .ok (.invokevirtual 73, 3) := by decide +kernel
theorem dX11_tales_50 : decode cX11_tales 50 = .ok (.iload_n 1, 1) := by decide +kernel
theorem dX11_tales_51 : decode cX11_tales 51 = .ok (.ireturn, 1) := by decide +kernel
theorem dX11_tale_0 : decode cX11_tale 0 = .ok (.aload_n 0, 1) := by decide +kernel
theorem dX11_tale_1 : decode cX11_tale 1 = .ok (.getfield 19, 3) := by decide +kernel
theorem dX11_tale_4 : decode cX11_tale 4 = .ok (.iload_n 1, 1) := by decide +kernel
theorem dX11_tale_5 : decode cX11_tale 5 = .ok (.invokevirtual 99, 3) := by decide +kernel
theorem dX11_tale_8 : decode cX11_tale 8 = .ok (.ifCond .ne 5, 3) := by decide +kernel
theorem dX11_tale_11 : decode cX11_tale 11 = .ok (.iconst (-1), 1) := by decide +kernel
theorem dX11_tale_12 : decode cX11_tale 12 = .ok (.ireturn, 1) := by decide +kernel
theorem dX11_tale_13 : decode cX11_tale 13 = .ok (.aload_n 0, 1) := by decide +kernel
theorem dX11_tale_14 : decode cX11_tale 14 = .ok (.getfield 29, 3) := by decide +kernel
theorem dX11_tale_17 : decode cX11_tale 17 = .ok (.getfield 102, 3) := by decide +kernel
theorem dX11_tale_20 : decode cX11_tale 20 = .ok (.astore_n 3, 1) := by decide +kernel
theorem dX11_tale_21 : decode cX11_tale 21 = .ok (.iload_n 2, 1) := by decide +kernel
theorem dX11_tale_22 : decode cX11_tale 22 = .ok (.tableswitch 101 0 5 #[38, 47, 56, 62, 76, 82], 38) := by decide +kernel
theorem dX11_tale_60 : decode cX11_tale 60 = .ok (.aload_n 0, 1) := by decide +kernel
theorem dX11_tale_61 : decode cX11_tale 61 = .ok (.getfield 19, 3) := by decide +kernel
theorem dX11_tale_64 : decode cX11_tale 64 = .ok (.iload_n 1, 1) := by decide +kernel
theorem dX11_tale_65 : decode cX11_tale 65 = .ok (.invokevirtual 106, 3) := by decide +kernel
theorem dX11_tale_68 : decode cX11_tale 68 = .ok (.ireturn, 1) := by decide +kernel
theorem dX11_tale_69 : decode cX11_tale 69 = .ok (.aload_n 0, 1) := by decide +kernel
theorem dX11_tale_70 : decode cX11_tale 70 = .ok (.getfield 19, 3) := by decide +kernel
theorem dX11_tale_73 : decode cX11_tale 73 = .ok (.iload_n 1, 1) := by decide +kernel
theorem dX11_tale_74 : decode cX11_tale 74 = .ok (.invokevirtual 110, 3) := by decide +kernel
theorem dX11_tale_77 : decode cX11_tale 77 = .ok (.ireturn, 1) := by decide +kernel
theorem dX11_tale_78 : decode cX11_tale 78 = .ok (.aload_n 3, 1) := by decide +kernel
theorem dX11_tale_79 : decode cX11_tale 79 = .ok (.iload_n 1, 1) := by decide +kernel
theorem dX11_tale_80 : decode cX11_tale 80 = .ok (.invokevirtual 113, 3) := by decide +kernel
theorem dX11_tale_83 : decode cX11_tale 83 = .ok (.ireturn, 1) := by decide +kernel
theorem dX11_tale_84 : decode cX11_tale 84 = .ok (.aload_n 3, 1) := by decide +kernel
theorem dX11_tale_85 : decode cX11_tale 85 = .ok (.iload_n 1, 1) := by decide +kernel
theorem dX11_tale_86 : decode cX11_tale 86 = .ok (.invokevirtual 118, 3) := by decide +kernel
theorem dX11_tale_89 : decode cX11_tale 89 = .ok (.ifCond .eq 7, 3) := by decide +kernel
theorem dX11_tale_92 : decode cX11_tale 92 = .ok (.iconst 1, 1) := by decide +kernel
theorem dX11_tale_93 : decode cX11_tale 93 = .ok (.goto 4, 3) := by decide +kernel
theorem dX11_tale_96 : decode cX11_tale 96 = .ok (.iconst 0, 1) := by decide +kernel
theorem dX11_tale_97 : decode cX11_tale 97 = .ok (.ireturn, 1) := by decide +kernel
theorem dX11_tale_98 : decode cX11_tale 98 = .ok (.aload_n 3, 1) := by decide +kernel
theorem dX11_tale_99 : decode cX11_tale 99 = .ok (.iload_n 1, 1) := by decide +kernel
theorem dX11_tale_100 : decode cX11_tale 100 = .ok (.invokevirtual 121, 3) := by decide +kernel
theorem dX11_tale_103 : decode cX11_tale 103 = .ok (.ireturn, 1) := by decide +kernel
theorem dX11_tale_104 : decode cX11_tale 104 = .ok (.aload_n 3, 1) := by decide +kernel
theorem dX11_tale_105 : decode cX11_tale 105 = .ok (.iload_n 1, 1) := by decide +kernel
theorem dX11_tale_106 : decode cX11_tale 106 = .ok (.invokevirtual 118, 3) := by decide +kernel
theorem dX11_tale_109 : decode cX11_tale 109 = .ok (.ifCond .eq 11, 3) := by decide +kernel
theorem dX11_tale_112 : decode cX11_tale 112 = .ok (.aload_n 3, 1) := by decide +kernel
theorem dX11_tale_113 : decode cX11_tale 113 = .ok (.iload_n 1, 1) := by decide +kernel
theorem dX11_tale_114 : decode cX11_tale 114 = .ok (.invokevirtual 124, 3) := by decide +kernel
theorem dX11_tale_117 : decode cX11_tale 117 = .ok (.goto 5, 3) := by decide +kernel
theorem dX11_tale_120 : decode cX11_tale 120 = .ok (.bipush (-9), 2) := by decide +kernel
theorem dX11_tale_122 : decode cX11_tale 122 = .ok (.ireturn, 1) := by decide +kernel
theorem dX11_tale_123 : decode cX11_tale 123 = .ok (.iconst (-1), 1) := by decide +kernel
theorem dX11_tale_124 : decode cX11_tale 124 = .ok (.ireturn, 1) := by decide +kernel
theorem dX11_hours_0 : decode cX11_hours 0 = .ok (.iload_n 1, 1) := by decide +kernel
theorem dX11_hours_1 : decode cX11_hours 1 = .ok (.ifCond .lt 10, 3) := by decide +kernel
theorem dX11_hours_4 : decode cX11_hours 4 = .ok (.iload_n 1, 1) := by decide +kernel
theorem dX11_hours_5 : decode cX11_hours 5 = .ok (.sipush 200, 3) := by decide +kernel
theorem dX11_hours_8 : decode cX11_hours 8 = .ok (.if_icmp .le 7, 3) := by decide +kernel
theorem dX11_hours_11 : decode cX11_hours 11 = .ok (.iconst (-1), 1) := by decide +kernel
theorem dX11_hours_12 : decode cX11_hours 12 = .ok (.goto 11, 3) := by decide +kernel
theorem dX11_hours_15 : decode cX11_hours 15 = .ok (.aload_n 0, 1) := by decide +kernel
theorem dX11_hours_16 : decode cX11_hours 16 = .ok (.getfield 19, 3) := by decide +kernel
theorem dX11_hours_19 : decode cX11_hours 19 = .ok (.iload_n 1, 1) := by decide +kernel
theorem dX11_hours_20 : decode cX11_hours 20 = .ok (.invokevirtual 127, 3) := by decide +kernel
theorem dX11_hours_23 : decode cX11_hours 23 = .ok (.ireturn, 1) := by decide +kernel
theorem dX11_begins_0 : decode cX11_begins 0 = .ok (.aload_n 0, 1) := by decide +kernel
theorem dX11_begins_1 : decode cX11_begins 1 = .ok (.getfield 19, 3) := by decide +kernel
theorem dX11_begins_4 : decode cX11_begins 4 = .ok (.iload_n 1, 1) := by decide +kernel
theorem dX11_begins_5 : decode cX11_begins 5 = .ok (.invokevirtual 99, 3) := by decide +kernel
theorem dX11_begins_8 : decode cX11_begins 8 = .ok (.ifCond .ne 5, 3) := by decide +kernel
theorem dX11_begins_11 : decode cX11_begins 11 = .ok (.iconst (-1), 1) := by decide +kernel
theorem dX11_begins_12 : decode cX11_begins 12 = .ok (.ireturn, 1) := by decide +kernel
theorem dX11_begins_13 : decode cX11_begins 13 = .ok (.aload_n 0, 1) := by decide +kernel
theorem dX11_begins_14 : decode cX11_begins 14 = .ok (.getfield 29, 3) := by decide +kernel
theorem dX11_begins_17 : decode cX11_begins 17 = .ok (.getfield 102, 3) := by decide +kernel
theorem dX11_begins_20 : decode cX11_begins 20 = .ok (.aload_n 0, 1) := by decide +kernel
theorem dX11_begins_21 : decode cX11_begins 21 = .ok (.getfield 19, 3) := by decide +kernel
theorem dX11_begins_24 : decode cX11_begins 24 = .ok (.iload_n 1, 1) := by decide +kernel
theorem dX11_begins_25 : decode cX11_begins 25 = .ok (.invokevirtual 130, 3) := by decide +kernel
theorem dX11_begins_28 : decode cX11_begins 28 = .ok (.ifCond .ne 6, 3) := by decide +kernel
theorem dX11_begins_31 : decode cX11_begins 31 = .ok (.bipush (-2), 2) := by decide +kernel
theorem dX11_begins_33 : decode cX11_begins 33 = .ok (.ireturn, 1) := by decide +kernel
theorem dX11_begins_34 : decode cX11_begins 34 = .ok (.aload_n 0, 1) := by decide +kernel
theorem dX11_begins_35 : decode cX11_begins 35 = .ok (.getfield 29, 3) := by decide +kernel
theorem dX11_begins_38 : decode cX11_begins 38 = .ok (.invokevirtual 134, 3) := by decide +kernel
theorem dX11_begins_41 : decode cX11_begins 41 = .ok (.aload_n 0, 1) := by decide +kernel
theorem dX11_begins_42 : decode cX11_begins 42 = .ok (.getfield 29, 3) := by decide +kernel
theorem dX11_begins_45 : decode cX11_begins 45 = .ok (.getfield 102, 3) := by decide +kernel
theorem dX11_begins_48 : decode cX11_begins 48 = .ok (.iload_n 1, 1) := by decide +kernel
theorem dX11_begins_49 : decode cX11_begins 49 = .ok (.invokevirtual 137, 3) := by decide +kernel
theorem dX11_begins_52 : decode cX11_begins 52 = .ok (.aload_n 0, 1) := by decide +kernel
theorem dX11_begins_53 : decode cX11_begins 53 = .ok (.getfield 29, 3) := by decide +kernel
theorem dX11_begins_56 : decode cX11_begins 56 = .ok (.getfield 102, 3) := by decide +kernel
theorem dX11_begins_59 : decode cX11_begins 59 = .ok (.getfield 141, 3) := by decide +kernel
theorem dX11_begins_62 : decode cX11_begins 62 = .ok (.ireturn, 1) := by decide +kernel
theorem dX11_tells_0 : decode cX11_tells 0 = .ok (.aload_n 0, 1) := by decide +kernel
theorem dX11_tells_1 : decode cX11_tells 1 = .ok (.getfield 29, 3) := by decide +kernel
theorem dX11_tells_4 : decode cX11_tells 4 = .ok (.getfield 102, 3) := by decide +kernel
theorem dX11_tells_7 : decode cX11_tells 7 = .ok (.invokevirtual 144, 3) := by decide +kernel
theorem dX11_tells_10 : decode cX11_tells 10 = .ok (.ifCond .eq 16, 3) := by decide +kernel
theorem dX11_tells_13 : decode cX11_tells 13 = .ok (.aload_n 0, 1) := by decide +kernel
theorem dX11_tells_14 : decode cX11_tells 14 = .ok (.getfield 29, 3) := by decide +kernel
theorem dX11_tells_17 : decode cX11_tells 17 = .ok (.getfield 102, 3) := by decide +kernel
theorem dX11_tells_20 : decode cX11_tells 20 = .ok (.getfield 148, 3) := by decide +kernel
theorem dX11_tells_23 : decode cX11_tells 23 = .ok (.ifCond .ne 6, 3) := by decide +kernel
theorem dX11_tells_26 : decode cX11_tells 26 = .ok (.bipush (-2), 2) := by decide +kernel
theorem dX11_tells_28 : decode cX11_tells 28 = .ok (.ireturn, 1) := by decide +kernel
theorem dX11_tells_29 : decode cX11_tells 29 = .ok (.aload_n 0, 1) := by decide +kernel
theorem dX11_tells_30 : decode cX11_tells 30 = .ok (.getfield 29, 3) := by decide +kernel
theorem dX11_tells_33 : decode cX11_tells 33 = .ok (.invokevirtual 134, 3) := by decide +kernel
theorem dX11_tells_36 : decode cX11_tells 36 = .ok (.aload_n 0, 1) := by decide +kernel
theorem dX11_tells_37 : decode cX11_tells 37 = .ok (.getfield 29, 3) := by decide +kernel
theorem dX11_tells_40 : decode cX11_tells 40 = .ok (.getfield 102, 3) := by decide +kernel
theorem dX11_tells_43 : decode cX11_tells 43 = .ok (.aload_n 0, 1) := by decide +kernel
theorem dX11_tells_44 : decode cX11_tells 44 = .ok (.getfield 29, 3) := by decide +kernel
theorem dX11_tells_47 : decode cX11_tells 47 = .ok (.getfield 102, 3) := by decide +kernel
theorem dX11_tells_50 : decode cX11_tells 50 = .ok (.invokevirtual 151, 3) := by decide +kernel
theorem dX11_tells_53 : decode cX11_tells 53 = .ok (.iconst 1, 1) := by decide +kernel
theorem dX11_tells_54 : decode cX11_tells 54 = .ok (.invokevirtual 154, 3) := by decide +kernel
theorem dX11_tells_57 : decode cX11_tells 57 = .ok (.aload_n 0, 1) := by decide +kernel
theorem dX11_tells_58 : decode cX11_tells 58 = .ok (.getfield 29, 3) := by decide +kernel
theorem dX11_tells_61 : decode cX11_tells 61 = .ok (.getfield 102, 3) := by decide +kernel
theorem dX11_tells_64 : decode cX11_tells 64 = .ok (.getfield 141, 3) := by decide +kernel
theorem dX11_tells_67 : decode cX11_tells 67 = .ok (.ireturn, 1) := by decide +kernel
theorem dX11_silent_0 : decode cX11_silent 0 = .ok (.aload_n 0, 1) := by decide +kernel
theorem dX11_silent_1 : decode cX11_silent 1 = .ok (.getfield 29, 3) := by decide +kernel
theorem dX11_silent_4 : decode cX11_silent 4 = .ok (.getfield 102, 3) := by decide +kernel
theorem dX11_silent_7 : decode cX11_silent 7 = .ok (.invokevirtual 144, 3) := by decide +kernel
theorem dX11_silent_10 : decode cX11_silent 10 = .ok (.ifCond .ne 6, 3) := by decide +kernel
theorem dX11_silent_13 : decode cX11_silent 13 = .ok (.bipush (-2), 2) := by decide +kernel
theorem dX11_silent_15 : decode cX11_silent 15 = .ok (.ireturn, 1) := by decide +kernel
theorem dX11_silent_16 : decode cX11_silent 16 = .ok (.aload_n 0, 1) := by decide +kernel
theorem dX11_silent_17 : decode cX11_silent 17 = .ok (.getfield 29, 3) := by decide +kernel
theorem dX11_silent_20 : decode cX11_silent 20 = .ok (.invokevirtual 134, 3) := by decide +kernel
theorem dX11_silent_23 : decode cX11_silent 23 = .ok (.aload_n 0, 1) := by decide +kernel
theorem dX11_silent_24 : decode cX11_silent 24 = .ok (.getfield 29, 3) := by decide +kernel
theorem dX11_silent_27 : decode cX11_silent 27 = .ok (.getfield 102, 3) := by decide +kernel
theorem dX11_silent_30 : decode cX11_silent 30 = .ok (.invokevirtual 158, 3) := by decide +kernel
theorem dX11_silent_33 : decode cX11_silent 33 = .ok (.aload_n 0, 1) := by decide +kernel
theorem dX11_silent_34 : decode cX11_silent 34 = .ok (.getfield 29, 3) := by decide +kernel
theorem dX11_silent_37 : decode cX11_silent 37 = .ok (.getfield 102, 3) := by decide +kernel
theorem dX11_silent_40 : decode cX11_silent 40 = .ok (.getfield 141, 3) := by decide +kernel
theorem dX11_silent_43 : decode cX11_silent 43 = .ok (.ireturn, 1) := by decide +kernel
theorem dX11_dawn_0 : decode cX11_dawn 0 = .ok (.aload_n 0, 1) := by decide +kernel
theorem dX11_dawn_1 : decode cX11_dawn 1 = .ok (.getfield 29, 3) := by decide +kernel
theorem dX11_dawn_4 : decode cX11_dawn 4 = .ok (.getfield 102, 3) := by decide +kernel
theorem dX11_dawn_7 : decode cX11_dawn 7 = .ok (.invokevirtual 161, 3) := by decide +kernel
theorem dX11_dawn_10 : decode cX11_dawn 10 = .ok (.ifCond .ne 6, 3) := by decide +kernel
theorem dX11_dawn_13 : decode cX11_dawn 13 = .ok (.bipush (-2), 2) := by decide +kernel
theorem dX11_dawn_15 : decode cX11_dawn 15 = .ok (.ireturn, 1) := by decide +kernel
theorem dX11_dawn_16 : decode cX11_dawn 16 = .ok (.aload_n 0, 1) := by decide +kernel
theorem dX11_dawn_17 : decode cX11_dawn 17 = .ok (.getfield 29, 3) := by decide +kernel
theorem dX11_dawn_20 : decode cX11_dawn 20 = .ok (.invokevirtual 134, 3) := by decide +kernel
theorem dX11_dawn_23 : decode cX11_dawn 23 = .ok (.aload_n 0, 1) := by decide +kernel
theorem dX11_dawn_24 : decode cX11_dawn 24 = .ok (.getfield 29, 3) := by decide +kernel
theorem dX11_dawn_27 : decode cX11_dawn 27 = .ok (.getfield 102, 3) := by decide +kernel
theorem dX11_dawn_30 : decode cX11_dawn 30 = .ok (.aload_n 0, 1) := by decide +kernel
theorem dX11_dawn_31 : decode cX11_dawn 31 = .ok (.getfield 19, 3) := by decide +kernel
theorem dX11_dawn_34 : decode cX11_dawn 34 = .ok (.invokevirtual 164, 3) := by decide +kernel
theorem dX11_dawn_37 : decode cX11_dawn 37 = .ok (.ifCond .eq 7, 3) := by decide +kernel
theorem dX11_dawn_40 : decode cX11_dawn 40 = .ok (.iconst 1, 1) := by decide +kernel
theorem dX11_dawn_41 : decode cX11_dawn 41 = .ok (.goto 4, 3) := by decide +kernel
theorem dX11_dawn_44 : decode cX11_dawn 44 = .ok (.iconst 0, 1) := by decide +kernel
theorem dX11_dawn_45 : decode cX11_dawn 45 = .ok (.ireturn, 1) := by decide +kernel
theorem dX11_undo_0 : decode cX11_undo 0 = .ok (.aload_n 0, 1) := by decide +kernel
theorem dX11_undo_1 : decode cX11_undo 1 = .ok (.getfield 29, 3) := by decide +kernel
theorem dX11_undo_4 : decode cX11_undo 4 = .ok (.invokevirtual 168, 3) := by decide +kernel
theorem dX11_undo_7 : decode cX11_undo 7 = .ok (.ifCond .eq 13, 3) := by decide +kernel
theorem dX11_undo_10 : decode cX11_undo 10 = .ok (.aload_n 0, 1) := by decide +kernel
theorem dX11_undo_11 : decode cX11_undo 11 = .ok (.getfield 29, 3) := by decide +kernel
theorem dX11_undo_14 : decode cX11_undo 14 = .ok (.getfield 171, 3) := by decide +kernel
theorem dX11_undo_17 : decode cX11_undo 17 = .ok (.goto 5, 3) := by decide +kernel
theorem dX11_undo_20 : decode cX11_undo 20 = .ok (.bipush (-2), 2) := by decide +kernel
theorem dX11_undo_22 : decode cX11_undo 22 = .ok (.ireturn, 1) := by decide +kernel
theorem dX11_now_0 : decode cX11_now 0 = .ok (.aload_n 0, 1) := by decide +kernel
theorem dX11_now_1 : decode cX11_now 1 = .ok (.getfield 29, 3) := by decide +kernel
theorem dX11_now_4 : decode cX11_now 4 = .ok (.getfield 102, 3) := by decide +kernel
theorem dX11_now_7 : decode cX11_now 7 = .ok (.astore_n 2, 1) := by decide +kernel
theorem dX11_now_8 : decode cX11_now 8 = .ok (.iload_n 1, 1) := by decide +kernel
theorem dX11_now_9 : decode cX11_now 9 = .ok (.tableswitch 99 0 7 #[47, 52, 57, 62, 67, 80, 85, 90], 47) := by decide +kernel
theorem dX11_now_56 : decode cX11_now 56 = .ok (.aload_n 2, 1) := by decide +kernel
theorem dX11_now_57 : decode cX11_now 57 = .ok (.getfield 174, 3) := by decide +kernel
theorem dX11_now_60 : decode cX11_now 60 = .ok (.ireturn, 1) := by decide +kernel
theorem dX11_now_61 : decode cX11_now 61 = .ok (.aload_n 2, 1) := by decide +kernel
theorem dX11_now_62 : decode cX11_now 62 = .ok (.getfield 141, 3) := by decide +kernel
theorem dX11_now_65 : decode cX11_now 65 = .ok (.ireturn, 1) := by decide +kernel
theorem dX11_now_66 : decode cX11_now 66 = .ok (.aload_n 2, 1) := by decide +kernel
theorem dX11_now_67 : decode cX11_now 67 = .ok (.getfield 148, 3) := by decide +kernel
theorem dX11_now_70 : decode cX11_now 70 = .ok (.ireturn, 1) := by decide +kernel
theorem dX11_now_71 : decode cX11_now 71 = .ok (.aload_n 2, 1) := by decide +kernel
theorem dX11_now_72 : decode cX11_now 72 = .ok (.invokevirtual 151, 3) := by decide +kernel
theorem dX11_now_75 : decode cX11_now 75 = .ok (.ireturn, 1) := by decide +kernel
theorem dX11_now_76 : decode cX11_now 76 = .ok (.aload_n 2, 1) := by decide +kernel
theorem dX11_now_77 : decode cX11_now 77 = .ok (.getfield 177, 3) := by decide +kernel
theorem dX11_now_80 : decode cX11_now 80 = .ok (.ifCond .eq 7, 3) := by decide +kernel
theorem dX11_now_83 : decode cX11_now 83 = .ok (.iconst 1, 1) := by decide +kernel
theorem dX11_now_84 : decode cX11_now 84 = .ok (.goto 4, 3) := by decide +kernel
theorem dX11_now_87 : decode cX11_now 87 = .ok (.iconst 0, 1) := by decide +kernel
theorem dX11_now_88 : decode cX11_now 88 = .ok (.ireturn, 1) := by decide +kernel
theorem dX11_now_89 : decode cX11_now 89 = .ok (.aload_n 2, 1) := by decide +kernel
theorem dX11_now_90 : decode cX11_now 90 = .ok (.getfield 181, 3) := by decide +kernel
theorem dX11_now_93 : decode cX11_now 93 = .ok (.ireturn, 1) := by decide +kernel
theorem dX11_now_94 : decode cX11_now 94 = .ok (.aload_n 2, 1) := by decide +kernel
theorem dX11_now_95 : decode cX11_now 95 = .ok (.invokevirtual 184, 3) := by decide +kernel
theorem dX11_now_98 : decode cX11_now 98 = .ok (.ireturn, 1) := by decide +kernel
theorem dX11_now_99 : decode cX11_now 99 = .ok (.aload_n 2, 1) := by decide +kernel
theorem dX11_now_100 : decode cX11_now 100 = .ok (.aload_n 0, 1) := by decide +kernel
theorem dX11_now_101 : decode cX11_now 101 = .ok (.getfield 19, 3) := by decide +kernel
theorem dX11_now_104 : decode cX11_now 104 = .ok (.invokevirtual 187, 3) := by decide +kernel
theorem dX11_now_107 : decode cX11_now 107 = .ok (.ireturn, 1) := by decide +kernel
theorem dX11_now_108 : decode cX11_now 108 = .ok (.iconst (-1), 1) := by decide +kernel
theorem dX11_now_109 : decode cX11_now 109 = .ok (.ireturn, 1) := by decide +kernel
theorem dX11_on_0 : decode cX11_on 0 = .ok (.aload_n 0, 1) := by decide +kernel
theorem dX11_on_1 : decode cX11_on 1 = .ok (.getfield 40, 3) := by decide +kernel
theorem dX11_on_4 : decode cX11_on 4 = .ok (.aload_n 0, 1) := by decide +kernel
theorem dX11_on_5 : decode cX11_on 5 = .ok (.getfield 19, 3) := by decide +kernel
theorem dX11_on_8 : decode cX11_on 8 = .ok (.aload_n 0, 1) := by decide +kernel
theorem dX11_on_9 : decode cX11_on 9 = .ok (.getfield 29, 3) := by decide +kernel
theorem dX11_on_12 : decode cX11_on 12 = .ok (.getfield 102, 3) := by decide +kernel
theorem dX11_on_15 : decode cX11_on 15 = .ok (.invokevirtual 190, 3) := by decide +kernel
theorem dX11_on_18 : decode cX11_on 18 = .ok (.ireturn, 1) := by decide +kernel
theorem dX11_by_0 : decode cX11_by 0 = .ok (.aload_n 0, 1) := by decide +kernel
theorem dX11_by_1 : decode cX11_by 1 = .ok (.getfield 40, 3) := by decide +kernel
theorem dX11_by_4 : decode cX11_by 4 = .ok (.iload_n 1, 1) := by decide +kernel
theorem dX11_by_5 : decode cX11_by 5 = .ok (.aload_n 0, 1) := by decide +kernel
theorem dX11_by_6 : decode cX11_by 6 = .ok (.getfield 19, 3) := by decide +kernel
theorem dX11_by_9 : decode cX11_by 9 = .ok (.getfield 194, 3) := by decide +kernel
theorem dX11_by_12 : decode cX11_by 12 = .ok (.invokevirtual 197, 3) := by decide +kernel
theorem dX11_by_15 : decode cX11_by 15 = .ok (.ifCond .eq 17, 3) := by decide +kernel
theorem dX11_by_18 : decode cX11_by 18 = .ok (.aload_n 0, 1) := by decide +kernel
theorem dX11_by_19 : decode cX11_by 19 = .ok (.getfield 40, 3) := by decide +kernel
theorem dX11_by_22 : decode cX11_by 22 = .ok (.aload_n 0, 1) := by decide +kernel
theorem dX11_by_23 : decode cX11_by 23 = .ok (.getfield 19, 3) := by decide +kernel
theorem dX11_by_26 : decode cX11_by 26 = .ok (.invokevirtual 201, 3) := by decide +kernel
theorem dX11_by_29 : decode cX11_by 29 = .ok (.goto 4, 3) := by decide +kernel
theorem dX11_by_32 : decode cX11_by 32 = .ok (.iconst (-1), 1) := by decide +kernel
theorem dX11_by_33 : decode cX11_by 33 = .ok (.ireturn, 1) := by decide +kernel
theorem dX11_best_0 : decode cX11_best 0 = .ok (.iload_n 1, 1) := by decide +kernel
theorem dX11_best_1 : decode cX11_best 1 = .ok (.invokestatic 204, 3) := by decide +kernel
theorem dX11_best_4 : decode cX11_best 4 = .ok (.ifCond .ne 5, 3) := by decide +kernel
theorem dX11_best_7 : decode cX11_best 7 = .ok (.iconst (-1), 1) := by decide +kernel
theorem dX11_best_8 : decode cX11_best 8 = .ok (.ireturn, 1) := by decide +kernel
theorem dX11_best_9 : decode cX11_best 9 = .ok (.aload_n 0, 1) := by decide +kernel
theorem dX11_best_10 : decode cX11_best 10 = .ok (.getfield 40, 3) := by decide +kernel
theorem dX11_best_13 : decode cX11_best 13 = .ok (.aload_n 0, 1) := by decide +kernel
theorem dX11_best_14 : decode cX11_best 14 = .ok (.getfield 19, 3) := by decide +kernel
theorem dX11_best_17 : decode cX11_best 17 = .ok (.invokevirtual 207, 3) := by decide +kernel
theorem dX11_best_20 : decode cX11_best 20 = .ok (.aload_n 0, 1) := by decide +kernel
theorem dX11_best_21 : decode cX11_best 21 = .ok (.getfield 40, 3) := by decide +kernel
theorem dX11_best_24 : decode cX11_best 24 = .ok (.invokevirtual 210, 3) := by decide +kernel
theorem dX11_best_27 : decode cX11_best 27 = .ok (.istore_n 2, 1) := by decide +kernel
theorem dX11_best_28 : decode cX11_best 28 = .ok (.iload_n 1, 1) := by decide +kernel
theorem dX11_best_29 : decode cX11_best 29 = .ok (.ifCond .ne 14, 3) := by decide +kernel
theorem dX11_best_32 : decode cX11_best 32 = .ok (.aload_n 0, 1) := by decide +kernel
theorem dX11_best_33 : decode cX11_best 33 = .ok (.getfield 40, 3) := by decide +kernel
theorem dX11_best_36 : decode cX11_best 36 = .ok (.iload_n 2, 1) := by decide +kernel
theorem dX11_best_37 : decode cX11_best 37 = .ok (.invokevirtual 213, 3) := by decide +kernel
theorem dX11_best_40 : decode cX11_best 40 = .ok (.goto 11, 3) := by decide +kernel
theorem dX11_best_43 : decode cX11_best 43 = .ok (.aload_n 0, 1) := by decide +kernel
theorem dX11_best_44 : decode cX11_best 44 = .ok (.getfield 40, 3) := by decide +kernel
theorem dX11_best_47 : decode cX11_best 47 = .ok (.iload_n 2, 1) := by decide +kernel
theorem dX11_best_48 : decode cX11_best 48 = .ok (.invokevirtual 216, 3) := by decide +kernel
theorem dX11_best_51 : decode cX11_best 51 = .ok (.ireturn, 1) := by decide +kernel
theorem dX11_fewest_0 : decode cX11_fewest 0 = .ok (.iload_n 1, 1) := by decide +kernel
theorem dX11_fewest_1 : decode cX11_fewest 1 = .ok (.ifCond .lt 16, 3) := by decide +kernel
theorem dX11_fewest_4 : decode cX11_fewest 4 = .ok (.iload_n 1, 1) := by decide +kernel
theorem dX11_fewest_5 : decode cX11_fewest 5 = .ok (.bipush 30, 2) := by decide +kernel
theorem dX11_fewest_7 : decode cX11_fewest 7 = .ok (.if_icmp .gt 10, 3) := by decide +kernel
theorem dX11_fewest_10 : decode cX11_fewest 10 = .ok (.iload_n 2, 1) := by decide +kernel
theorem dX11_fewest_11 : decode cX11_fewest 11 = .ok (.invokestatic 204, 3) := by decide +kernel
theorem dX11_fewest_14 : decode cX11_fewest 14 = .ok (.ifCond .ne 5, 3) := by decide +kernel
theorem dX11_fewest_17 : decode cX11_fewest 17 = .ok (.iconst (-1), 1) := by decide +kernel
theorem dX11_fewest_18 : decode cX11_fewest 18 = .ok (.ireturn, 1) := by decide +kernel
theorem dX11_fewest_19 : decode cX11_fewest 19 = .ok (.aload_n 0, 1) := by decide +kernel
theorem dX11_fewest_20 : decode cX11_fewest 20 = .ok (.getfield 40, 3) := by decide +kernel
theorem dX11_fewest_23 : decode cX11_fewest 23 = .ok (.aload_n 0, 1) := by decide +kernel
theorem dX11_fewest_24 : decode cX11_fewest 24 = .ok (.getfield 19, 3) := by decide +kernel
theorem dX11_fewest_27 : decode cX11_fewest 27 = .ok (.invokevirtual 207, 3) := by decide +kernel
theorem dX11_fewest_30 : decode cX11_fewest 30 = .ok (.aload_n 0, 1) := by decide +kernel
theorem dX11_fewest_31 : decode cX11_fewest 31 = .ok (.getfield 40, 3) := by decide +kernel
theorem dX11_fewest_34 : decode cX11_fewest 34 = .ok (.iload_n 1, 1) := by decide +kernel
theorem dX11_fewest_35 : decode cX11_fewest 35 = .ok (.invokevirtual 219, 3) := by decide +kernel
theorem dX11_fewest_38 : decode cX11_fewest 38 = .ok (.istore_n 3, 1) := by decide +kernel
theorem dX11_fewest_39 : decode cX11_fewest 39 = .ok (.iload_n 3, 1) := by decide +kernel
theorem dX11_fewest_40 : decode cX11_fewest 40 = .ok (.ifCond .ge 6, 3) := by decide +kernel
theorem dX11_fewest_43 : decode cX11_fewest 43 = .ok (.bipush (-9), 2) := by decide +kernel
theorem dX11_fewest_45 : decode cX11_fewest 45 = .ok (.ireturn, 1) := by decide +kernel
theorem dX11_fewest_46 : decode cX11_fewest 46 = .ok (.iload_n 2, 1) := by decide +kernel
theorem dX11_fewest_47 : decode cX11_fewest 47 = .ok (.ifCond .ne 14, 3) := by decide +kernel
theorem dX11_fewest_50 : decode cX11_fewest 50 = .ok (.aload_n 0, 1) := by decide +kernel
theorem dX11_fewest_51 : decode cX11_fewest 51 = .ok (.getfield 40, 3) := by decide +kernel
theorem dX11_fewest_54 : decode cX11_fewest 54 = .ok (.iload_n 3, 1) := by decide +kernel
theorem dX11_fewest_55 : decode cX11_fewest 55 = .ok (.invokevirtual 222, 3) := by decide +kernel
theorem dX11_fewest_58 : decode cX11_fewest 58 = .ok (.goto 11, 3) := by decide +kernel
theorem dX11_fewest_61 : decode cX11_fewest 61 = .ok (.aload_n 0, 1) := by decide +kernel
theorem dX11_fewest_62 : decode cX11_fewest 62 = .ok (.getfield 40, 3) := by decide +kernel
theorem dX11_fewest_65 : decode cX11_fewest 65 = .ok (.iload_n 3, 1) := by decide +kernel
theorem dX11_fewest_66 : decode cX11_fewest 66 = .ok (.invokevirtual 216, 3) := by decide +kernel
theorem dX11_fewest_69 : decode cX11_fewest 69 = .ok (.ireturn, 1) := by decide +kernel
theorem dX11_mind_0 : decode cX11_mind 0 = .ok (.iload_n 1, 1) := by decide +kernel
theorem dX11_mind_1 : decode cX11_mind 1 = .ok (.invokestatic 225, 3) := by decide +kernel
theorem dX11_mind_4 : decode cX11_mind 4 = .ok (.ifCond .eq 10, 3) := by decide +kernel
theorem dX11_mind_7 : decode cX11_mind 7 = .ok (.iload_n 2, 1) := by decide +kernel
theorem dX11_mind_8 : decode cX11_mind 8 = .ok (.invokestatic 204, 3) := by decide +kernel
theorem dX11_mind_11 : decode cX11_mind 11 = .ok (.ifCond .ne 5, 3) := by decide +kernel
theorem dX11_mind_14 : decode cX11_mind 14 = .ok (.iconst (-1), 1) := by decide +kernel
theorem dX11_mind_15 : decode cX11_mind 15 = .ok (.ireturn, 1) := by decide +kernel
theorem dX11_mind_16 : decode cX11_mind 16 = .ok (.aload_n 0, 1) := by decide +kernel
theorem dX11_mind_17 : decode cX11_mind 17 = .ok (.getfield 40, 3) := by decide +kernel
theorem dX11_mind_20 : decode cX11_mind 20 = .ok (.aload_n 0, 1) := by decide +kernel
theorem dX11_mind_21 : decode cX11_mind 21 = .ok (.getfield 19, 3) := by decide +kernel
theorem dX11_mind_24 : decode cX11_mind 24 = .ok (.invokevirtual 207, 3) := by decide +kernel
theorem dX11_mind_27 : decode cX11_mind 27 = .ok (.aload_n 0, 1) := by decide +kernel
theorem dX11_mind_28 : decode cX11_mind 28 = .ok (.getfield 40, 3) := by decide +kernel
theorem dX11_mind_31 : decode cX11_mind 31 = .ok (.iload_n 1, 1) := by decide +kernel
theorem dX11_mind_32 : decode cX11_mind 32 = .ok (.invokevirtual 228, 3) := by decide +kernel
theorem dX11_mind_35 : decode cX11_mind 35 = .ok (.istore_n 3, 1) := by decide +kernel
theorem dX11_mind_36 : decode cX11_mind 36 = .ok (.iload_n 3, 1) := by decide +kernel
theorem dX11_mind_37 : decode cX11_mind 37 = .ok (.ifCond .ge 6, 3) := by decide +kernel
theorem dX11_mind_40 : decode cX11_mind 40 = .ok (.bipush (-9), 2) := by decide +kernel
theorem dX11_mind_42 : decode cX11_mind 42 = .ok (.ireturn, 1) := by decide +kernel
theorem dX11_mind_43 : decode cX11_mind 43 = .ok (.iload_n 2, 1) := by decide +kernel
theorem dX11_mind_44 : decode cX11_mind 44 = .ok (.ifCond .ne 15, 3) := by decide +kernel
theorem dX11_mind_47 : decode cX11_mind 47 = .ok (.aload_n 0, 1) := by decide +kernel
theorem dX11_mind_48 : decode cX11_mind 48 = .ok (.getfield 40, 3) := by decide +kernel
theorem dX11_mind_51 : decode cX11_mind 51 = .ok (.iload_n 3, 1) := by decide +kernel
theorem dX11_mind_52 : decode cX11_mind 52 = .ok (.iload_n 1, 1) := by decide +kernel
theorem dX11_mind_53 : decode cX11_mind 53 = .ok (.invokevirtual 231, 3) := by decide +kernel
theorem dX11_mind_56 : decode cX11_mind 56 = .ok (.goto 11, 3) := by decide +kernel
theorem dX11_mind_59 : decode cX11_mind 59 = .ok (.aload_n 0, 1) := by decide +kernel
theorem dX11_mind_60 : decode cX11_mind 60 = .ok (.getfield 40, 3) := by decide +kernel
theorem dX11_mind_63 : decode cX11_mind 63 = .ok (.iload_n 3, 1) := by decide +kernel
theorem dX11_mind_64 : decode cX11_mind 64 = .ok (.invokevirtual 216, 3) := by decide +kernel
theorem dX11_mind_67 : decode cX11_mind 67 = .ok (.ireturn, 1) := by decide +kernel
theorem dX11_bars_0 : decode cX11_bars 0 = .ok (.iload_n 1, 1) := by decide +kernel
theorem dX11_bars_1 : decode cX11_bars 1 = .ok (.invokestatic 225, 3) := by decide +kernel
theorem dX11_bars_4 : decode cX11_bars 4 = .ok (.ifCond .ne 5, 3) := by decide +kernel
theorem dX11_bars_7 : decode cX11_bars 7 = .ok (.iconst (-1), 1) := by decide +kernel
theorem dX11_bars_8 : decode cX11_bars 8 = .ok (.ireturn, 1) := by decide +kernel
theorem dX11_bars_9 : decode cX11_bars 9 = .ok (.aload_n 0, 1) := by decide +kernel
theorem dX11_bars_10 : decode cX11_bars 10 = .ok (.getfield 40, 3) := by decide +kernel
theorem dX11_bars_13 : decode cX11_bars 13 = .ok (.aload_n 0, 1) := by decide +kernel
theorem dX11_bars_14 : decode cX11_bars 14 = .ok (.getfield 19, 3) := by decide +kernel
theorem dX11_bars_17 : decode cX11_bars 17 = .ok (.invokevirtual 207, 3) := by decide +kernel
theorem dX11_bars_20 : decode cX11_bars 20 = .ok (.aload_n 0, 1) := by decide +kernel
theorem dX11_bars_21 : decode cX11_bars 21 = .ok (.getfield 40, 3) := by decide +kernel
theorem dX11_bars_24 : decode cX11_bars 24 = .ok (.iload_n 1, 1) := by decide +kernel
theorem dX11_bars_25 : decode cX11_bars 25 = .ok (.invokevirtual 235, 3) := by decide +kernel
theorem dX11_bars_28 : decode cX11_bars 28 = .ok (.invokestatic 238, 3) := by decide +kernel
theorem dX11_bars_31 : decode cX11_bars 31 = .ok (.ireturn, 1) := by decide +kernel
theorem dX11_longer_0 : decode cX11_longer 0 = .ok (.aload_n 0, 1) := by decide +kernel
theorem dX11_longer_1 : decode cX11_longer 1 = .ok (.getfield 40, 3) := by decide +kernel
theorem dX11_longer_4 : decode cX11_longer 4 = .ok (.aload_n 0, 1) := by decide +kernel
theorem dX11_longer_5 : decode cX11_longer 5 = .ok (.getfield 19, 3) := by decide +kernel
theorem dX11_longer_8 : decode cX11_longer 8 = .ok (.invokevirtual 241, 3) := by decide +kernel
theorem dX11_longer_11 : decode cX11_longer 11 = .ok (.istore_n 1, 1) := by decide +kernel
theorem dX11_longer_12 : decode cX11_longer 12 = .ok (.aload_n 0, 1) := by decide +kernel
theorem dX11_longer_13 : decode cX11_longer 13 = .ok (.getfield 40, 3) := by decide +kernel
theorem dX11_longer_16 : decode cX11_longer 16 = .ok (.aload_n 0, 1) := by decide +kernel
theorem dX11_longer_17 : decode cX11_longer 17 = .ok (.getfield 19, 3) := by decide +kernel
theorem dX11_longer_20 : decode cX11_longer 20 = .ok (.invokevirtual 207, 3) := by decide +kernel
theorem dX11_longer_23 : decode cX11_longer 23 = .ok (.iload_n 1, 1) := by decide +kernel
theorem dX11_longer_24 : decode cX11_longer 24 = .ok (.aload_n 0, 1) := by decide +kernel
theorem dX11_longer_25 : decode cX11_longer 25 = .ok (.getfield 40, 3) := by decide +kernel
theorem dX11_longer_28 : decode cX11_longer 28 = .ok (.aload_n 0, 1) := by decide +kernel
theorem dX11_longer_29 : decode cX11_longer 29 = .ok (.getfield 40, 3) := by decide +kernel
theorem dX11_longer_32 : decode cX11_longer 32 = .ok (.invokevirtual 210, 3) := by decide +kernel
theorem dX11_longer_35 : decode cX11_longer 35 = .ok (.invokevirtual 213, 3) := by decide +kernel
theorem dX11_longer_38 : decode cX11_longer 38 = .ok (.isub, 1) := by decide +kernel
theorem dX11_longer_39 : decode cX11_longer 39 = .ok (.ireturn, 1) := by decide +kernel
theorem dX11_heard_0 : decode cX11_heard 0 = .ok (.iload_n 1, 1) := by decide +kernel
theorem dX11_heard_1 : decode cX11_heard 1 = .ok (.invokestatic 225, 3) := by decide +kernel
theorem dX11_heard_4 : decode cX11_heard 4 = .ok (.ifCond .eq 13, 3) := by decide +kernel
theorem dX11_heard_7 : decode cX11_heard 7 = .ok (.iload_n 2, 1) := by decide +kernel
theorem dX11_heard_8 : decode cX11_heard 8 = .ok (.ifCond .lt 9, 3) := by decide +kernel
theorem dX11_heard_11 : decode cX11_heard 11 = .ok (.iload_n 2, 1) := by decide +kernel
theorem dX11_heard_12 : decode cX11_heard 12 = .ok (.bipush 6, 2) := by decide +kernel
theorem dX11_heard_14 : decode cX11_heard 14 = .ok (.if_icmp .le 5, 3) := by decide +kernel
theorem dX11_heard_17 : decode cX11_heard 17 = .ok (.iconst (-1), 1) := by decide +kernel
theorem dX11_heard_18 : decode cX11_heard 18 = .ok (.ireturn, 1) := by decide +kernel
theorem dX11_heard_19 : decode cX11_heard 19 = .ok (.aload_n 0, 1) := by decide +kernel
theorem dX11_heard_20 : decode cX11_heard 20 = .ok (.getfield 244, 3) := by decide +kernel
theorem dX11_heard_23 : decode cX11_heard 23 = .ok (.ifCond .lt 12, 3) := by decide +kernel
theorem dX11_heard_26 : decode cX11_heard 26 = .ok (.aload_n 0, 1) := by decide +kernel
theorem dX11_heard_27 : decode cX11_heard 27 = .ok (.getfield 244, 3) := by decide +kernel
theorem dX11_heard_30 : decode cX11_heard 30 = .ok (.bipush 6, 2) := by decide +kernel
theorem dX11_heard_32 : decode cX11_heard 32 = .ok (.if_icmp .lt 6, 3) := by decide +kernel
theorem dX11_heard_35 : decode cX11_heard 35 = .ok (.bipush (-3), 2) := by decide +kernel
theorem dX11_heard_37 : decode cX11_heard 37 = .ok (.ireturn, 1) := by decide +kernel
theorem dX11_heard_38 : decode cX11_heard 38 = .ok (.aload_n 0, 1) := by decide +kernel
theorem dX11_heard_39 : decode cX11_heard 39 = .ok (.getfield 44, 3) := by decide +kernel
theorem dX11_heard_42 : decode cX11_heard 42 = .ok (.aload_n 0, 1) := by decide +kernel
theorem dX11_heard_43 : decode cX11_heard 43 = .ok (.getfield 244, 3) := by decide +kernel
theorem dX11_heard_46 : decode cX11_heard 46 = .ok (.iload_n 1, 1) := by decide +kernel
theorem dX11_heard_47 : decode cX11_heard 47 = .ok (.iastore, 1) := by decide +kernel
theorem dX11_heard_48 : decode cX11_heard 48 = .ok (.aload_n 0, 1) := by decide +kernel
theorem dX11_heard_49 : decode cX11_heard 49 = .ok (.getfield 48, 3) := by decide +kernel
theorem dX11_heard_52 : decode cX11_heard 52 = .ok (.aload_n 0, 1) := by decide +kernel
theorem dX11_heard_53 : decode cX11_heard 53 = .ok (.getfield 244, 3) := by decide +kernel
theorem dX11_heard_56 : decode cX11_heard 56 = .ok (.iload_n 2, 1) := by decide +kernel
theorem dX11_heard_57 : decode cX11_heard 57 = .ok (.iastore, 1) := by decide +kernel
theorem dX11_heard_58 : decode cX11_heard 58 = .ok (.aload_n 0, 1) := by decide +kernel
theorem dX11_heard_59 : decode cX11_heard 59 = .ok (.dup, 1) := by decide +kernel
theorem dX11_heard_60 : decode cX11_heard 60 = .ok (.getfield 244, 3) := by decide +kernel
theorem dX11_heard_63 : decode cX11_heard 63 = .ok (.iconst 1, 1) := by decide +kernel
theorem dX11_heard_64 : decode cX11_heard 64 = .ok (.iadd, 1) := by decide +kernel
theorem dX11_heard_65 : decode cX11_heard 65 = .ok (.putfield 244, 3) := by decide +kernel
theorem dX11_heard_68 : decode cX11_heard 68 = .ok (.aload_n 0, 1) := by decide +kernel
theorem dX11_heard_69 : decode cX11_heard 69 = .ok (.getfield 244, 3) := by decide +kernel
theorem dX11_heard_72 : decode cX11_heard 72 = .ok (.ireturn, 1) := by decide +kernel
theorem dX11_forget_0 : decode cX11_forget 0 = .ok (.aload_n 0, 1) := by decide +kernel
theorem dX11_forget_1 : decode cX11_forget 1 = .ok (.getfield 244, 3) := by decide +kernel
theorem dX11_forget_4 : decode cX11_forget 4 = .ok (.istore_n 1, 1) := by decide +kernel
theorem dX11_forget_5 : decode cX11_forget 5 = .ok (.aload_n 0, 1) := by decide +kernel
theorem dX11_forget_6 : decode cX11_forget 6 = .ok (.iconst 0, 1) := by decide +kernel
theorem dX11_forget_7 : decode cX11_forget 7 = .ok (.putfield 244, 3) := by decide +kernel
theorem dX11_forget_10 : decode cX11_forget 10 = .ok (.iload_n 1, 1) := by decide +kernel
theorem dX11_forget_11 : decode cX11_forget 11 = .ok (.ireturn, 1) := by decide +kernel
theorem dX11_orders_0 : decode cX11_orders 0 = .ok (.iload_n 1, 1) := by decide +kernel
theorem dX11_orders_1 : decode cX11_orders 1 = .ok (.invokestatic 204, 3) := by decide +kernel
theorem dX11_orders_4 : decode cX11_orders 4 = .ok (.ifCond .ne 5, 3) := by decide +kernel
theorem dX11_orders_7 : decode cX11_orders 7 = .ok (.iconst (-1), 1) := by decide +kernel
theorem dX11_orders_8 : decode cX11_orders 8 = .ok (.ireturn, 1) := by decide +kernel
theorem dX11_orders_9 : decode cX11_orders 9 = .ok (.aload_n 0, 1) := by decide +kernel
theorem dX11_orders_10 : decode cX11_orders 10 = .ok (.getfield 40, 3) := by decide +kernel
theorem dX11_orders_13 : decode cX11_orders 13 = .ok (.aload_n 0, 1) := by decide +kernel
theorem dX11_orders_14 : decode cX11_orders 14 = .ok (.getfield 19, 3) := by decide +kernel
theorem dX11_orders_17 : decode cX11_orders 17 = .ok (.invokevirtual 207, 3) := by decide +kernel
theorem dX11_orders_20 : decode cX11_orders 20 = .ok (.iconst 0, 1) := by decide +kernel
theorem dX11_orders_21 : decode cX11_orders 21 = .ok (.istore_n 2, 1) := by decide +kernel
theorem dX11_orders_22 : decode cX11_orders 22 = .ok (.iconst 0, 1) := by decide +kernel
theorem dX11_orders_23 : decode cX11_orders 23 = .ok (.istore_n 3, 1) := by decide +kernel
theorem dX11_orders_24 : decode cX11_orders 24 = .ok (.aload_n 0, 1) := by decide +kernel
theorem dX11_orders_25 : decode cX11_orders 25 = .ok (.getfield 40, 3) := by decide +kernel
theorem dX11_orders_28 : decode cX11_orders 28 = .ok (.getfield 247, 3) := by decide +kernel
theorem dX11_orders_31 : decode cX11_orders 31 = .ok (.istore 4, 2) := by decide +kernel
theorem dX11_orders_33 : decode cX11_orders 33 = .ok (.iload 4, 2) := by decide +kernel
theorem dX11_orders_35 : decode cX11_orders 35 = .ok (.aload_n 0, 1) := by decide +kernel
theorem dX11_orders_36 : decode cX11_orders 36 = .ok (.getfield 40, 3) := by decide +kernel
theorem dX11_orders_39 : decode cX11_orders 39 = .ok (.getfield 250, 3) := by decide +kernel
theorem dX11_orders_42 : decode cX11_orders 42 = .ok (.if_icmp .ge 39, 3) := by decide +kernel
theorem dX11_orders_45 : decode cX11_orders 45 = .ok (.aload_n 0, 1) := by decide +kernel
theorem dX11_orders_46 : decode cX11_orders 46 = .ok (.iload 4, 2) := by decide +kernel
theorem dX11_orders_48 : decode cX11_orders 48 = .ok (.invokevirtual 253, 3) := by decide +kernel
theorem dX11_orders_51 : decode cX11_orders 51 = .ok (.ifCond .eq 24, 3) := by decide +kernel
theorem dX11_orders_54 : decode cX11_orders 54 = .ok (.iload_n 2, 1) := by decide +kernel
theorem dX11_orders_55 : decode cX11_orders 55 = .ok (.ifCond .ne 15, 3) := by decide +kernel
theorem dX11_orders_58 : decode cX11_orders 58 = .ok (.aload_n 0, 1) := by decide +kernel
theorem dX11_orders_59 : decode cX11_orders 59 = .ok (.getfield 40, 3) := by decide +kernel
theorem dX11_orders_62 : decode cX11_orders 62 = .ok (.iload 4, 2) := by decide +kernel
theorem dX11_orders_64 : decode cX11_orders 64 = .ok (.invokevirtual 216, 3) := by decide +kernel
theorem dX11_orders_67 : decode cX11_orders 67 = .ok (.goto 4, 3) := by decide +kernel
theorem dX11_orders_70 : decode cX11_orders 70 = .ok (.iload_n 3, 1) := by decide +kernel
theorem dX11_orders_71 : decode cX11_orders 71 = .ok (.istore_n 3, 1) := by decide +kernel
theorem dX11_orders_72 : decode cX11_orders 72 = .ok (.iinc 2 1, 3) := by decide +kernel
theorem dX11_orders_75 : decode cX11_orders 75 = .ok (.iinc 4 1, 3) := by decide +kernel
theorem dX11_orders_78 : decode cX11_orders 78 = .ok (.goto (-45), 3) := by decide +kernel
theorem dX11_orders_81 : decode cX11_orders 81 = .ok (.iload_n 1, 1) := by decide +kernel
theorem dX11_orders_82 : decode cX11_orders 82 = .ok (.ifCond .ne 7, 3) := by decide +kernel
theorem dX11_orders_85 : decode cX11_orders 85 = .ok (.iload_n 2, 1) := by decide +kernel
theorem dX11_orders_86 : decode cX11_orders 86 = .ok (.goto 4, 3) := by decide +kernel
theorem dX11_orders_89 : decode cX11_orders 89 = .ok (.iload_n 3, 1) := by decide +kernel
theorem dX11_orders_90 : decode cX11_orders 90 = .ok (.ireturn, 1) := by decide +kernel
theorem dX11_surely_0 : decode cX11_surely 0 = .ok (.iload_n 1, 1) := by decide +kernel
theorem dX11_surely_1 : decode cX11_surely 1 = .ok (.invokestatic 225, 3) := by decide +kernel
theorem dX11_surely_4 : decode cX11_surely 4 = .ok (.ifCond .ne 5, 3) := by decide +kernel
theorem dX11_surely_7 : decode cX11_surely 7 = .ok (.iconst (-1), 1) := by decide +kernel
theorem dX11_surely_8 : decode cX11_surely 8 = .ok (.ireturn, 1) := by decide +kernel
theorem dX11_surely_9 : decode cX11_surely 9 = .ok (.aload_n 0, 1) := by decide +kernel
theorem dX11_surely_10 : decode cX11_surely 10 = .ok (.getfield 40, 3) := by decide +kernel
theorem dX11_surely_13 : decode cX11_surely 13 = .ok (.aload_n 0, 1) := by decide +kernel
theorem dX11_surely_14 : decode cX11_surely 14 = .ok (.getfield 19, 3) := by decide +kernel
theorem dX11_surely_17 : decode cX11_surely 17 = .ok (.invokevirtual 207, 3) := by decide +kernel
theorem dX11_surely_20 : decode cX11_surely 20 = .ok (.bipush (-9), 2) := by decide +kernel
theorem dX11_surely_22 : decode cX11_surely 22 = .ok (.istore_n 2, 1) := by decide +kernel
theorem dX11_surely_23 : decode cX11_surely 23 = .ok (.aload_n 0, 1) := by decide +kernel
theorem dX11_surely_24 : decode cX11_surely 24 = .ok (.getfield 40, 3) := by decide +kernel
theorem dX11_surely_27 : decode cX11_surely 27 = .ok (.getfield 247, 3) := by decide +kernel
theorem dX11_surely_30 : decode cX11_surely 30 = .ok (.istore_n 3, 1) := by decide +kernel
theorem dX11_surely_31 : decode cX11_surely 31 = .ok (.iload_n 3, 1) := by decide +kernel
theorem dX11_surely_32 : decode cX11_surely 32 = .ok (.aload_n 0, 1) := by decide +kernel
theorem dX11_surely_33 : decode cX11_surely 33 = .ok (.getfield 40, 3) := by decide +kernel
theorem dX11_surely_36 : decode cX11_surely 36 = .ok (.getfield 250, 3) := by decide +kernel
theorem dX11_surely_39 : decode cX11_surely 39 = .ok (.if_icmp .ge 56, 3) := by decide +kernel
theorem dX11_surely_42 : decode cX11_surely 42 = .ok (.aload_n 0, 1) := by decide +kernel
theorem dX11_surely_43 : decode cX11_surely 43 = .ok (.getfield 40, 3) := by decide +kernel
theorem dX11_surely_46 : decode cX11_surely 46 = .ok (.iload_n 3, 1) := by decide +kernel
theorem dX11_surely_47 : decode cX11_surely 47 = .ok (.invokevirtual 213, 3) := by decide +kernel
theorem dX11_surely_50 : decode cX11_surely 50 = .ok (.iload_n 1, 1) := by decide +kernel
theorem dX11_surely_51 : decode cX11_surely 51 = .ok (.if_icmp .lt 38, 3) := by decide +kernel
theorem dX11_surely_54 : decode cX11_surely 54 = .ok (.aload_n 0, 1) := by decide +kernel
theorem dX11_surely_55 : decode cX11_surely 55 = .ok (.iload_n 3, 1) := by decide +kernel
theorem dX11_surely_56 : decode cX11_surely 56 = .ok (.invokevirtual 253, 3) := by decide +kernel
theorem dX11_surely_59 : decode cX11_surely 59 = .ok (.ifCond .eq 30, 3) := by decide +kernel
theorem dX11_surely_62 : decode cX11_surely 62 = .ok (.aload_n 0, 1) := by decide +kernel
theorem dX11_surely_63 : decode cX11_surely 63 = .ok (.getfield 40, 3) := by decide +kernel
theorem dX11_surely_66 : decode cX11_surely 66 = .ok (.iload_n 3, 1) := by decide +kernel
theorem dX11_surely_67 : decode cX11_surely 67 = .ok (.iload_n 1, 1) := by decide +kernel
theorem dX11_surely_68 : decode cX11_surely 68 = .ok (.invokevirtual 256, 3) := by decide +kernel
theorem dX11_surely_71 : decode cX11_surely 71 = .ok (.istore 4, 2) := by decide +kernel
theorem dX11_surely_73 : decode cX11_surely 73 = .ok (.iload_n 2, 1) := by decide +kernel
theorem dX11_surely_74 : decode cX11_surely 74 = .ok (.bipush (-9), 2) := by decide +kernel
theorem dX11_surely_76 : decode cX11_surely 76 = .ok (.if_icmp .ne 8, 3) := by decide +kernel
theorem dX11_surely_79 : decode cX11_surely 79 = .ok (.iload 4, 2) := by decide +kernel
theorem dX11_surely_81 : decode cX11_surely 81 = .ok (.goto 7, 3) := by decide +kernel
theorem dX11_surely_84 : decode cX11_surely 84 = .ok (.iload_n 2, 1) := by decide +kernel
theorem dX11_surely_85 : decode cX11_surely 85 = .ok (.iload 4, 2) := by decide +kernel
theorem dX11_surely_87 : decode cX11_surely 87 = .ok (.iand, 1) := by decide +kernel
theorem dX11_surely_88 : decode cX11_surely 88 = .ok (.istore_n 2, 1) := by decide +kernel
theorem dX11_surely_89 : decode cX11_surely 89 = .ok (.iinc 3 1, 3) := by decide +kernel
theorem dX11_surely_92 : decode cX11_surely 92 = .ok (.goto (-61), 3) := by decide +kernel
theorem dX11_surely_95 : decode cX11_surely 95 = .ok (.iload_n 2, 1) := by decide +kernel
theorem dX11_surely_96 : decode cX11_surely 96 = .ok (.ireturn, 1) := by decide +kernel
theorem dX11_odds_0 : decode cX11_odds 0 = .ok (.iload_n 1, 1) := by decide +kernel
theorem dX11_odds_1 : decode cX11_odds 1 = .ok (.ifCond .lt 26, 3) := by decide +kernel
theorem dX11_odds_4 : decode cX11_odds 4 = .ok (.iload_n 1, 1) := by decide +kernel
theorem dX11_odds_5 : decode cX11_odds 5 = .ok (.bipush 10, 2) := by decide +kernel
theorem dX11_odds_7 : decode cX11_odds 7 = .ok (.if_icmp .gt 20, 3) := by decide +kernel
theorem dX11_odds_10 : decode cX11_odds 10 = .ok (.iload_n 2, 1) := by decide +kernel
theorem dX11_odds_11 : decode cX11_odds 11 = .ok (.ifCond .lt 16, 3) := by decide +kernel
theorem dX11_odds_14 : decode cX11_odds 14 = .ok (.iload_n 2, 1) := by decide +kernel
theorem dX11_odds_15 : decode cX11_odds 15 = .ok (.bipush 9, 2) := by decide +kernel
theorem dX11_odds_17 : decode cX11_odds 17 = .ok (.if_icmp .gt 10, 3) := by decide +kernel
theorem dX11_odds_20 : decode cX11_odds 20 = .ok (.iload_n 3, 1) := by decide +kernel
theorem dX11_odds_21 : decode cX11_odds 21 = .ok (.invokestatic 204, 3) := by decide +kernel
theorem dX11_odds_24 : decode cX11_odds 24 = .ok (.ifCond .ne 7, 3) := by decide +kernel
theorem dX11_odds_27 : decode cX11_odds 27 = .ok (.ldc2_w 259, 3) := by decide +kernel
theorem dX11_odds_30 : decode cX11_odds 30 = .ok (.lreturn, 1) := by decide +kernel
theorem dX11_odds_31 : decode cX11_odds 31 = .ok (.bipush 10, 2) := by decide +kernel
theorem dX11_odds_33 : decode cX11_odds 33 = .ok (.bipush 10, 2) := by decide +kernel
theorem dX11_odds_35 : decode cX11_odds 35 = .ok (.iload_n 1, 1) := by decide +kernel
theorem dX11_odds_36 : decode cX11_odds 36 = .ok (.isub, 1) := by decide +kernel
theorem dX11_odds_37 : decode cX11_odds 37 = .ok (.invokestatic 261, 3) := by decide +kernel
theorem dX11_odds_40 : decode cX11_odds 40 = .ok (.istore 4, 2) := by decide +kernel
theorem dX11_odds_42 : decode cX11_odds 42 = .ok (.iload_n 3, 1) := by decide +kernel
theorem dX11_odds_43 : decode cX11_odds 43 = .ok (.ifCond .ne 10, 3) := by decide +kernel
theorem dX11_odds_46 : decode cX11_odds 46 = .ok (.bipush 10, 2) := by decide +kernel
theorem dX11_odds_48 : decode cX11_odds 48 = .ok (.iload_n 1, 1) := by decide +kernel
theorem dX11_odds_49 : decode cX11_odds 49 = .ok (.isub, 1) := by decide +kernel
theorem dX11_odds_50 : decode cX11_odds 50 = .ok (.goto 5, 3) := by decide +kernel
theorem dX11_odds_53 : decode cX11_odds 53 = .ok (.bipush 10, 2) := by decide +kernel
theorem dX11_odds_55 : decode cX11_odds 55 = .ok (.iload 4, 2) := by decide +kernel
theorem dX11_odds_57 : decode cX11_odds 57 = .ok (.iconst 1, 1) := by decide +kernel
theorem dX11_odds_58 : decode cX11_odds 58 = .ok (.invokestatic 264, 3) := by decide +kernel
theorem dX11_odds_61 : decode cX11_odds 61 = .ok (.idiv, 1) := by decide +kernel
theorem dX11_odds_62 : decode cX11_odds 62 = .ok (.istore 5, 2) := by decide +kernel
theorem dX11_odds_64 : decode cX11_odds 64 = .ok (.lconst 1, 1) := by decide +kernel
theorem dX11_odds_65 : decode cX11_odds 65 = .ok (.lstore 6, 2) := by decide +kernel
theorem dX11_odds_67 : decode cX11_odds 67 = .ok (.iconst 0, 1) := by decide +kernel
theorem dX11_odds_68 : decode cX11_odds 68 = .ok (.istore 8, 2) := by decide +kernel
theorem dX11_odds_70 : decode cX11_odds 70 = .ok (.iload 8, 2) := by decide +kernel
theorem dX11_odds_72 : decode cX11_odds 72 = .ok (.iload_n 2, 1) := by decide +kernel
theorem dX11_odds_73 : decode cX11_odds 73 = .ok (.if_icmp .ge 17, 3) := by decide +kernel
theorem dX11_odds_76 : decode cX11_odds 76 = .ok (.lload 6, 2) := by decide +kernel
theorem dX11_odds_78 : decode cX11_odds 78 = .ok (.iload 5, 2) := by decide +kernel
theorem dX11_odds_80 : decode cX11_odds 80 = .ok (.i2l, 1) := by decide +kernel
theorem dX11_odds_81 : decode cX11_odds 81 = .ok (.lmul, 1) := by decide +kernel
theorem dX11_odds_82 : decode cX11_odds 82 = .ok (.lstore 6, 2) := by decide +kernel
theorem dX11_odds_84 : decode cX11_odds 84 = .ok (.iinc 8 1, 3) := by decide +kernel
theorem dX11_odds_87 : decode cX11_odds 87 = .ok (.goto (-17), 3) := by decide +kernel
theorem dX11_odds_90 : decode cX11_odds 90 = .ok (.lload 6, 2) := by decide +kernel
theorem dX11_odds_92 : decode cX11_odds 92 = .ok (.lreturn, 1) := by decide +kernel
theorem dX11_mark_0 : decode cX11_mark 0 = .ok (.iload_n 1, 1) := by decide +kernel
theorem dX11_mark_1 : decode cX11_mark 1 = .ok (.ifCond .lt 23, 3) := by decide +kernel
theorem dX11_mark_4 : decode cX11_mark 4 = .ok (.iload_n 1, 1) := by decide +kernel
theorem dX11_mark_5 : decode cX11_mark 5 = .ok (.aload_n 0, 1) := by decide +kernel
theorem dX11_mark_6 : decode cX11_mark 6 = .ok (.getfield 69, 3) := by decide +kernel
theorem dX11_mark_9 : decode cX11_mark 9 = .ok (.arraylength, 1) := by decide +kernel
theorem dX11_mark_10 : decode cX11_mark 10 = .ok (.if_icmp .ge 14, 3) := by decide +kernel
theorem dX11_mark_13 : decode cX11_mark 13 = .ok (.aload_n 0, 1) := by decide +kernel
theorem dX11_mark_14 : decode cX11_mark 14 = .ok (.getfield 19, 3) := by decide +kernel
theorem dX11_mark_17 : decode cX11_mark 17 = .ok (.iload_n 2, 1) := by decide +kernel
theorem dX11_mark_18 : decode cX11_mark 18 = .ok (.invokevirtual 99, 3) := by decide +kernel
theorem dX11_mark_21 : decode cX11_mark 21 = .ok (.ifCond .ne 7, 3) := by decide +kernel
theorem dX11_mark_24 : decode cX11_mark 24 = .ok (.ldc_w 269, 3) := by decide +kernel
theorem dX11_mark_27 : decode cX11_mark 27 = .ok (.ireturn, 1) := by decide +kernel
theorem dX11_mark_28 : decode cX11_mark 28 = .ok (.aload_n 0, 1) := by decide +kernel
theorem dX11_mark_29 : decode cX11_mark 29 = .ok (.getfield 69, 3) := by decide +kernel
theorem dX11_mark_32 : decode cX11_mark 32 = .ok (.iload_n 1, 1) := by decide +kernel
theorem dX11_mark_33 : decode cX11_mark 33 = .ok (.aaload, 1) := by decide +kernel
theorem dX11_mark_34 : decode cX11_mark 34 = .ok (.aload_n 0, 1) := by decide +kernel
theorem dX11_mark_35 : decode cX11_mark 35 = .ok (.getfield 19, 3) := by decide +kernel
theorem dX11_mark_38 : decode cX11_mark 38 = .ok (.aload_n 0, 1) := by decide +kernel
theorem dX11_mark_39 : decode cX11_mark 39 = .ok (.getfield 29, 3) := by decide +kernel
theorem dX11_mark_42 : decode cX11_mark 42 = .ok (.getfield 102, 3) := by decide +kernel
theorem dX11_mark_45 : decode cX11_mark 45 = .ok (.iload_n 2, 1) := by decide +kernel
theorem dX11_mark_46 : decode cX11_mark 46 = .ok (.invokevirtual 270, 3) := by decide +kernel
theorem dX11_mark_49 : decode cX11_mark 49 = .ok (.ireturn, 1) := by decide +kernel
theorem dX11_keep_0 : decode cX11_keep 0 = .ok (.iload_n 1, 1) := by decide +kernel
theorem dX11_keep_1 : decode cX11_keep 1 = .ok (.invokestatic 274, 3) := by decide +kernel
theorem dX11_keep_4 : decode cX11_keep 4 = .ok (.ifCond .ne 5, 3) := by decide +kernel
theorem dX11_keep_7 : decode cX11_keep 7 = .ok (.iconst (-1), 1) := by decide +kernel
theorem dX11_keep_8 : decode cX11_keep 8 = .ok (.ireturn, 1) := by decide +kernel
theorem dX11_keep_9 : decode cX11_keep 9 = .ok (.aload_n 0, 1) := by decide +kernel
theorem dX11_keep_10 : decode cX11_keep 10 = .ok (.getfield 33, 3) := by decide +kernel
theorem dX11_keep_13 : decode cX11_keep 13 = .ok (.iload_n 1, 1) := by decide +kernel
theorem dX11_keep_14 : decode cX11_keep 14 = .ok (.aaload, 1) := by decide +kernel
theorem dX11_keep_15 : decode cX11_keep 15 = .ok (.aload_n 0, 1) := by decide +kernel
theorem dX11_keep_16 : decode cX11_keep 16 = .ok (.getfield 29, 3) := by decide +kernel
theorem dX11_keep_19 : decode cX11_keep 19 = .ok (.invokevirtual 277, 3) := by decide +kernel
theorem dX11_keep_22 : decode cX11_keep 22 = .ok (.aload_n 0, 1) := by decide +kernel
theorem dX11_keep_23 : decode cX11_keep 23 = .ok (.dup, 1) := by decide +kernel
theorem dX11_keep_24 : decode cX11_keep 24 = .ok (.getfield 280, 3) := by decide +kernel
theorem dX11_keep_27 : decode cX11_keep 27 = .ok (.iconst 1, 1) := by decide +kernel
theorem dX11_keep_28 : decode cX11_keep 28 = .ok (.iload_n 1, 1) := by decide +kernel
theorem dX11_keep_29 : decode cX11_keep 29 = .ok (.ishl, 1) := by decide +kernel
theorem dX11_keep_30 : decode cX11_keep 30 = .ok (.ior, 1) := by decide +kernel
theorem dX11_keep_31 : decode cX11_keep 31 = .ok (.putfield 280, 3) := by decide +kernel
theorem dX11_keep_34 : decode cX11_keep 34 = .ok (.aload_n 0, 1) := by decide +kernel
theorem dX11_keep_35 : decode cX11_keep 35 = .ok (.getfield 29, 3) := by decide +kernel
theorem dX11_keep_38 : decode cX11_keep 38 = .ok (.getfield 102, 3) := by decide +kernel
theorem dX11_keep_41 : decode cX11_keep 41 = .ok (.getfield 174, 3) := by decide +kernel
theorem dX11_keep_44 : decode cX11_keep 44 = .ok (.ireturn, 1) := by decide +kernel
theorem dX11_back_0 : decode cX11_back 0 = .ok (.iload_n 1, 1) := by decide +kernel
theorem dX11_back_1 : decode cX11_back 1 = .ok (.invokestatic 274, 3) := by decide +kernel
theorem dX11_back_4 : decode cX11_back 4 = .ok (.ifCond .ne 5, 3) := by decide +kernel
theorem dX11_back_7 : decode cX11_back 7 = .ok (.iconst (-1), 1) := by decide +kernel
theorem dX11_back_8 : decode cX11_back 8 = .ok (.ireturn, 1) := by decide +kernel
theorem dX11_back_9 : decode cX11_back 9 = .ok (.aload_n 0, 1) := by decide +kernel
theorem dX11_back_10 : decode cX11_back 10 = .ok (.getfield 280, 3) := by decide +kernel
theorem dX11_back_13 : decode cX11_back 13 = .ok (.iload_n 1, 1) := by decide +kernel
theorem dX11_back_14 : decode cX11_back 14 = .ok (.ishr, 1) := by decide +kernel
theorem dX11_back_15 : decode cX11_back 15 = .ok (.iconst 1, 1) := by decide +kernel
theorem dX11_back_16 : decode cX11_back 16 = .ok (.iand, 1) := by decide +kernel
theorem dX11_back_17 : decode cX11_back 17 = .ok (.ifCond .ne 6, 3) := by decide +kernel
theorem dX11_back_20 : decode cX11_back 20 = .ok (.bipush (-2), 2) := by decide +kernel
theorem dX11_back_22 : decode cX11_back 22 = .ok (.ireturn, 1) := by decide +kernel
theorem dX11_back_23 : decode cX11_back 23 = .ok (.aload_n 0, 1) := by decide +kernel
theorem dX11_back_24 : decode cX11_back 24 = .ok (.getfield 29, 3) := by decide +kernel
theorem dX11_back_27 : decode cX11_back 27 = .ok (.aload_n 0, 1) := by decide +kernel
theorem dX11_back_28 : decode cX11_back 28 = .ok (.getfield 33, 3) := by decide +kernel
theorem dX11_back_31 : decode cX11_back 31 = .ok (.iload_n 1, 1) := by decide +kernel
theorem dX11_back_32 : decode cX11_back 32 = .ok (.aaload, 1) := by decide +kernel
theorem dX11_back_33 : decode cX11_back 33 = .ok (.invokevirtual 277, 3) := by decide +kernel
theorem dX11_back_36 : decode cX11_back 36 = .ok (.aload_n 0, 1) := by decide +kernel
theorem dX11_back_37 : decode cX11_back 37 = .ok (.getfield 29, 3) := by decide +kernel
theorem dX11_back_40 : decode cX11_back 40 = .ok (.getfield 102, 3) := by decide +kernel
theorem dX11_back_43 : decode cX11_back 43 = .ok (.getfield 174, 3) := by decide +kernel
theorem dX11_back_46 : decode cX11_back 46 = .ok (.ireturn, 1) := by decide +kernel
theorem dX11_count_0 : decode cX11_count 0 = .ok (.iload_n 1, 1) := by decide +kernel
theorem dX11_count_1 : decode cX11_count 1 = .ok (.tableswitch 96 0 6 #[43, 51, 59, 67, 75, 80, 88], 43) := by decide +kernel
theorem dX11_count_44 : decode cX11_count 44 = .ok (.aload_n 0, 1) := by decide +kernel
theorem dX11_count_45 : decode cX11_count 45 = .ok (.getfield 19, 3) := by decide +kernel
theorem dX11_count_48 : decode cX11_count 48 = .ok (.getfield 194, 3) := by decide +kernel
theorem dX11_count_51 : decode cX11_count 51 = .ok (.ireturn, 1) := by decide +kernel
theorem dX11_count_52 : decode cX11_count 52 = .ok (.aload_n 0, 1) := by decide +kernel
theorem dX11_count_53 : decode cX11_count 53 = .ok (.getfield 19, 3) := by decide +kernel
theorem dX11_count_56 : decode cX11_count 56 = .ok (.getfield 283, 3) := by decide +kernel
theorem dX11_count_59 : decode cX11_count 59 = .ok (.ireturn, 1) := by decide +kernel
theorem dX11_count_60 : decode cX11_count 60 = .ok (.aload_n 0, 1) := by decide +kernel
theorem dX11_count_61 : decode cX11_count 61 = .ok (.getfield 19, 3) := by decide +kernel
theorem dX11_count_64 : decode cX11_count 64 = .ok (.getfield 286, 3) := by decide +kernel
theorem dX11_count_67 : decode cX11_count 67 = .ok (.ireturn, 1) := by decide +kernel
theorem dX11_count_68 : decode cX11_count 68 = .ok (.aload_n 0, 1) := by decide +kernel
theorem dX11_count_69 : decode cX11_count 69 = .ok (.getfield 19, 3) := by decide +kernel
theorem dX11_count_72 : decode cX11_count 72 = .ok (.getfield 289, 3) := by decide +kernel
theorem dX11_count_75 : decode cX11_count 75 = .ok (.ireturn, 1) := by decide +kernel
theorem dX11_count_76 : decode cX11_count 76 = .ok (.aload_n 0, 1) := by decide +kernel
theorem dX11_count_77 : decode cX11_count 77 = .ok (.getfield 244, 3) := by decide +kernel
theorem dX11_count_80 : decode cX11_count 80 = .ok (.ireturn, 1) := by decide +kernel
theorem dX11_count_81 : decode cX11_count 81 = .ok (.aload_n 0, 1) := by decide +kernel
theorem dX11_count_82 : decode cX11_count 82 = .ok (.getfield 29, 3) := by decide +kernel
theorem dX11_count_85 : decode cX11_count 85 = .ok (.getfield 171, 3) := by decide +kernel
theorem dX11_count_88 : decode cX11_count 88 = .ok (.ireturn, 1) := by decide +kernel
theorem dX11_count_89 : decode cX11_count 89 = .ok (.aload_n 0, 1) := by decide +kernel
theorem dX11_count_90 : decode cX11_count 90 = .ok (.getfield 10, 3) := by decide +kernel
theorem dX11_count_93 : decode cX11_count 93 = .ok (.getfield 80, 3) := by decide +kernel
theorem dX11_count_96 : decode cX11_count 96 = .ok (.ireturn, 1) := by decide +kernel
theorem dX11_count_97 : decode cX11_count 97 = .ok (.iconst (-1), 1) := by decide +kernel
theorem dX11_count_98 : decode cX11_count 98 = .ok (.ireturn, 1) := by decide +kernel
theorem dX11_trace_0 : decode cX11_trace 0 = .ok (.lconst 0, 1) := by decide +kernel
theorem dX11_trace_1 : decode cX11_trace 1 = .ok (.lstore_n 1, 1) := by decide +kernel
theorem dX11_trace_2 : decode cX11_trace 2 = .ok (.iconst 0, 1) := by decide +kernel
theorem dX11_trace_3 : decode cX11_trace 3 = .ok (.istore_n 3, 1) := by decide +kernel
theorem dX11_trace_4 : decode cX11_trace 4 = .ok (.iload_n 3, 1) := by decide +kernel
theorem dX11_trace_5 : decode cX11_trace 5 = .ok (.aload_n 0, 1) := by decide +kernel
theorem dX11_trace_6 : decode cX11_trace 6 = .ok (.getfield 69, 3) := by decide +kernel
theorem dX11_trace_9 : decode cX11_trace 9 = .ok (.arraylength, 1) := by decide +kernel
theorem dX11_trace_10 : decode cX11_trace 10 = .ok (.if_icmp .ge 21, 3) := by decide +kernel
theorem dX11_trace_13 : decode cX11_trace 13 = .ok (.lload_n 1, 1) := by decide +kernel
theorem dX11_trace_14 : decode cX11_trace 14 = .ok (.aload_n 0, 1) := by decide +kernel
theorem dX11_trace_15 : decode cX11_trace 15 = .ok (.getfield 69, 3) := by decide +kernel
theorem dX11_trace_18 : decode cX11_trace 18 = .ok (.iload_n 3, 1) := by decide +kernel
theorem dX11_trace_19 : decode cX11_trace 19 = .ok (.aaload, 1) := by decide +kernel
theorem dX11_trace_20 : decode cX11_trace 20 = .ok (.getfield 292, 3) := by decide +kernel
theorem dX11_trace_23 : decode cX11_trace 23 = .ok (.ladd, 1) := by decide +kernel
theorem dX11_trace_24 : decode cX11_trace 24 = .ok (.lstore_n 1, 1) := by decide +kernel
theorem dX11_trace_25 : decode cX11_trace 25 = .ok (.iinc 3 1, 3) := by decide +kernel
theorem dX11_trace_28 : decode cX11_trace 28 = .ok (.goto (-24), 3) := by decide +kernel
theorem dX11_trace_31 : decode cX11_trace 31 = .ok (.lload_n 1, 1) := by decide +kernel
theorem dX11_trace_32 : decode cX11_trace 32 = .ok (.lreturn, 1) := by decide +kernel
theorem dX11_startAnew_0 : decode cX11_startAnew 0 = .ok (.aload_n 0, 1) := by decide +kernel
theorem dX11_startAnew_1 : decode cX11_startAnew 1 = .ok (.getfield 29, 3) := by decide +kernel
theorem dX11_startAnew_4 : decode cX11_startAnew 4 = .ok (.aload_n 0, 1) := by decide +kernel
theorem dX11_startAnew_5 : decode cX11_startAnew 5 = .ok (.getfield 19, 3) := by decide +kernel
theorem dX11_startAnew_8 : decode cX11_startAnew 8 = .ok (.invokevirtual 296, 3) := by decide +kernel
theorem dX11_startAnew_11 : decode cX11_startAnew 11 = .ok (.aload_n 0, 1) := by decide +kernel
theorem dX11_startAnew_12 : decode cX11_startAnew 12 = .ok (.iconst 0, 1) := by decide +kernel
theorem dX11_startAnew_13 : decode cX11_startAnew 13 = .ok (.putfield 280, 3) := by decide +kernel
theorem dX11_startAnew_16 : decode cX11_startAnew 16 = .ok (.aload_n 0, 1) := by decide +kernel
theorem dX11_startAnew_17 : decode cX11_startAnew 17 = .ok (.iconst 0, 1) := by decide +kernel
theorem dX11_startAnew_18 : decode cX11_startAnew 18 = .ok (.putfield 244, 3) := by decide +kernel
theorem dX11_startAnew_21 : decode cX11_startAnew 21 = .ok (.aload_n 0, 1) := by decide +kernel
theorem dX11_startAnew_22 : decode cX11_startAnew 22 = .ok (.getfield 40, 3) := by decide +kernel
theorem dX11_startAnew_25 : decode cX11_startAnew 25 = .ok (.invokevirtual 299, 3) := by decide +kernel
theorem dX11_startAnew_28 : decode cX11_startAnew 28 = .ok (.return_, 1) := by decide +kernel
theorem dX11_isAsHeard_0 : decode cX11_isAsHeard 0 = .ok (.iconst 0, 1) := by decide +kernel
theorem dX11_isAsHeard_1 : decode cX11_isAsHeard 1 = .ok (.istore_n 2, 1) := by decide +kernel
theorem dX11_isAsHeard_2 : decode cX11_isAsHeard 2 = .ok (.iload_n 2, 1) := by decide +kernel
theorem dX11_isAsHeard_3 : decode cX11_isAsHeard 3 = .ok (.aload_n 0, 1) := by decide +kernel
theorem dX11_isAsHeard_4 : decode cX11_isAsHeard 4 = .ok (.getfield 244, 3) := by decide +kernel
theorem dX11_isAsHeard_7 : decode cX11_isAsHeard 7 = .ok (.if_icmp .ge 57, 3) := by decide +kernel
theorem dX11_isAsHeard_10 : decode cX11_isAsHeard 10 = .ok (.iload_n 2, 1) := by decide +kernel
theorem dX11_isAsHeard_11 : decode cX11_isAsHeard 11 = .ok (.bipush 6, 2) := by decide +kernel
theorem dX11_isAsHeard_13 : decode cX11_isAsHeard 13 = .ok (.if_icmp .ge 51, 3) := by decide +kernel
theorem dX11_isAsHeard_16 : decode cX11_isAsHeard 16 = .ok (.aload_n 0, 1) := by decide +kernel
theorem dX11_isAsHeard_17 : decode cX11_isAsHeard 17 = .ok (.getfield 44, 3) := by decide +kernel
theorem dX11_isAsHeard_20 : decode cX11_isAsHeard 20 = .ok (.iload_n 2, 1) := by decide +kernel
theorem dX11_isAsHeard_21 : decode cX11_isAsHeard 21 = .ok (.iaload, 1) := by decide +kernel
theorem dX11_isAsHeard_22 : decode cX11_isAsHeard 22 = .ok (.istore_n 3, 1) := by decide +kernel
theorem dX11_isAsHeard_23 : decode cX11_isAsHeard 23 = .ok (.aload_n 0, 1) := by decide +kernel
theorem dX11_isAsHeard_24 : decode cX11_isAsHeard 24 = .ok (.getfield 40, 3) := by decide +kernel
theorem dX11_isAsHeard_27 : decode cX11_isAsHeard 27 = .ok (.iload_n 1, 1) := by decide +kernel
theorem dX11_isAsHeard_28 : decode cX11_isAsHeard 28 = .ok (.invokevirtual 213, 3) := by decide +kernel
theorem dX11_isAsHeard_31 : decode cX11_isAsHeard 31 = .ok (.iload_n 3, 1) := by decide +kernel
theorem dX11_isAsHeard_32 : decode cX11_isAsHeard 32 = .ok (.if_icmp .lt 24, 3) := by decide +kernel
theorem dX11_isAsHeard_35 : decode cX11_isAsHeard 35 = .ok (.aload_n 0, 1) := by decide +kernel
theorem dX11_isAsHeard_36 : decode cX11_isAsHeard 36 = .ok (.getfield 40, 3) := by decide +kernel
theorem dX11_isAsHeard_39 : decode cX11_isAsHeard 39 = .ok (.iload_n 1, 1) := by decide +kernel
theorem dX11_isAsHeard_40 : decode cX11_isAsHeard 40 = .ok (.iload_n 3, 1) := by decide +kernel
theorem dX11_isAsHeard_41 : decode cX11_isAsHeard 41 = .ok (.invokevirtual 256, 3) := by decide +kernel
theorem dX11_isAsHeard_44 : decode cX11_isAsHeard 44 = .ok (.invokestatic 302, 3) := by decide +kernel
theorem dX11_isAsHeard_47 : decode cX11_isAsHeard 47 = .ok (.aload_n 0, 1) := by decide +kernel
theorem dX11_isAsHeard_48 : decode cX11_isAsHeard 48 = .ok (.getfield 48, 3) := by decide +kernel
theorem dX11_isAsHeard_51 : decode cX11_isAsHeard 51 = .ok (.iload_n 2, 1) := by decide +kernel
theorem dX11_isAsHeard_52 : decode cX11_isAsHeard 52 = .ok (.iaload, 1) := by decide +kernel
theorem dX11_isAsHeard_53 : decode cX11_isAsHeard 53 = .ok (.if_icmp .eq 5, 3) := by decide +kernel
theorem dX11_isAsHeard_56 : decode cX11_isAsHeard 56 = .ok (.iconst 0, 1) := by decide +kernel
theorem dX11_isAsHeard_57 : decode cX11_isAsHeard 57 = .ok (.ireturn, 1) := by decide +kernel
theorem dX11_isAsHeard_58 : decode cX11_isAsHeard 58 = .ok (.iinc 2 1, 3) := by decide +kernel
theorem dX11_isAsHeard_61 : decode cX11_isAsHeard 61 = .ok (.goto (-59), 3) := by decide +kernel
theorem dX11_isAsHeard_64 : decode cX11_isAsHeard 64 = .ok (.iconst 1, 1) := by decide +kernel
theorem dX11_isAsHeard_65 : decode cX11_isAsHeard 65 = .ok (.ireturn, 1) := by decide +kernel
theorem dX11_isDawn_0 : decode cX11_isDawn 0 = .ok (.iload_n 0, 1) := by decide +kernel
theorem dX11_isDawn_1 : decode cX11_isDawn 1 = .ok (.iconst 1, 1) := by decide +kernel
theorem dX11_isDawn_2 : decode cX11_isDawn 2 = .ok (.if_icmp .lt 13, 3) := by decide +kernel
theorem dX11_isDawn_5 : decode cX11_isDawn 5 = .ok (.iload_n 0, 1) := by decide +kernel
theorem dX11_isDawn_6 : decode cX11_isDawn 6 = .ok (.bipush 30, 2) := by decide +kernel
theorem dX11_isDawn_8 : decode cX11_isDawn 8 = .ok (.if_icmp .gt 7, 3) := by decide +kernel
theorem dX11_isDawn_11 : decode cX11_isDawn 11 = .ok (.iconst 1, 1) := by decide +kernel
theorem dX11_isDawn_12 : decode cX11_isDawn 12 = .ok (.goto 4, 3) := by decide +kernel
theorem dX11_isDawn_15 : decode cX11_isDawn 15 = .ok (.iconst 0, 1) := by decide +kernel
theorem dX11_isDawn_16 : decode cX11_isDawn 16 = .ok (.ireturn, 1) := by decide +kernel
theorem dX11_isPairPart_0 : decode cX11_isPairPart 0 = .ok (.iload_n 0, 1) := by decide +kernel
theorem dX11_isPairPart_1 : decode cX11_isPairPart 1 = .ok (.ifCond .eq 8, 3) := by decide +kernel

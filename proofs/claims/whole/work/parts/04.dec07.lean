theorem dX12_dawns_14 : decode cX12_dawns 14 = .ok (.iload_n 3, 1) := by decide +kernel
theorem dX12_dawns_15 : decode cX12_dawns 15 = .ok (.aload_n 1, 1) := by decide +kernel
theorem dX12_dawns_16 : decode cX12_dawns 16 = .ok (.iconst 2, 1) := by decide +kernel
theorem dX12_dawns_17 : decode cX12_dawns 17 = .ok (.iaload, 1) := by decide +kernel
theorem dX12_dawns_18 : decode cX12_dawns 18 = .ok (.if_icmp .ge 40, 3) := by decide +kernel
theorem dX12_dawns_21 : decode cX12_dawns 21 = .ok (.iload_n 2, 1) := by decide +kernel
theorem dX12_dawns_22 : decode cX12_dawns 22 = .ok (.ifCond .eq 28, 3) := by decide +kernel
theorem dX12_dawns_25 : decode cX12_dawns 25 = .ok (.aload_n 1, 1) := by decide +kernel
theorem dX12_dawns_26 : decode cX12_dawns 26 = .ok (.iconst 0, 1) := by decide +kernel
theorem dX12_dawns_27 : decode cX12_dawns 27 = .ok (.iaload, 1) := by decide +kernel
theorem dX12_dawns_28 : decode cX12_dawns 28 = .ok (.aload_n 1, 1) := by decide +kernel
theorem dX12_dawns_29 : decode cX12_dawns 29 = .ok (.bipush 22, 2) := by decide +kernel
theorem dX12_dawns_31 : decode cX12_dawns 31 = .ok (.aload_n 1, 1) := by decide +kernel
theorem dX12_dawns_32 : decode cX12_dawns 32 = .ok (.iconst 4, 1) := by decide +kernel
theorem dX12_dawns_33 : decode cX12_dawns 33 = .ok (.iload_n 3, 1) := by decide +kernel
theorem dX12_dawns_34 : decode cX12_dawns 34 = .ok (.iadd, 1) := by decide +kernel
theorem dX12_dawns_35 : decode cX12_dawns 35 = .ok (.iaload, 1) := by decide +kernel
theorem dX12_dawns_36 : decode cX12_dawns 36 = .ok (.iadd, 1) := by decide +kernel
theorem dX12_dawns_37 : decode cX12_dawns 37 = .ok (.iaload, 1) := by decide +kernel
theorem dX12_dawns_38 : decode cX12_dawns 38 = .ok (.isub, 1) := by decide +kernel
theorem dX12_dawns_39 : decode cX12_dawns 39 = .ok (.aload_n 0, 1) := by decide +kernel
theorem dX12_dawns_40 : decode cX12_dawns 40 = .ok (.getfield 143, 3) := by decide +kernel
theorem dX12_dawns_43 : decode cX12_dawns 43 = .ok (.if_icmp .ge 7, 3) := by decide +kernel
theorem dX12_dawns_46 : decode cX12_dawns 46 = .ok (.iconst 1, 1) := by decide +kernel
theorem dX12_dawns_47 : decode cX12_dawns 47 = .ok (.goto 4, 3) := by decide +kernel
theorem dX12_dawns_50 : decode cX12_dawns 50 = .ok (.iconst 0, 1) := by decide +kernel
theorem dX12_dawns_51 : decode cX12_dawns 51 = .ok (.istore_n 2, 1) := by decide +kernel
theorem dX12_dawns_52 : decode cX12_dawns 52 = .ok (.iinc 3 1, 3) := by decide +kernel
theorem dX12_dawns_55 : decode cX12_dawns 55 = .ok (.goto (-41), 3) := by decide +kernel
theorem dX12_dawns_58 : decode cX12_dawns 58 = .ok (.aload_n 1, 1) := by decide +kernel
theorem dX12_dawns_59 : decode cX12_dawns 59 = .ok (.iconst 3, 1) := by decide +kernel
theorem dX12_dawns_60 : decode cX12_dawns 60 = .ok (.iload_n 2, 1) := by decide +kernel
theorem dX12_dawns_61 : decode cX12_dawns 61 = .ok (.ifCond .eq 7, 3) := by decide +kernel
theorem dX12_dawns_64 : decode cX12_dawns 64 = .ok (.iconst 1, 1) := by decide +kernel
theorem dX12_dawns_65 : decode cX12_dawns 65 = .ok (.goto 4, 3) := by decide +kernel
theorem dX12_dawns_68 : decode cX12_dawns 68 = .ok (.iconst 0, 1) := by decide +kernel
theorem dX12_dawns_69 : decode cX12_dawns 69 = .ok (.iastore, 1) := by decide +kernel
theorem dX12_dawns_70 : decode cX12_dawns 70 = .ok (.iload_n 2, 1) := by decide +kernel
theorem dX12_dawns_71 : decode cX12_dawns 71 = .ok (.ifCond .eq 20, 3) := by decide +kernel
theorem dX12_dawns_74 : decode cX12_dawns 74 = .ok (.aload_n 1, 1) := by decide +kernel
theorem dX12_dawns_75 : decode cX12_dawns 75 = .ok (.iconst 0, 1) := by decide +kernel
theorem dX12_dawns_76 : decode cX12_dawns 76 = .ok (.dup2, 1) := by decide +kernel
theorem dX12_dawns_77 : decode cX12_dawns 77 = .ok (.iaload, 1) := by decide +kernel
theorem dX12_dawns_78 : decode cX12_dawns 78 = .ok (.iconst 1, 1) := by decide +kernel
theorem dX12_dawns_79 : decode cX12_dawns 79 = .ok (.iadd, 1) := by decide +kernel
theorem dX12_dawns_80 : decode cX12_dawns 80 = .ok (.iastore, 1) := by decide +kernel
theorem dX12_dawns_81 : decode cX12_dawns 81 = .ok (.aload_n 1, 1) := by decide +kernel
theorem dX12_dawns_82 : decode cX12_dawns 82 = .ok (.iconst 1, 1) := by decide +kernel
theorem dX12_dawns_83 : decode cX12_dawns 83 = .ok (.aload_n 0, 1) := by decide +kernel
theorem dX12_dawns_84 : decode cX12_dawns 84 = .ok (.aload_n 1, 1) := by decide +kernel
theorem dX12_dawns_85 : decode cX12_dawns 85 = .ok (.iconst 0, 1) := by decide +kernel
theorem dX12_dawns_86 : decode cX12_dawns 86 = .ok (.iaload, 1) := by decide +kernel
theorem dX12_dawns_87 : decode cX12_dawns 87 = .ok (.invokevirtual 164, 3) := by decide +kernel
theorem dX12_dawns_90 : decode cX12_dawns 90 = .ok (.iastore, 1) := by decide +kernel
theorem dX12_dawns_91 : decode cX12_dawns 91 = .ok (.iload_n 2, 1) := by decide +kernel
theorem dX12_dawns_92 : decode cX12_dawns 92 = .ok (.ireturn, 1) := by decide +kernel
theorem dX12_tale_0 : decode cX12_tale 0 = .ok (.aload_n 0, 1) := by decide +kernel
theorem dX12_tale_1 : decode cX12_tale 1 = .ok (.iload_n 1, 1) := by decide +kernel
theorem dX12_tale_2 : decode cX12_tale 2 = .ok (.invokevirtual 176, 3) := by decide +kernel
theorem dX12_tale_5 : decode cX12_tale 5 = .ok (.ifCond .ne 5, 3) := by decide +kernel
theorem dX12_tale_8 : decode cX12_tale 8 = .ok (.iconst (-1), 1) := by decide +kernel
theorem dX12_tale_9 : decode cX12_tale 9 = .ok (.ireturn, 1) := by decide +kernel
theorem dX12_tale_10 : decode cX12_tale 10 = .ok (.bipush (-9), 2) := by decide +kernel
theorem dX12_tale_12 : decode cX12_tale 12 = .ok (.istore_n 3, 1) := by decide +kernel
theorem dX12_tale_13 : decode cX12_tale 13 = .ok (.iconst 0, 1) := by decide +kernel
theorem dX12_tale_14 : decode cX12_tale 14 = .ok (.istore 4, 2) := by decide +kernel
theorem dX12_tale_16 : decode cX12_tale 16 = .ok (.iload 4, 2) := by decide +kernel
theorem dX12_tale_18 : decode cX12_tale 18 = .ok (.aload_n 0, 1) := by decide +kernel
theorem dX12_tale_19 : decode cX12_tale 19 = .ok (.getfield 31, 3) := by decide +kernel
theorem dX12_tale_22 : decode cX12_tale 22 = .ok (.iconst 2, 1) := by decide +kernel
theorem dX12_tale_23 : decode cX12_tale 23 = .ok (.iaload, 1) := by decide +kernel
theorem dX12_tale_24 : decode cX12_tale 24 = .ok (.if_icmp .ge 29, 3) := by decide +kernel
theorem dX12_tale_27 : decode cX12_tale 27 = .ok (.aload_n 0, 1) := by decide +kernel
theorem dX12_tale_28 : decode cX12_tale 28 = .ok (.getfield 31, 3) := by decide +kernel
theorem dX12_tale_31 : decode cX12_tale 31 = .ok (.iconst 4, 1) := by decide +kernel
theorem dX12_tale_32 : decode cX12_tale 32 = .ok (.iload 4, 2) := by decide +kernel
theorem dX12_tale_34 : decode cX12_tale 34 = .ok (.iadd, 1) := by decide +kernel
theorem dX12_tale_35 : decode cX12_tale 35 = .ok (.iaload, 1) := by decide +kernel
theorem dX12_tale_36 : decode cX12_tale 36 = .ok (.iload_n 1, 1) := by decide +kernel
theorem dX12_tale_37 : decode cX12_tale 37 = .ok (.if_icmp .ne 8, 3) := by decide +kernel
theorem dX12_tale_40 : decode cX12_tale 40 = .ok (.iload 4, 2) := by decide +kernel
theorem dX12_tale_42 : decode cX12_tale 42 = .ok (.goto 4, 3) := by decide +kernel
theorem dX12_tale_45 : decode cX12_tale 45 = .ok (.iload_n 3, 1) := by decide +kernel
theorem dX12_tale_46 : decode cX12_tale 46 = .ok (.istore_n 3, 1) := by decide +kernel
theorem dX12_tale_47 : decode cX12_tale 47 = .ok (.iinc 4 1, 3) := by decide +kernel
theorem dX12_tale_50 : decode cX12_tale 50 = .ok (.goto (-34), 3) := by decide +kernel
theorem dX12_tale_53 : decode cX12_tale 53 = .ok (.iload_n 2, 1) := by decide +kernel
theorem dX12_tale_54 : decode cX12_tale 54 = .ok (.tableswitch 84 0 5 #[38, 45, 52, 62, 72, 74], 38) := by decide +kernel
theorem dX12_tale_92 : decode cX12_tale 92 = .ok (.aload_n 0, 1) := by decide +kernel
theorem dX12_tale_93 : decode cX12_tale 93 = .ok (.getfield 22, 3) := by decide +kernel
theorem dX12_tale_96 : decode cX12_tale 96 = .ok (.iload_n 1, 1) := by decide +kernel
theorem dX12_tale_97 : decode cX12_tale 97 = .ok (.iaload, 1) := by decide +kernel
theorem dX12_tale_98 : decode cX12_tale 98 = .ok (.ireturn, 1) := by decide +kernel
theorem dX12_tale_99 : decode cX12_tale 99 = .ok (.aload_n 0, 1) := by decide +kernel
theorem dX12_tale_100 : decode cX12_tale 100 = .ok (.getfield 25, 3) := by decide +kernel
theorem dX12_tale_103 : decode cX12_tale 103 = .ok (.iload_n 1, 1) := by decide +kernel
theorem dX12_tale_104 : decode cX12_tale 104 = .ok (.iaload, 1) := by decide +kernel
theorem dX12_tale_105 : decode cX12_tale 105 = .ok (.ireturn, 1) := by decide +kernel
theorem dX12_tale_106 : decode cX12_tale 106 = .ok (.aload_n 0, 1) := by decide +kernel
theorem dX12_tale_107 : decode cX12_tale 107 = .ok (.getfield 31, 3) := by decide +kernel
theorem dX12_tale_110 : decode cX12_tale 110 = .ok (.bipush 10, 2) := by decide +kernel
theorem dX12_tale_112 : decode cX12_tale 112 = .ok (.iload_n 1, 1) := by decide +kernel
theorem dX12_tale_113 : decode cX12_tale 113 = .ok (.iadd, 1) := by decide +kernel
theorem dX12_tale_114 : decode cX12_tale 114 = .ok (.iaload, 1) := by decide +kernel
theorem dX12_tale_115 : decode cX12_tale 115 = .ok (.ireturn, 1) := by decide +kernel
theorem dX12_tale_116 : decode cX12_tale 116 = .ok (.aload_n 0, 1) := by decide +kernel
theorem dX12_tale_117 : decode cX12_tale 117 = .ok (.getfield 31, 3) := by decide +kernel
theorem dX12_tale_120 : decode cX12_tale 120 = .ok (.bipush 16, 2) := by decide +kernel
theorem dX12_tale_122 : decode cX12_tale 122 = .ok (.iload_n 1, 1) := by decide +kernel
theorem dX12_tale_123 : decode cX12_tale 123 = .ok (.iadd, 1) := by decide +kernel
theorem dX12_tale_124 : decode cX12_tale 124 = .ok (.iaload, 1) := by decide +kernel
theorem dX12_tale_125 : decode cX12_tale 125 = .ok (.ireturn, 1) := by decide +kernel
theorem dX12_tale_126 : decode cX12_tale 126 = .ok (.iload_n 3, 1) := by decide +kernel
theorem dX12_tale_127 : decode cX12_tale 127 = .ok (.ireturn, 1) := by decide +kernel
theorem dX12_tale_128 : decode cX12_tale 128 = .ok (.aload_n 0, 1) := by decide +kernel
theorem dX12_tale_129 : decode cX12_tale 129 = .ok (.getfield 31, 3) := by decide +kernel
theorem dX12_tale_132 : decode cX12_tale 132 = .ok (.bipush 22, 2) := by decide +kernel
theorem dX12_tale_134 : decode cX12_tale 134 = .ok (.iload_n 1, 1) := by decide +kernel
theorem dX12_tale_135 : decode cX12_tale 135 = .ok (.iadd, 1) := by decide +kernel
theorem dX12_tale_136 : decode cX12_tale 136 = .ok (.iaload, 1) := by decide +kernel
theorem dX12_tale_137 : decode cX12_tale 137 = .ok (.ireturn, 1) := by decide +kernel
theorem dX12_tale_138 : decode cX12_tale 138 = .ok (.iconst (-1), 1) := by decide +kernel
theorem dX12_tale_139 : decode cX12_tale 139 = .ok (.ireturn, 1) := by decide +kernel
theorem dX12_hours_0 : decode cX12_hours 0 = .ok (.iload_n 1, 1) := by decide +kernel
theorem dX12_hours_1 : decode cX12_hours 1 = .ok (.i2l, 1) := by decide +kernel
theorem dX12_hours_2 : decode cX12_hours 2 = .ok (.lconst 0, 1) := by decide +kernel
theorem dX12_hours_3 : decode cX12_hours 3 = .ok (.ldc2_w 179, 3) := by decide +kernel
theorem dX12_hours_6 : decode cX12_hours 6 = .ok (.invokestatic 63, 3) := by decide +kernel
theorem dX12_hours_9 : decode cX12_hours 9 = .ok (.ifCond .eq 11, 3) := by decide +kernel
theorem dX12_hours_12 : decode cX12_hours 12 = .ok (.aload_n 0, 1) := by decide +kernel
theorem dX12_hours_13 : decode cX12_hours 13 = .ok (.iload_n 1, 1) := by decide +kernel
theorem dX12_hours_14 : decode cX12_hours 14 = .ok (.invokevirtual 164, 3) := by decide +kernel
theorem dX12_hours_17 : decode cX12_hours 17 = .ok (.goto 4, 3) := by decide +kernel
theorem dX12_hours_20 : decode cX12_hours 20 = .ok (.iconst (-1), 1) := by decide +kernel
theorem dX12_hours_21 : decode cX12_hours 21 = .ok (.ireturn, 1) := by decide +kernel
theorem dX12_notes_0 : decode cX12_notes 0 = .ok (.aload_n 0, 1) := by decide +kernel
theorem dX12_notes_1 : decode cX12_notes 1 = .ok (.getfield 155, 3) := by decide +kernel
theorem dX12_notes_4 : decode cX12_notes 4 = .ok (.bipush 10, 2) := by decide +kernel
theorem dX12_notes_6 : decode cX12_notes 6 = .ok (.if_icmp .ne 40, 3) := by decide +kernel
theorem dX12_notes_9 : decode cX12_notes 9 = .ok (.bipush 29, 2) := by decide +kernel
theorem dX12_notes_11 : decode cX12_notes 11 = .ok (.istore_n 1, 1) := by decide +kernel
theorem dX12_notes_12 : decode cX12_notes 12 = .ok (.iload_n 1, 1) := by decide +kernel
theorem dX12_notes_13 : decode cX12_notes 13 = .ok (.sipush 290, 3) := by decide +kernel
theorem dX12_notes_16 : decode cX12_notes 16 = .ok (.if_icmp .ge 24, 3) := by decide +kernel
theorem dX12_notes_19 : decode cX12_notes 19 = .ok (.aload_n 0, 1) := by decide +kernel
theorem dX12_notes_20 : decode cX12_notes 20 = .ok (.getfield 37, 3) := by decide +kernel
theorem dX12_notes_23 : decode cX12_notes 23 = .ok (.iload_n 1, 1) := by decide +kernel
theorem dX12_notes_24 : decode cX12_notes 24 = .ok (.bipush 29, 2) := by decide +kernel
theorem dX12_notes_26 : decode cX12_notes 26 = .ok (.isub, 1) := by decide +kernel
theorem dX12_notes_27 : decode cX12_notes 27 = .ok (.aload_n 0, 1) := by decide +kernel
theorem dX12_notes_28 : decode cX12_notes 28 = .ok (.getfield 37, 3) := by decide +kernel
theorem dX12_notes_31 : decode cX12_notes 31 = .ok (.iload_n 1, 1) := by decide +kernel
theorem dX12_notes_32 : decode cX12_notes 32 = .ok (.iaload, 1) := by decide +kernel
theorem dX12_notes_33 : decode cX12_notes 33 = .ok (.iastore, 1) := by decide +kernel
theorem dX12_notes_34 : decode cX12_notes 34 = .ok (.iinc 1 1, 3) := by decide +kernel
theorem dX12_notes_37 : decode cX12_notes 37 = .ok (.goto (-25), 3) := by decide +kernel
theorem dX12_notes_40 : decode cX12_notes 40 = .ok (.aload_n 0, 1) := by decide +kernel
theorem dX12_notes_41 : decode cX12_notes 41 = .ok (.bipush 9, 2) := by decide +kernel
theorem dX12_notes_43 : decode cX12_notes 43 = .ok (.putfield 155, 3) := by decide +kernel
theorem dX12_notes_46 : decode cX12_notes 46 = .ok (.iconst 0, 1) := by decide +kernel
theorem dX12_notes_47 : decode cX12_notes 47 = .ok (.istore_n 1, 1) := by decide +kernel
theorem dX12_notes_48 : decode cX12_notes 48 = .ok (.iload_n 1, 1) := by decide +kernel
theorem dX12_notes_49 : decode cX12_notes 49 = .ok (.bipush 28, 2) := by decide +kernel
theorem dX12_notes_51 : decode cX12_notes 51 = .ok (.if_icmp .ge 29, 3) := by decide +kernel
theorem dX12_notes_54 : decode cX12_notes 54 = .ok (.aload_n 0, 1) := by decide +kernel
theorem dX12_notes_55 : decode cX12_notes 55 = .ok (.getfield 37, 3) := by decide +kernel
theorem dX12_notes_58 : decode cX12_notes 58 = .ok (.bipush 29, 2) := by decide +kernel
theorem dX12_notes_60 : decode cX12_notes 60 = .ok (.aload_n 0, 1) := by decide +kernel
theorem dX12_notes_61 : decode cX12_notes 61 = .ok (.getfield 155, 3) := by decide +kernel
theorem dX12_notes_64 : decode cX12_notes 64 = .ok (.imul, 1) := by decide +kernel
theorem dX12_notes_65 : decode cX12_notes 65 = .ok (.iload_n 1, 1) := by decide +kernel
theorem dX12_notes_66 : decode cX12_notes 66 = .ok (.iadd, 1) := by decide +kernel
theorem dX12_notes_67 : decode cX12_notes 67 = .ok (.aload_n 0, 1) := by decide +kernel
theorem dX12_notes_68 : decode cX12_notes 68 = .ok (.getfield 31, 3) := by decide +kernel
theorem dX12_notes_71 : decode cX12_notes 71 = .ok (.iload_n 1, 1) := by decide +kernel
theorem dX12_notes_72 : decode cX12_notes 72 = .ok (.iaload, 1) := by decide +kernel
theorem dX12_notes_73 : decode cX12_notes 73 = .ok (.iastore, 1) := by decide +kernel
theorem dX12_notes_74 : decode cX12_notes 74 = .ok (.iinc 1 1, 3) := by decide +kernel
theorem dX12_notes_77 : decode cX12_notes 77 = .ok (.goto (-29), 3) := by decide +kernel
theorem dX12_notes_80 : decode cX12_notes 80 = .ok (.aload_n 0, 1) := by decide +kernel
theorem dX12_notes_81 : decode cX12_notes 81 = .ok (.getfield 37, 3) := by decide +kernel
theorem dX12_notes_84 : decode cX12_notes 84 = .ok (.bipush 29, 2) := by decide +kernel
theorem dX12_notes_86 : decode cX12_notes 86 = .ok (.aload_n 0, 1) := by decide +kernel
theorem dX12_notes_87 : decode cX12_notes 87 = .ok (.getfield 155, 3) := by decide +kernel
theorem dX12_notes_90 : decode cX12_notes 90 = .ok (.imul, 1) := by decide +kernel
theorem dX12_notes_91 : decode cX12_notes 91 = .ok (.bipush 28, 2) := by decide +kernel
theorem dX12_notes_93 : decode cX12_notes 93 = .ok (.iadd, 1) := by decide +kernel
theorem dX12_notes_94 : decode cX12_notes 94 = .ok (.aload_n 0, 1) := by decide +kernel
theorem dX12_notes_95 : decode cX12_notes 95 = .ok (.getfield 152, 3) := by decide +kernel
theorem dX12_notes_98 : decode cX12_notes 98 = .ok (.iastore, 1) := by decide +kernel
theorem dX12_notes_99 : decode cX12_notes 99 = .ok (.aload_n 0, 1) := by decide +kernel
theorem dX12_notes_100 : decode cX12_notes 100 = .ok (.dup, 1) := by decide +kernel
theorem dX12_notes_101 : decode cX12_notes 101 = .ok (.getfield 155, 3) := by decide +kernel
theorem dX12_notes_104 : decode cX12_notes 104 = .ok (.iconst 1, 1) := by decide +kernel
theorem dX12_notes_105 : decode cX12_notes 105 = .ok (.iadd, 1) := by decide +kernel
theorem dX12_notes_106 : decode cX12_notes 106 = .ok (.putfield 155, 3) := by decide +kernel
theorem dX12_notes_109 : decode cX12_notes 109 = .ok (.return_, 1) := by decide +kernel
theorem dX12_has_0 : decode cX12_has 0 = .ok (.aload_n 0, 1) := by decide +kernel
theorem dX12_has_1 : decode cX12_has 1 = .ok (.getfield 31, 3) := by decide +kernel
theorem dX12_has_4 : decode cX12_has 4 = .ok (.iconst 3, 1) := by decide +kernel
theorem dX12_has_5 : decode cX12_has 5 = .ok (.iaload, 1) := by decide +kernel
theorem dX12_has_6 : decode cX12_has 6 = .ok (.iconst 1, 1) := by decide +kernel
theorem dX12_has_7 : decode cX12_has 7 = .ok (.if_icmp .ne 16, 3) := by decide +kernel
theorem dX12_has_10 : decode cX12_has 10 = .ok (.aload_n 0, 1) := by decide +kernel
theorem dX12_has_11 : decode cX12_has 11 = .ok (.getfield 31, 3) := by decide +kernel
theorem dX12_has_14 : decode cX12_has 14 = .ok (.iconst 1, 1) := by decide +kernel
theorem dX12_has_15 : decode cX12_has 15 = .ok (.iaload, 1) := by decide +kernel
theorem dX12_has_16 : decode cX12_has 16 = .ok (.ifCond .le 7, 3) := by decide +kernel
theorem dX12_has_19 : decode cX12_has 19 = .ok (.iconst 1, 1) := by decide +kernel
theorem dX12_has_20 : decode cX12_has 20 = .ok (.goto 4, 3) := by decide +kernel
theorem dX12_has_23 : decode cX12_has 23 = .ok (.iconst 0, 1) := by decide +kernel
theorem dX12_has_24 : decode cX12_has 24 = .ok (.ireturn, 1) := by decide +kernel
theorem dX12_begins_0 : decode cX12_begins 0 = .ok (.aload_n 0, 1) := by decide +kernel
theorem dX12_begins_1 : decode cX12_begins 1 = .ok (.iload_n 1, 1) := by decide +kernel
theorem dX12_begins_2 : decode cX12_begins 2 = .ok (.invokevirtual 176, 3) := by decide +kernel
theorem dX12_begins_5 : decode cX12_begins 5 = .ok (.ifCond .ne 5, 3) := by decide +kernel
theorem dX12_begins_8 : decode cX12_begins 8 = .ok (.iconst (-1), 1) := by decide +kernel
theorem dX12_begins_9 : decode cX12_begins 9 = .ok (.ireturn, 1) := by decide +kernel
theorem dX12_begins_10 : decode cX12_begins 10 = .ok (.aload_n 0, 1) := by decide +kernel
theorem dX12_begins_11 : decode cX12_begins 11 = .ok (.invokevirtual 181, 3) := by decide +kernel
theorem dX12_begins_14 : decode cX12_begins 14 = .ok (.ifCond .eq 15, 3) := by decide +kernel
theorem dX12_begins_17 : decode cX12_begins 17 = .ok (.aload_n 0, 1) := by decide +kernel
theorem dX12_begins_18 : decode cX12_begins 18 = .ok (.aload_n 0, 1) := by decide +kernel
theorem dX12_begins_19 : decode cX12_begins 19 = .ok (.getfield 31, 3) := by decide +kernel
theorem dX12_begins_22 : decode cX12_begins 22 = .ok (.iload_n 1, 1) := by decide +kernel
theorem dX12_begins_23 : decode cX12_begins 23 = .ok (.invokevirtual 184, 3) := by decide +kernel
theorem dX12_begins_26 : decode cX12_begins 26 = .ok (.ifCond .ne 6, 3) := by decide +kernel
theorem dX12_begins_29 : decode cX12_begins 29 = .ok (.bipush (-2), 2) := by decide +kernel
theorem dX12_begins_31 : decode cX12_begins 31 = .ok (.ireturn, 1) := by decide +kernel
theorem dX12_begins_32 : decode cX12_begins 32 = .ok (.aload_n 0, 1) := by decide +kernel
theorem dX12_begins_33 : decode cX12_begins 33 = .ok (.invokevirtual 188, 3) := by decide +kernel
theorem dX12_begins_36 : decode cX12_begins 36 = .ok (.aload_n 0, 1) := by decide +kernel
theorem dX12_begins_37 : decode cX12_begins 37 = .ok (.getfield 31, 3) := by decide +kernel
theorem dX12_begins_40 : decode cX12_begins 40 = .ok (.iload_n 1, 1) := by decide +kernel
theorem dX12_begins_41 : decode cX12_begins 41 = .ok (.invokestatic 191, 3) := by decide +kernel
theorem dX12_begins_44 : decode cX12_begins 44 = .ok (.aload_n 0, 1) := by decide +kernel
theorem dX12_begins_45 : decode cX12_begins 45 = .ok (.getfield 31, 3) := by decide +kernel
theorem dX12_begins_48 : decode cX12_begins 48 = .ok (.iconst 1, 1) := by decide +kernel
theorem dX12_begins_49 : decode cX12_begins 49 = .ok (.iaload, 1) := by decide +kernel
theorem dX12_begins_50 : decode cX12_begins 50 = .ok (.ireturn, 1) := by decide +kernel
theorem dX12_tells_0 : decode cX12_tells 0 = .ok (.aload_n 0, 1) := by decide +kernel
theorem dX12_tells_1 : decode cX12_tells 1 = .ok (.invokevirtual 181, 3) := by decide +kernel
theorem dX12_tells_4 : decode cX12_tells 4 = .ok (.ifCond .eq 12, 3) := by decide +kernel
theorem dX12_tells_7 : decode cX12_tells 7 = .ok (.aload_n 0, 1) := by decide +kernel
theorem dX12_tells_8 : decode cX12_tells 8 = .ok (.getfield 31, 3) := by decide +kernel
theorem dX12_tells_11 : decode cX12_tells 11 = .ok (.iconst 2, 1) := by decide +kernel
theorem dX12_tells_12 : decode cX12_tells 12 = .ok (.iaload, 1) := by decide +kernel
theorem dX12_tells_13 : decode cX12_tells 13 = .ok (.ifCond .ne 6, 3) := by decide +kernel
theorem dX12_tells_16 : decode cX12_tells 16 = .ok (.bipush (-2), 2) := by decide +kernel
theorem dX12_tells_18 : decode cX12_tells 18 = .ok (.ireturn, 1) := by decide +kernel
theorem dX12_tells_19 : decode cX12_tells 19 = .ok (.aload_n 0, 1) := by decide +kernel
theorem dX12_tells_20 : decode cX12_tells 20 = .ok (.invokevirtual 188, 3) := by decide +kernel
theorem dX12_tells_23 : decode cX12_tells 23 = .ok (.aload_n 0, 1) := by decide +kernel
theorem dX12_tells_24 : decode cX12_tells 24 = .ok (.getfield 31, 3) := by decide +kernel
theorem dX12_tells_27 : decode cX12_tells 27 = .ok (.invokestatic 172, 3) := by decide +kernel
theorem dX12_tells_30 : decode cX12_tells 30 = .ok (.aload_n 0, 1) := by decide +kernel
theorem dX12_tells_31 : decode cX12_tells 31 = .ok (.getfield 31, 3) := by decide +kernel
theorem dX12_tells_34 : decode cX12_tells 34 = .ok (.iconst 1, 1) := by decide +kernel
theorem dX12_tells_35 : decode cX12_tells 35 = .ok (.iaload, 1) := by decide +kernel
theorem dX12_tells_36 : decode cX12_tells 36 = .ok (.ireturn, 1) := by decide +kernel
theorem dX12_silent_0 : decode cX12_silent 0 = .ok (.aload_n 0, 1) := by decide +kernel
theorem dX12_silent_1 : decode cX12_silent 1 = .ok (.invokevirtual 181, 3) := by decide +kernel
theorem dX12_silent_4 : decode cX12_silent 4 = .ok (.ifCond .ne 6, 3) := by decide +kernel
theorem dX12_silent_7 : decode cX12_silent 7 = .ok (.bipush (-2), 2) := by decide +kernel
theorem dX12_silent_9 : decode cX12_silent 9 = .ok (.ireturn, 1) := by decide +kernel
theorem dX12_silent_10 : decode cX12_silent 10 = .ok (.aload_n 0, 1) := by decide +kernel
theorem dX12_silent_11 : decode cX12_silent 11 = .ok (.invokevirtual 188, 3) := by decide +kernel
theorem dX12_silent_14 : decode cX12_silent 14 = .ok (.aload_n 0, 1) := by decide +kernel
theorem dX12_silent_15 : decode cX12_silent 15 = .ok (.getfield 31, 3) := by decide +kernel
theorem dX12_silent_18 : decode cX12_silent 18 = .ok (.iconst 1, 1) := by decide +kernel
theorem dX12_silent_19 : decode cX12_silent 19 = .ok (.dup2, 1) := by decide +kernel
theorem dX12_silent_20 : decode cX12_silent 20 = .ok (.iaload, 1) := by decide +kernel
theorem dX12_silent_21 : decode cX12_silent 21 = .ok (.iconst 1, 1) := by decide +kernel
theorem dX12_silent_22 : decode cX12_silent 22 = .ok (.isub, 1) := by decide +kernel
theorem dX12_silent_23 : decode cX12_silent 23 = .ok (.iastore, 1) := by decide +kernel
theorem dX12_silent_24 : decode cX12_silent 24 = .ok (.aload_n 0, 1) := by decide +kernel
theorem dX12_silent_25 : decode cX12_silent 25 = .ok (.getfield 31, 3) := by decide +kernel
theorem dX12_silent_28 : decode cX12_silent 28 = .ok (.iconst 1, 1) := by decide +kernel
theorem dX12_silent_29 : decode cX12_silent 29 = .ok (.iaload, 1) := by decide +kernel
theorem dX12_silent_30 : decode cX12_silent 30 = .ok (.ireturn, 1) := by decide +kernel
theorem dX12_dawn_0 : decode cX12_dawn 0 = .ok (.aload_n 0, 1) := by decide +kernel
theorem dX12_dawn_1 : decode cX12_dawn 1 = .ok (.getfield 31, 3) := by decide +kernel
theorem dX12_dawn_4 : decode cX12_dawn 4 = .ok (.iconst 3, 1) := by decide +kernel
theorem dX12_dawn_5 : decode cX12_dawn 5 = .ok (.iaload, 1) := by decide +kernel
theorem dX12_dawn_6 : decode cX12_dawn 6 = .ok (.ifCond .eq 23, 3) := by decide +kernel
theorem dX12_dawn_9 : decode cX12_dawn 9 = .ok (.aload_n 0, 1) := by decide +kernel
theorem dX12_dawn_10 : decode cX12_dawn 10 = .ok (.getfield 31, 3) := by decide +kernel
theorem dX12_dawn_13 : decode cX12_dawn 13 = .ok (.iconst 1, 1) := by decide +kernel
theorem dX12_dawn_14 : decode cX12_dawn 14 = .ok (.iaload, 1) := by decide +kernel
theorem dX12_dawn_15 : decode cX12_dawn 15 = .ok (.ifCond .gt 14, 3) := by decide +kernel
theorem dX12_dawn_18 : decode cX12_dawn 18 = .ok (.aload_n 0, 1) := by decide +kernel
theorem dX12_dawn_19 : decode cX12_dawn 19 = .ok (.getfield 31, 3) := by decide +kernel
theorem dX12_dawn_22 : decode cX12_dawn 22 = .ok (.iconst 0, 1) := by decide +kernel
theorem dX12_dawn_23 : decode cX12_dawn 23 = .ok (.iaload, 1) := by decide +kernel
theorem dX12_dawn_24 : decode cX12_dawn 24 = .ok (.bipush 99, 2) := by decide +kernel
theorem dX12_dawn_26 : decode cX12_dawn 26 = .ok (.if_icmp .ne 6, 3) := by decide +kernel
theorem dX12_dawn_29 : decode cX12_dawn 29 = .ok (.bipush (-2), 2) := by decide +kernel
theorem dX12_dawn_31 : decode cX12_dawn 31 = .ok (.ireturn, 1) := by decide +kernel
theorem dX12_dawn_32 : decode cX12_dawn 32 = .ok (.aload_n 0, 1) := by decide +kernel
theorem dX12_dawn_33 : decode cX12_dawn 33 = .ok (.invokevirtual 188, 3) := by decide +kernel
theorem dX12_dawn_36 : decode cX12_dawn 36 = .ok (.aload_n 0, 1) := by decide +kernel
theorem dX12_dawn_37 : decode cX12_dawn 37 = .ok (.aload_n 0, 1) := by decide +kernel
theorem dX12_dawn_38 : decode cX12_dawn 38 = .ok (.getfield 31, 3) := by decide +kernel
theorem dX12_dawn_41 : decode cX12_dawn 41 = .ok (.invokevirtual 195, 3) := by decide +kernel
theorem dX12_dawn_44 : decode cX12_dawn 44 = .ok (.istore_n 1, 1) := by decide +kernel
theorem dX12_dawn_45 : decode cX12_dawn 45 = .ok (.aload_n 0, 1) := by decide +kernel
theorem dX12_dawn_46 : decode cX12_dawn 46 = .ok (.dup, 1) := by decide +kernel
theorem dX12_dawn_47 : decode cX12_dawn 47 = .ok (.getfield 152, 3) := by decide +kernel
theorem dX12_dawn_50 : decode cX12_dawn 50 = .ok (.iload_n 1, 1) := by decide +kernel
theorem dX12_dawn_51 : decode cX12_dawn 51 = .ok (.ifCond .eq 7, 3) := by decide +kernel
theorem dX12_dawn_54 : decode cX12_dawn 54 = .ok (.iconst 1, 1) := by decide +kernel
theorem dX12_dawn_55 : decode cX12_dawn 55 = .ok (.goto 4, 3) := by decide +kernel
theorem dX12_dawn_58 : decode cX12_dawn 58 = .ok (.iconst 0, 1) := by decide +kernel
theorem dX12_dawn_59 : decode cX12_dawn 59 = .ok (.iadd, 1) := by decide +kernel
theorem dX12_dawn_60 : decode cX12_dawn 60 = .ok (.putfield 152, 3) := by decide +kernel
theorem dX12_dawn_63 : decode cX12_dawn 63 = .ok (.iload_n 1, 1) := by decide +kernel
theorem dX12_dawn_64 : decode cX12_dawn 64 = .ok (.ifCond .eq 7, 3) := by decide +kernel
theorem dX12_dawn_67 : decode cX12_dawn 67 = .ok (.iconst 1, 1) := by decide +kernel
theorem dX12_dawn_68 : decode cX12_dawn 68 = .ok (.goto 4, 3) := by decide +kernel
theorem dX12_dawn_71 : decode cX12_dawn 71 = .ok (.iconst 0, 1) := by decide +kernel
theorem dX12_dawn_72 : decode cX12_dawn 72 = .ok (.ireturn, 1) := by decide +kernel
theorem dX12_undo_0 : decode cX12_undo 0 = .ok (.aload_n 0, 1) := by decide +kernel
theorem dX12_undo_1 : decode cX12_undo 1 = .ok (.getfield 155, 3) := by decide +kernel
theorem dX12_undo_4 : decode cX12_undo 4 = .ok (.ifCond .ne 6, 3) := by decide +kernel
theorem dX12_undo_7 : decode cX12_undo 7 = .ok (.bipush (-2), 2) := by decide +kernel
theorem dX12_undo_9 : decode cX12_undo 9 = .ok (.ireturn, 1) := by decide +kernel
theorem dX12_undo_10 : decode cX12_undo 10 = .ok (.aload_n 0, 1) := by decide +kernel
theorem dX12_undo_11 : decode cX12_undo 11 = .ok (.dup, 1) := by decide +kernel
theorem dX12_undo_12 : decode cX12_undo 12 = .ok (.getfield 155, 3) := by decide +kernel
theorem dX12_undo_15 : decode cX12_undo 15 = .ok (.iconst 1, 1) := by decide +kernel
theorem dX12_undo_16 : decode cX12_undo 16 = .ok (.isub, 1) := by decide +kernel
theorem dX12_undo_17 : decode cX12_undo 17 = .ok (.putfield 155, 3) := by decide +kernel
theorem dX12_undo_20 : decode cX12_undo 20 = .ok (.iconst 0, 1) := by decide +kernel
theorem dX12_undo_21 : decode cX12_undo 21 = .ok (.istore_n 1, 1) := by decide +kernel
theorem dX12_undo_22 : decode cX12_undo 22 = .ok (.iload_n 1, 1) := by decide +kernel
theorem dX12_undo_23 : decode cX12_undo 23 = .ok (.bipush 28, 2) := by decide +kernel
theorem dX12_undo_25 : decode cX12_undo 25 = .ok (.if_icmp .ge 29, 3) := by decide +kernel
theorem dX12_undo_28 : decode cX12_undo 28 = .ok (.aload_n 0, 1) := by decide +kernel
theorem dX12_undo_29 : decode cX12_undo 29 = .ok (.getfield 31, 3) := by decide +kernel
theorem dX12_undo_32 : decode cX12_undo 32 = .ok (.iload_n 1, 1) := by decide +kernel
theorem dX12_undo_33 : decode cX12_undo 33 = .ok (.aload_n 0, 1) := by decide +kernel
theorem dX12_undo_34 : decode cX12_undo 34 = .ok (.getfield 37, 3) := by decide +kernel
theorem dX12_undo_37 : decode cX12_undo 37 = .ok (.bipush 29, 2) := by decide +kernel
theorem dX12_undo_39 : decode cX12_undo 39 = .ok (.aload_n 0, 1) := by decide +kernel
theorem dX12_undo_40 : decode cX12_undo 40 = .ok (.getfield 155, 3) := by decide +kernel
theorem dX12_undo_43 : decode cX12_undo 43 = .ok (.imul, 1) := by decide +kernel
theorem dX12_undo_44 : decode cX12_undo 44 = .ok (.iload_n 1, 1) := by decide +kernel
theorem dX12_undo_45 : decode cX12_undo 45 = .ok (.iadd, 1) := by decide +kernel
theorem dX12_undo_46 : decode cX12_undo 46 = .ok (.iaload, 1) := by decide +kernel
theorem dX12_undo_47 : decode cX12_undo 47 = .ok (.iastore, 1) := by decide +kernel
theorem dX12_undo_48 : decode cX12_undo 48 = .ok (.iinc 1 1, 3) := by decide +kernel
theorem dX12_undo_51 : decode cX12_undo 51 = .ok (.goto (-29), 3) := by decide +kernel
theorem dX12_undo_54 : decode cX12_undo 54 = .ok (.aload_n 0, 1) := by decide +kernel
theorem dX12_undo_55 : decode cX12_undo 55 = .ok (.aload_n 0, 1) := by decide +kernel
theorem dX12_undo_56 : decode cX12_undo 56 = .ok (.getfield 37, 3) := by decide +kernel
theorem dX12_undo_59 : decode cX12_undo 59 = .ok (.bipush 29, 2) := by decide +kernel
theorem dX12_undo_61 : decode cX12_undo 61 = .ok (.aload_n 0, 1) := by decide +kernel
theorem dX12_undo_62 : decode cX12_undo 62 = .ok (.getfield 155, 3) := by decide +kernel
theorem dX12_undo_65 : decode cX12_undo 65 = .ok (.imul, 1) := by decide +kernel
theorem dX12_undo_66 : decode cX12_undo 66 = .ok (.bipush 28, 2) := by decide +kernel
theorem dX12_undo_68 : decode cX12_undo 68 = .ok (.iadd, 1) := by decide +kernel
theorem dX12_undo_69 : decode cX12_undo 69 = .ok (.iaload, 1) := by decide +kernel
theorem dX12_undo_70 : decode cX12_undo 70 = .ok (.putfield 152, 3) := by decide +kernel
theorem dX12_undo_73 : decode cX12_undo 73 = .ok (.aload_n 0, 1) := by decide +kernel
theorem dX12_undo_74 : decode cX12_undo 74 = .ok (.getfield 155, 3) := by decide +kernel
theorem dX12_undo_77 : decode cX12_undo 77 = .ok (.ireturn, 1) := by decide +kernel
theorem dX12_now_0 : decode cX12_now 0 = .ok (.iconst 0, 1) := by decide +kernel
theorem dX12_now_1 : decode cX12_now 1 = .ok (.istore_n 2, 1) := by decide +kernel
theorem dX12_now_2 : decode cX12_now 2 = .ok (.iconst 0, 1) := by decide +kernel
theorem dX12_now_3 : decode cX12_now 3 = .ok (.istore_n 3, 1) := by decide +kernel
theorem dX12_now_4 : decode cX12_now 4 = .ok (.iconst 0, 1) := by decide +kernel
theorem dX12_now_5 : decode cX12_now 5 = .ok (.istore 4, 2) := by decide +kernel
theorem dX12_now_7 : decode cX12_now 7 = .ok (.iload 4, 2) := by decide +kernel
theorem dX12_now_9 : decode cX12_now 9 = .ok (.aload_n 0, 1) := by decide +kernel
theorem dX12_now_10 : decode cX12_now 10 = .ok (.getfield 137, 3) := by decide +kernel
theorem dX12_now_13 : decode cX12_now 13 = .ok (.if_icmp .ge 78, 3) := by decide +kernel
theorem dX12_now_16 : decode cX12_now 16 = .ok (.iload_n 2, 1) := by decide +kernel
theorem dX12_now_17 : decode cX12_now 17 = .ok (.aload_n 0, 1) := by decide +kernel
theorem dX12_now_18 : decode cX12_now 18 = .ok (.getfield 31, 3) := by decide +kernel
theorem dX12_now_21 : decode cX12_now 21 = .ok (.bipush 16, 2) := by decide +kernel
theorem dX12_now_23 : decode cX12_now 23 = .ok (.iload 4, 2) := by decide +kernel
theorem dX12_now_25 : decode cX12_now 25 = .ok (.iadd, 1) := by decide +kernel
theorem dX12_now_26 : decode cX12_now 26 = .ok (.iaload, 1) := by decide +kernel
theorem dX12_now_27 : decode cX12_now 27 = .ok (.iconst 1, 1) := by decide +kernel
theorem dX12_now_28 : decode cX12_now 28 = .ok (.if_icmp .ne 23, 3) := by decide +kernel
theorem dX12_now_31 : decode cX12_now 31 = .ok (.aload_n 0, 1) := by decide +kernel
theorem dX12_now_32 : decode cX12_now 32 = .ok (.getfield 31, 3) := by decide +kernel
theorem dX12_now_35 : decode cX12_now 35 = .ok (.bipush 10, 2) := by decide +kernel
theorem dX12_now_37 : decode cX12_now 37 = .ok (.iload 4, 2) := by decide +kernel
theorem dX12_now_39 : decode cX12_now 39 = .ok (.iadd, 1) := by decide +kernel
theorem dX12_now_40 : decode cX12_now 40 = .ok (.iaload, 1) := by decide +kernel
theorem dX12_now_41 : decode cX12_now 41 = .ok (.ifCond .ne 10, 3) := by decide +kernel
theorem dX12_now_44 : decode cX12_now 44 = .ok (.iconst 1, 1) := by decide +kernel
theorem dX12_now_45 : decode cX12_now 45 = .ok (.iload 4, 2) := by decide +kernel
theorem dX12_now_47 : decode cX12_now 47 = .ok (.ishl, 1) := by decide +kernel
theorem dX12_now_48 : decode cX12_now 48 = .ok (.goto 4, 3) := by decide +kernel
theorem dX12_now_51 : decode cX12_now 51 = .ok (.iconst 0, 1) := by decide +kernel
theorem dX12_now_52 : decode cX12_now 52 = .ok (.ior, 1) := by decide +kernel
theorem dX12_now_53 : decode cX12_now 53 = .ok (.istore_n 2, 1) := by decide +kernel
theorem dX12_now_54 : decode cX12_now 54 = .ok (.iload_n 3, 1) := by decide +kernel
theorem dX12_now_55 : decode cX12_now 55 = .ok (.aload_n 0, 1) := by decide +kernel
theorem dX12_now_56 : decode cX12_now 56 = .ok (.invokevirtual 181, 3) := by decide +kernel
theorem dX12_now_59 : decode cX12_now 59 = .ok (.ifCond .eq 23, 3) := by decide +kernel
theorem dX12_now_62 : decode cX12_now 62 = .ok (.aload_n 0, 1) := by decide +kernel
theorem dX12_now_63 : decode cX12_now 63 = .ok (.aload_n 0, 1) := by decide +kernel
theorem dX12_now_64 : decode cX12_now 64 = .ok (.getfield 31, 3) := by decide +kernel
theorem dX12_now_67 : decode cX12_now 67 = .ok (.iload 4, 2) := by decide +kernel
theorem dX12_now_69 : decode cX12_now 69 = .ok (.invokevirtual 184, 3) := by decide +kernel
theorem dX12_now_72 : decode cX12_now 72 = .ok (.ifCond .eq 10, 3) := by decide +kernel
theorem dX12_now_75 : decode cX12_now 75 = .ok (.iconst 1, 1) := by decide +kernel
theorem dX12_now_76 : decode cX12_now 76 = .ok (.iload 4, 2) := by decide +kernel
theorem dX12_now_78 : decode cX12_now 78 = .ok (.ishl, 1) := by decide +kernel
theorem dX12_now_79 : decode cX12_now 79 = .ok (.goto 4, 3) := by decide +kernel
theorem dX12_now_82 : decode cX12_now 82 = .ok (.iconst 0, 1) := by decide +kernel
theorem dX12_now_83 : decode cX12_now 83 = .ok (.ior, 1) := by decide +kernel
theorem dX12_now_84 : decode cX12_now 84 = .ok (.istore_n 3, 1) := by decide +kernel
theorem dX12_now_85 : decode cX12_now 85 = .ok (.iinc 4 1, 3) := by decide +kernel
theorem dX12_now_88 : decode cX12_now 88 = .ok (.goto (-81), 3) := by decide +kernel
theorem dX12_now_91 : decode cX12_now 91 = .ok (.iload_n 1, 1) := by decide +kernel
theorem dX12_now_92 : decode cX12_now 92 = .ok (.tableswitch 93 0 7 #[48, 55, 62, 69, 77, 84, 89, 91], 48) := by decide +kernel
theorem dX12_now_140 : decode cX12_now 140 = .ok (.aload_n 0, 1) := by decide +kernel
theorem dX12_now_141 : decode cX12_now 141 = .ok (.getfield 31, 3) := by decide +kernel
theorem dX12_now_144 : decode cX12_now 144 = .ok (.iconst 0, 1) := by decide +kernel
theorem dX12_now_145 : decode cX12_now 145 = .ok (.iaload, 1) := by decide +kernel
theorem dX12_now_146 : decode cX12_now 146 = .ok (.ireturn, 1) := by decide +kernel
theorem dX12_now_147 : decode cX12_now 147 = .ok (.aload_n 0, 1) := by decide +kernel
theorem dX12_now_148 : decode cX12_now 148 = .ok (.getfield 31, 3) := by decide +kernel
theorem dX12_now_151 : decode cX12_now 151 = .ok (.iconst 1, 1) := by decide +kernel
theorem dX12_now_152 : decode cX12_now 152 = .ok (.iaload, 1) := by decide +kernel
theorem dX12_now_153 : decode cX12_now 153 = .ok (.ireturn, 1) := by decide +kernel
theorem dX12_now_154 : decode cX12_now 154 = .ok (.aload_n 0, 1) := by decide +kernel
theorem dX12_now_155 : decode cX12_now 155 = .ok (.getfield 31, 3) := by decide +kernel
theorem dX12_now_158 : decode cX12_now 158 = .ok (.iconst 2, 1) := by decide +kernel
theorem dX12_now_159 : decode cX12_now 159 = .ok (.iaload, 1) := by decide +kernel
theorem dX12_now_160 : decode cX12_now 160 = .ok (.ireturn, 1) := by decide +kernel
theorem dX12_now_161 : decode cX12_now 161 = .ok (.aload_n 0, 1) := by decide +kernel
theorem dX12_now_162 : decode cX12_now 162 = .ok (.getfield 31, 3) := by decide +kernel
theorem dX12_now_165 : decode cX12_now 165 = .ok (.invokestatic 168, 3) := by decide +kernel
theorem dX12_now_168 : decode cX12_now 168 = .ok (.ireturn, 1) := by decide +kernel
theorem dX12_now_169 : decode cX12_now 169 = .ok (.aload_n 0, 1) := by decide +kernel
theorem dX12_now_170 : decode cX12_now 170 = .ok (.getfield 31, 3) := by decide +kernel
theorem dX12_now_173 : decode cX12_now 173 = .ok (.iconst 3, 1) := by decide +kernel
theorem dX12_now_174 : decode cX12_now 174 = .ok (.iaload, 1) := by decide +kernel
theorem dX12_now_175 : decode cX12_now 175 = .ok (.ireturn, 1) := by decide +kernel
theorem dX12_now_176 : decode cX12_now 176 = .ok (.aload_n 0, 1) := by decide +kernel
theorem dX12_now_177 : decode cX12_now 177 = .ok (.getfield 152, 3) := by decide +kernel
theorem dX12_now_180 : decode cX12_now 180 = .ok (.ireturn, 1) := by decide +kernel
theorem dX12_now_181 : decode cX12_now 181 = .ok (.iload_n 2, 1) := by decide +kernel
theorem dX12_now_182 : decode cX12_now 182 = .ok (.ireturn, 1) := by decide +kernel
theorem dX12_now_183 : decode cX12_now 183 = .ok (.iload_n 3, 1) := by decide +kernel
theorem dX12_now_184 : decode cX12_now 184 = .ok (.ireturn, 1) := by decide +kernel
theorem dX12_now_185 : decode cX12_now 185 = .ok (.iconst (-1), 1) := by decide +kernel
theorem dX12_now_186 : decode cX12_now 186 = .ok (.ireturn, 1) := by decide +kernel
theorem dX12_on_0 : decode cX12_on 0 = .ok (.iconst 0, 1) := by decide +kernel
theorem dX12_on_1 : decode cX12_on 1 = .ok (.istore_n 1, 1) := by decide +kernel
theorem dX12_on_2 : decode cX12_on 2 = .ok (.iload_n 1, 1) := by decide +kernel
theorem dX12_on_3 : decode cX12_on 3 = .ok (.bipush 28, 2) := by decide +kernel
theorem dX12_on_5 : decode cX12_on 5 = .ok (.if_icmp .ge 21, 3) := by decide +kernel
theorem dX12_on_8 : decode cX12_on 8 = .ok (.aload_n 0, 1) := by decide +kernel
theorem dX12_on_9 : decode cX12_on 9 = .ok (.getfield 34, 3) := by decide +kernel
theorem dX12_on_12 : decode cX12_on 12 = .ok (.iload_n 1, 1) := by decide +kernel
theorem dX12_on_13 : decode cX12_on 13 = .ok (.aload_n 0, 1) := by decide +kernel
theorem dX12_on_14 : decode cX12_on 14 = .ok (.getfield 31, 3) := by decide +kernel
theorem dX12_on_17 : decode cX12_on 17 = .ok (.iload_n 1, 1) := by decide +kernel
theorem dX12_on_18 : decode cX12_on 18 = .ok (.iaload, 1) := by decide +kernel
theorem dX12_on_19 : decode cX12_on 19 = .ok (.iastore, 1) := by decide +kernel
theorem dX12_on_20 : decode cX12_on 20 = .ok (.iinc 1 1, 3) := by decide +kernel
theorem dX12_on_23 : decode cX12_on 23 = .ok (.goto (-21), 3) := by decide +kernel
theorem dX12_on_26 : decode cX12_on 26 = .ok (.iconst 0, 1) := by decide +kernel
theorem dX12_on_27 : decode cX12_on 27 = .ok (.istore_n 1, 1) := by decide +kernel
theorem dX12_on_28 : decode cX12_on 28 = .ok (.iload_n 1, 1) := by decide +kernel
theorem dX12_on_29 : decode cX12_on 29 = .ok (.bipush 30, 2) := by decide +kernel
theorem dX12_on_31 : decode cX12_on 31 = .ok (.if_icmp .ge 76, 3) := by decide +kernel
theorem dX12_on_34 : decode cX12_on 34 = .ok (.aload_n 0, 1) := by decide +kernel
theorem dX12_on_35 : decode cX12_on 35 = .ok (.getfield 34, 3) := by decide +kernel
theorem dX12_on_38 : decode cX12_on 38 = .ok (.iconst 3, 1) := by decide +kernel
theorem dX12_on_39 : decode cX12_on 39 = .ok (.iaload, 1) := by decide +kernel
theorem dX12_on_40 : decode cX12_on 40 = .ok (.iconst 1, 1) := by decide +kernel
theorem dX12_on_41 : decode cX12_on 41 = .ok (.if_icmp .ne 66, 3) := by decide +kernel
theorem dX12_on_44 : decode cX12_on 44 = .ok (.aload_n 0, 1) := by decide +kernel
theorem dX12_on_45 : decode cX12_on 45 = .ok (.getfield 34, 3) := by decide +kernel
theorem dX12_on_48 : decode cX12_on 48 = .ok (.iconst 1, 1) := by decide +kernel
theorem dX12_on_49 : decode cX12_on 49 = .ok (.iaload, 1) := by decide +kernel
theorem dX12_on_50 : decode cX12_on 50 = .ok (.ifCond .le 35, 3) := by decide +kernel
theorem dX12_on_53 : decode cX12_on 53 = .ok (.aload_n 0, 1) := by decide +kernel
theorem dX12_on_54 : decode cX12_on 54 = .ok (.getfield 34, 3) := by decide +kernel
theorem dX12_on_57 : decode cX12_on 57 = .ok (.iconst 2, 1) := by decide +kernel
theorem dX12_on_58 : decode cX12_on 58 = .ok (.iaload, 1) := by decide +kernel
theorem dX12_on_59 : decode cX12_on 59 = .ok (.ifCond .le 13, 3) := by decide +kernel
theorem dX12_on_62 : decode cX12_on 62 = .ok (.aload_n 0, 1) := by decide +kernel
theorem dX12_on_63 : decode cX12_on 63 = .ok (.getfield 34, 3) := by decide +kernel
theorem dX12_on_66 : decode cX12_on 66 = .ok (.invokestatic 172, 3) := by decide +kernel
theorem dX12_on_69 : decode cX12_on 69 = .ok (.goto (-25), 3) := by decide +kernel
theorem dX12_on_72 : decode cX12_on 72 = .ok (.aload_n 0, 1) := by decide +kernel
theorem dX12_on_73 : decode cX12_on 73 = .ok (.getfield 34, 3) := by decide +kernel
theorem dX12_on_76 : decode cX12_on 76 = .ok (.iconst 1, 1) := by decide +kernel
theorem dX12_on_77 : decode cX12_on 77 = .ok (.dup2, 1) := by decide +kernel
theorem dX12_on_78 : decode cX12_on 78 = .ok (.iaload, 1) := by decide +kernel
theorem dX12_on_79 : decode cX12_on 79 = .ok (.iconst 1, 1) := by decide +kernel
theorem dX12_on_80 : decode cX12_on 80 = .ok (.isub, 1) := by decide +kernel
theorem dX12_on_81 : decode cX12_on 81 = .ok (.iastore, 1) := by decide +kernel
theorem dX12_on_82 : decode cX12_on 82 = .ok (.goto (-38), 3) := by decide +kernel
theorem dX12_on_85 : decode cX12_on 85 = .ok (.iload_n 1, 1) := by decide +kernel
theorem dX12_on_86 : decode cX12_on 86 = .ok (.aload_n 0, 1) := by decide +kernel
theorem dX12_on_87 : decode cX12_on 87 = .ok (.aload_n 0, 1) := by decide +kernel
theorem dX12_on_88 : decode cX12_on 88 = .ok (.getfield 34, 3) := by decide +kernel
theorem dX12_on_91 : decode cX12_on 91 = .ok (.invokevirtual 195, 3) := by decide +kernel
theorem dX12_on_94 : decode cX12_on 94 = .ok (.ifCond .eq 7, 3) := by decide +kernel
theorem dX12_on_97 : decode cX12_on 97 = .ok (.iconst 1, 1) := by decide +kernel
theorem dX12_on_98 : decode cX12_on 98 = .ok (.goto 4, 3) := by decide +kernel
theorem dX12_on_101 : decode cX12_on 101 = .ok (.iconst 0, 1) := by decide +kernel
theorem dX12_on_102 : decode cX12_on 102 = .ok (.iadd, 1) := by decide +kernel
theorem dX12_on_103 : decode cX12_on 103 = .ok (.istore_n 1, 1) := by decide +kernel
theorem dX12_on_104 : decode cX12_on 104 = .ok (.goto (-76), 3) := by decide +kernel
theorem dX12_on_107 : decode cX12_on 107 = .ok (.iload_n 1, 1) := by decide +kernel
theorem dX12_on_108 : decode cX12_on 108 = .ok (.ireturn, 1) := by decide +kernel
theorem dX12_saves_0 : decode cX12_saves 0 = .ok (.aload_n 0, 1) := by decide +kernel
theorem dX12_saves_1 : decode cX12_saves 1 = .ok (.invokevirtual 149, 3) := by decide +kernel
theorem dX12_saves_4 : decode cX12_saves 4 = .ok (.iconst 0, 1) := by decide +kernel
theorem dX12_saves_5 : decode cX12_saves 5 = .ok (.istore_n 1, 1) := by decide +kernel
theorem dX12_saves_6 : decode cX12_saves 6 = .ok (.iconst 0, 1) := by decide +kernel
theorem dX12_saves_7 : decode cX12_saves 7 = .ok (.istore_n 2, 1) := by decide +kernel
theorem dX12_saves_8 : decode cX12_saves 8 = .ok (.iload_n 2, 1) := by decide +kernel
theorem dX12_saves_9 : decode cX12_saves 9 = .ok (.bipush 30, 2) := by decide +kernel
theorem dX12_saves_11 : decode cX12_saves 11 = .ok (.if_icmp .ge 214, 3) := by decide +kernel
theorem dX12_saves_14 : decode cX12_saves 14 = .ok (.aload_n 0, 1) := by decide +kernel
theorem dX12_saves_15 : decode cX12_saves 15 = .ok (.getfield 34, 3) := by decide +kernel
theorem dX12_saves_18 : decode cX12_saves 18 = .ok (.iconst 3, 1) := by decide +kernel
theorem dX12_saves_19 : decode cX12_saves 19 = .ok (.iaload, 1) := by decide +kernel
theorem dX12_saves_20 : decode cX12_saves 20 = .ok (.iconst 1, 1) := by decide +kernel
theorem dX12_saves_21 : decode cX12_saves 21 = .ok (.if_icmp .ne 204, 3) := by decide +kernel
theorem dX12_saves_24 : decode cX12_saves 24 = .ok (.aload_n 0, 1) := by decide +kernel
theorem dX12_saves_25 : decode cX12_saves 25 = .ok (.getfield 34, 3) := by decide +kernel
theorem dX12_saves_28 : decode cX12_saves 28 = .ok (.iconst 1, 1) := by decide +kernel
theorem dX12_saves_29 : decode cX12_saves 29 = .ok (.iaload, 1) := by decide +kernel
theorem dX12_saves_30 : decode cX12_saves 30 = .ok (.ifCond .le 117, 3) := by decide +kernel
theorem dX12_saves_33 : decode cX12_saves 33 = .ok (.iload_n 1, 1) := by decide +kernel
theorem dX12_saves_34 : decode cX12_saves 34 = .ok (.aload_n 0, 1) := by decide +kernel
theorem dX12_saves_35 : decode cX12_saves 35 = .ok (.getfield 199, 3) := by decide +kernel
theorem dX12_saves_38 : decode cX12_saves 38 = .ok (.if_icmp .ge 52, 3) := by decide +kernel
theorem dX12_saves_41 : decode cX12_saves 41 = .ok (.aload_n 0, 1) := by decide +kernel
theorem dX12_saves_42 : decode cX12_saves 42 = .ok (.getfield 34, 3) := by decide +kernel
theorem dX12_saves_45 : decode cX12_saves 45 = .ok (.iconst 2, 1) := by decide +kernel
theorem dX12_saves_46 : decode cX12_saves 46 = .ok (.iaload, 1) := by decide +kernel
theorem dX12_saves_47 : decode cX12_saves 47 = .ok (.ifCond .eq 22, 3) := by decide +kernel
theorem dX12_saves_50 : decode cX12_saves 50 = .ok (.aload_n 0, 1) := by decide +kernel
theorem dX12_saves_51 : decode cX12_saves 51 = .ok (.getfield 34, 3) := by decide +kernel
theorem dX12_saves_54 : decode cX12_saves 54 = .ok (.bipush 10, 2) := by decide +kernel
theorem dX12_saves_56 : decode cX12_saves 56 = .ok (.aload_n 0, 1) := by decide +kernel
theorem dX12_saves_57 : decode cX12_saves 57 = .ok (.getfield 34, 3) := by decide +kernel
theorem dX12_saves_60 : decode cX12_saves 60 = .ok (.invokestatic 168, 3) := by decide +kernel
theorem dX12_saves_63 : decode cX12_saves 63 = .ok (.iadd, 1) := by decide +kernel
theorem dX12_saves_64 : decode cX12_saves 64 = .ok (.iaload, 1) := by decide +kernel
theorem dX12_saves_65 : decode cX12_saves 65 = .ok (.iconst 1, 1) := by decide +kernel
theorem dX12_saves_66 : decode cX12_saves 66 = .ok (.if_icmp .ne 24, 3) := by decide +kernel
theorem dX12_saves_69 : decode cX12_saves 69 = .ok (.aload_n 0, 1) := by decide +kernel
theorem dX12_saves_70 : decode cX12_saves 70 = .ok (.aload_n 0, 1) := by decide +kernel
theorem dX12_saves_71 : decode cX12_saves 71 = .ok (.getfield 34, 3) := by decide +kernel
theorem dX12_saves_74 : decode cX12_saves 74 = .ok (.aload_n 0, 1) := by decide +kernel
theorem dX12_saves_75 : decode cX12_saves 75 = .ok (.getfield 40, 3) := by decide +kernel
theorem dX12_saves_78 : decode cX12_saves 78 = .ok (.iload_n 1, 1) := by decide +kernel
theorem dX12_saves_79 : decode cX12_saves 79 = .ok (.iaload, 1) := by decide +kernel
theorem dX12_saves_80 : decode cX12_saves 80 = .ok (.invokevirtual 184, 3) := by decide +kernel
theorem dX12_saves_83 : decode cX12_saves 83 = .ok (.ifCond .eq 7, 3) := by decide +kernel
theorem dX12_saves_86 : decode cX12_saves 86 = .ok (.iconst 1, 1) := by decide +kernel
theorem dX12_saves_87 : decode cX12_saves 87 = .ok (.goto 4, 3) := by decide +kernel
theorem dX12_saves_90 : decode cX12_saves 90 = .ok (.iconst 0, 1) := by decide +kernel
theorem dX12_saves_91 : decode cX12_saves 91 = .ok (.istore_n 3, 1) := by decide +kernel
theorem dX12_saves_92 : decode cX12_saves 92 = .ok (.iload_n 3, 1) := by decide +kernel
theorem dX12_saves_93 : decode cX12_saves 93 = .ok (.ifCond .eq 22, 3) := by decide +kernel
theorem dX12_saves_96 : decode cX12_saves 96 = .ok (.aload_n 0, 1) := by decide +kernel
theorem dX12_saves_97 : decode cX12_saves 97 = .ok (.getfield 34, 3) := by decide +kernel
theorem dX12_saves_100 : decode cX12_saves 100 = .ok (.aload_n 0, 1) := by decide +kernel
theorem dX12_saves_101 : decode cX12_saves 101 = .ok (.getfield 40, 3) := by decide +kernel
theorem dX12_saves_104 : decode cX12_saves 104 = .ok (.iload_n 1, 1) := by decide +kernel
theorem dX12_saves_105 : decode cX12_saves 105 = .ok (.iaload, 1) := by decide +kernel
theorem dX12_saves_106 : decode cX12_saves 106 = .ok (.invokestatic 191, 3) := by decide +kernel
theorem dX12_saves_109 : decode cX12_saves 109 = .ok (.iinc 1 1, 3) := by decide +kernel
theorem dX12_saves_112 : decode cX12_saves 112 = .ok (.goto 32, 3) := by decide +kernel
theorem dX12_saves_115 : decode cX12_saves 115 = .ok (.aload_n 0, 1) := by decide +kernel
theorem dX12_saves_116 : decode cX12_saves 116 = .ok (.getfield 34, 3) := by decide +kernel
theorem dX12_saves_119 : decode cX12_saves 119 = .ok (.iconst 2, 1) := by decide +kernel
theorem dX12_saves_120 : decode cX12_saves 120 = .ok (.iaload, 1) := by decide +kernel
theorem dX12_saves_121 : decode cX12_saves 121 = .ok (.ifCond .le 13, 3) := by decide +kernel
theorem dX12_saves_124 : decode cX12_saves 124 = .ok (.aload_n 0, 1) := by decide +kernel
theorem dX12_saves_125 : decode cX12_saves 125 = .ok (.getfield 34, 3) := by decide +kernel
theorem dX12_saves_128 : decode cX12_saves 128 = .ok (.invokestatic 172, 3) := by decide +kernel
theorem dX12_saves_131 : decode cX12_saves 131 = .ok (.goto 13, 3) := by decide +kernel
theorem dX12_saves_134 : decode cX12_saves 134 = .ok (.aload_n 0, 1) := by decide +kernel
theorem dX12_saves_135 : decode cX12_saves 135 = .ok (.getfield 34, 3) := by decide +kernel
theorem dX12_saves_138 : decode cX12_saves 138 = .ok (.iconst 1, 1) := by decide +kernel
theorem dX12_saves_139 : decode cX12_saves 139 = .ok (.dup2, 1) := by decide +kernel
theorem dX12_saves_140 : decode cX12_saves 140 = .ok (.iaload, 1) := by decide +kernel
theorem dX12_saves_141 : decode cX12_saves 141 = .ok (.iconst 1, 1) := by decide +kernel
theorem dX12_saves_142 : decode cX12_saves 142 = .ok (.isub, 1) := by decide +kernel
theorem dX12_saves_143 : decode cX12_saves 143 = .ok (.iastore, 1) := by decide +kernel
theorem dX12_saves_144 : decode cX12_saves 144 = .ok (.goto (-120), 3) := by decide +kernel
theorem dX12_saves_147 : decode cX12_saves 147 = .ok (.aload_n 0, 1) := by decide +kernel
theorem dX12_saves_148 : decode cX12_saves 148 = .ok (.getfield 43, 3) := by decide +kernel
theorem dX12_saves_151 : decode cX12_saves 151 = .ok (.iload_n 2, 1) := by decide +kernel
theorem dX12_saves_152 : decode cX12_saves 152 = .ok (.aload_n 0, 1) := by decide +kernel
theorem dX12_saves_153 : decode cX12_saves 153 = .ok (.getfield 34, 3) := by decide +kernel
theorem dX12_saves_156 : decode cX12_saves 156 = .ok (.iconst 2, 1) := by decide +kernel
theorem dX12_saves_157 : decode cX12_saves 157 = .ok (.iaload, 1) := by decide +kernel
theorem dX12_saves_158 : decode cX12_saves 158 = .ok (.iastore, 1) := by decide +kernel
theorem dX12_saves_159 : decode cX12_saves 159 = .ok (.aload_n 0, 1) := by decide +kernel
theorem dX12_saves_160 : decode cX12_saves 160 = .ok (.getfield 46, 3) := by decide +kernel
theorem dX12_saves_163 : decode cX12_saves 163 = .ok (.iload_n 2, 1) := by decide +kernel
theorem dX12_saves_164 : decode cX12_saves 164 = .ok (.iconst 0, 1) := by decide +kernel
theorem dX12_saves_165 : decode cX12_saves 165 = .ok (.iastore, 1) := by decide +kernel
theorem dX12_saves_166 : decode cX12_saves 166 = .ok (.iconst 0, 1) := by decide +kernel
theorem dX12_saves_167 : decode cX12_saves 167 = .ok (.istore_n 3, 1) := by decide +kernel
theorem dX12_saves_168 : decode cX12_saves 168 = .ok (.iload_n 3, 1) := by decide +kernel
theorem dX12_saves_169 : decode cX12_saves 169 = .ok (.aload_n 0, 1) := by decide +kernel
theorem dX12_saves_170 : decode cX12_saves 170 = .ok (.getfield 34, 3) := by decide +kernel
theorem dX12_saves_173 : decode cX12_saves 173 = .ok (.iconst 2, 1) := by decide +kernel
theorem dX12_saves_174 : decode cX12_saves 174 = .ok (.iaload, 1) := by decide +kernel
theorem dX12_saves_175 : decode cX12_saves 175 = .ok (.if_icmp .ge 28, 3) := by decide +kernel
theorem dX12_saves_178 : decode cX12_saves 178 = .ok (.aload_n 0, 1) := by decide +kernel
theorem dX12_saves_179 : decode cX12_saves 179 = .ok (.getfield 46, 3) := by decide +kernel
theorem dX12_saves_182 : decode cX12_saves 182 = .ok (.iload_n 2, 1) := by decide +kernel
theorem dX12_saves_183 : decode cX12_saves 183 = .ok (.dup2, 1) := by decide +kernel
theorem dX12_saves_184 : decode cX12_saves 184 = .ok (.iaload, 1) := by decide +kernel
theorem dX12_saves_185 : decode cX12_saves 185 = .ok (.iconst 1, 1) := by decide +kernel
theorem dX12_saves_186 : decode cX12_saves 186 = .ok (.aload_n 0, 1) := by decide +kernel
theorem dX12_saves_187 : decode cX12_saves 187 = .ok (.getfield 34, 3) := by decide +kernel
theorem dX12_saves_190 : decode cX12_saves 190 = .ok (.iconst 4, 1) := by decide +kernel
theorem dX12_saves_191 : decode cX12_saves 191 = .ok (.iload_n 3, 1) := by decide +kernel
theorem dX12_saves_192 : decode cX12_saves 192 = .ok (.iadd, 1) := by decide +kernel
theorem dX12_saves_193 : decode cX12_saves 193 = .ok (.iaload, 1) := by decide +kernel
theorem dX12_saves_194 : decode cX12_saves 194 = .ok (.ishl, 1) := by decide +kernel
theorem dX12_saves_195 : decode cX12_saves 195 = .ok (.ior, 1) := by decide +kernel
theorem dX12_saves_196 : decode cX12_saves 196 = .ok (.iastore, 1) := by decide +kernel
theorem dX12_saves_197 : decode cX12_saves 197 = .ok (.iinc 3 1, 3) := by decide +kernel
theorem dX12_saves_200 : decode cX12_saves 200 = .ok (.goto (-32), 3) := by decide +kernel
theorem dX12_saves_203 : decode cX12_saves 203 = .ok (.iload_n 2, 1) := by decide +kernel
theorem dX12_saves_204 : decode cX12_saves 204 = .ok (.aload_n 0, 1) := by decide +kernel
theorem dX12_saves_205 : decode cX12_saves 205 = .ok (.aload_n 0, 1) := by decide +kernel
theorem dX12_saves_206 : decode cX12_saves 206 = .ok (.getfield 34, 3) := by decide +kernel
theorem dX12_saves_209 : decode cX12_saves 209 = .ok (.invokevirtual 195, 3) := by decide +kernel
theorem dX12_saves_212 : decode cX12_saves 212 = .ok (.ifCond .eq 7, 3) := by decide +kernel
theorem dX12_saves_215 : decode cX12_saves 215 = .ok (.iconst 1, 1) := by decide +kernel
theorem dX12_saves_216 : decode cX12_saves 216 = .ok (.goto 4, 3) := by decide +kernel
theorem dX12_saves_219 : decode cX12_saves 219 = .ok (.iconst 0, 1) := by decide +kernel
theorem dX12_saves_220 : decode cX12_saves 220 = .ok (.iadd, 1) := by decide +kernel
theorem dX12_saves_221 : decode cX12_saves 221 = .ok (.istore_n 2, 1) := by decide +kernel
theorem dX12_saves_222 : decode cX12_saves 222 = .ok (.goto (-214), 3) := by decide +kernel
theorem dX12_saves_225 : decode cX12_saves 225 = .ok (.iload_n 2, 1) := by decide +kernel
theorem dX12_saves_226 : decode cX12_saves 226 = .ok (.ireturn, 1) := by decide +kernel
theorem dX12_by_0 : decode cX12_by 0 = .ok (.iload_n 1, 1) := by decide +kernel
theorem dX12_by_1 : decode cX12_by 1 = .ok (.istore_n 2, 1) := by decide +kernel
theorem dX12_by_2 : decode cX12_by 2 = .ok (.aload_n 0, 1) := by decide +kernel
theorem dX12_by_3 : decode cX12_by 3 = .ok (.iconst 0, 1) := by decide +kernel
theorem dX12_by_4 : decode cX12_by 4 = .ok (.putfield 199, 3) := by decide +kernel
theorem dX12_by_7 : decode cX12_by 7 = .ok (.iconst 0, 1) := by decide +kernel
theorem dX12_by_8 : decode cX12_by 8 = .ok (.istore_n 3, 1) := by decide +kernel
theorem dX12_by_9 : decode cX12_by 9 = .ok (.iload_n 1, 1) := by decide +kernel
theorem dX12_by_10 : decode cX12_by 10 = .ok (.ifCond .lt 13, 3) := by decide +kernel
theorem dX12_by_13 : decode cX12_by 13 = .ok (.iload_n 1, 1) := by decide +kernel
theorem dX12_by_14 : decode cX12_by 14 = .ok (.ldc 202, 2) := by decide +kernel
theorem dX12_by_16 : decode cX12_by 16 = .ok (.if_icmp .ge 7, 3) := by decide +kernel
theorem dX12_by_19 : decode cX12_by 19 = .ok (.iconst 1, 1) := by decide +kernel
theorem dX12_by_20 : decode cX12_by 20 = .ok (.goto 4, 3) := by decide +kernel
theorem dX12_by_23 : decode cX12_by 23 = .ok (.iconst 0, 1) := by decide +kernel
theorem dX12_by_24 : decode cX12_by 24 = .ok (.istore 4, 2) := by decide +kernel
theorem dX12_by_26 : decode cX12_by 26 = .ok (.iload_n 2, 1) := by decide +kernel
theorem dX12_by_27 : decode cX12_by 27 = .ok (.ifCond .le 75, 3) := by decide +kernel
theorem dX12_by_30 : decode cX12_by 30 = .ok (.iload 4, 2) := by decide +kernel
theorem dX12_by_32 : decode cX12_by 32 = .ok (.ifCond .eq 70, 3) := by decide +kernel
theorem dX12_by_35 : decode cX12_by 35 = .ok (.iload_n 2, 1) := by decide +kernel
theorem dX12_by_36 : decode cX12_by 36 = .ok (.bipush 10, 2) := by decide +kernel
theorem dX12_by_38 : decode cX12_by 38 = .ok (.irem, 1) := by decide +kernel
theorem dX12_by_39 : decode cX12_by 39 = .ok (.iconst 1, 1) := by decide +kernel
theorem dX12_by_40 : decode cX12_by 40 = .ok (.isub, 1) := by decide +kernel
theorem dX12_by_41 : decode cX12_by 41 = .ok (.istore 5, 2) := by decide +kernel
theorem dX12_by_43 : decode cX12_by 43 = .ok (.aload_n 0, 1) := by decide +kernel
theorem dX12_by_44 : decode cX12_by 44 = .ok (.iload 5, 2) := by decide +kernel
theorem dX12_by_46 : decode cX12_by 46 = .ok (.invokevirtual 176, 3) := by decide +kernel
theorem dX12_by_49 : decode cX12_by 49 = .ok (.ifCond .eq 16, 3) := by decide +kernel
theorem dX12_by_52 : decode cX12_by 52 = .ok (.iload_n 3, 1) := by decide +kernel
theorem dX12_by_53 : decode cX12_by 53 = .ok (.iload 5, 2) := by decide +kernel
theorem dX12_by_55 : decode cX12_by 55 = .ok (.ishr, 1) := by decide +kernel
theorem dX12_by_56 : decode cX12_by 56 = .ok (.iconst 1, 1) := by decide +kernel
theorem dX12_by_57 : decode cX12_by 57 = .ok (.iand, 1) := by decide +kernel
theorem dX12_by_58 : decode cX12_by 58 = .ok (.ifCond .ne 7, 3) := by decide +kernel
theorem dX12_by_61 : decode cX12_by 61 = .ok (.iconst 1, 1) := by decide +kernel
theorem dX12_by_62 : decode cX12_by 62 = .ok (.goto 4, 3) := by decide +kernel
theorem dX12_by_65 : decode cX12_by 65 = .ok (.iconst 0, 1) := by decide +kernel
theorem dX12_by_66 : decode cX12_by 66 = .ok (.istore 4, 2) := by decide +kernel
theorem dX12_by_68 : decode cX12_by 68 = .ok (.iload_n 3, 1) := by decide +kernel
theorem dX12_by_69 : decode cX12_by 69 = .ok (.iload 4, 2) := by decide +kernel
theorem dX12_by_71 : decode cX12_by 71 = .ok (.ifCond .eq 10, 3) := by decide +kernel
theorem dX12_by_74 : decode cX12_by 74 = .ok (.iconst 1, 1) := by decide +kernel
theorem dX12_by_75 : decode cX12_by 75 = .ok (.iload 5, 2) := by decide +kernel
theorem dX12_by_77 : decode cX12_by 77 = .ok (.ishl, 1) := by decide +kernel
theorem dX12_by_78 : decode cX12_by 78 = .ok (.goto 4, 3) := by decide +kernel
theorem dX12_by_81 : decode cX12_by 81 = .ok (.iconst 0, 1) := by decide +kernel
theorem dX12_by_82 : decode cX12_by 82 = .ok (.ior, 1) := by decide +kernel
theorem dX12_by_83 : decode cX12_by 83 = .ok (.istore_n 3, 1) := by decide +kernel
theorem dX12_by_84 : decode cX12_by 84 = .ok (.aload_n 0, 1) := by decide +kernel
theorem dX12_by_85 : decode cX12_by 85 = .ok (.dup, 1) := by decide +kernel
theorem dX12_by_86 : decode cX12_by 86 = .ok (.getfield 199, 3) := by decide +kernel
theorem dX12_by_89 : decode cX12_by 89 = .ok (.iconst 1, 1) := by decide +kernel
theorem dX12_by_90 : decode cX12_by 90 = .ok (.iadd, 1) := by decide +kernel
theorem dX12_by_91 : decode cX12_by 91 = .ok (.putfield 199, 3) := by decide +kernel
theorem dX12_by_94 : decode cX12_by 94 = .ok (.iload_n 2, 1) := by decide +kernel
theorem dX12_by_95 : decode cX12_by 95 = .ok (.bipush 10, 2) := by decide +kernel
theorem dX12_by_97 : decode cX12_by 97 = .ok (.idiv, 1) := by decide +kernel
theorem dX12_by_98 : decode cX12_by 98 = .ok (.istore_n 2, 1) := by decide +kernel
theorem dX12_by_99 : decode cX12_by 99 = .ok (.goto (-73), 3) := by decide +kernel
theorem dX12_by_102 : decode cX12_by 102 = .ok (.iload 4, 2) := by decide +kernel
theorem dX12_by_104 : decode cX12_by 104 = .ok (.ifCond .ne 5, 3) := by decide +kernel
theorem dX12_by_107 : decode cX12_by 107 = .ok (.iconst (-1), 1) := by decide +kernel
theorem dX12_by_108 : decode cX12_by 108 = .ok (.ireturn, 1) := by decide +kernel
theorem dX12_by_109 : decode cX12_by 109 = .ok (.iload_n 1, 1) := by decide +kernel
theorem dX12_by_110 : decode cX12_by 110 = .ok (.istore_n 2, 1) := by decide +kernel
theorem dX12_by_111 : decode cX12_by 111 = .ok (.aload_n 0, 1) := by decide +kernel
theorem dX12_by_112 : decode cX12_by 112 = .ok (.getfield 199, 3) := by decide +kernel
theorem dX12_by_115 : decode cX12_by 115 = .ok (.iconst 1, 1) := by decide +kernel
theorem dX12_by_116 : decode cX12_by 116 = .ok (.isub, 1) := by decide +kernel
theorem dX12_by_117 : decode cX12_by 117 = .ok (.istore 5, 2) := by decide +kernel
theorem dX12_by_119 : decode cX12_by 119 = .ok (.iload 5, 2) := by decide +kernel
theorem dX12_by_121 : decode cX12_by 121 = .ok (.ifCond .lt 27, 3) := by decide +kernel
theorem dX12_by_124 : decode cX12_by 124 = .ok (.aload_n 0, 1) := by decide +kernel
theorem dX12_by_125 : decode cX12_by 125 = .ok (.getfield 40, 3) := by decide +kernel
theorem dX12_by_128 : decode cX12_by 128 = .ok (.iload 5, 2) := by decide +kernel
theorem dX12_by_130 : decode cX12_by 130 = .ok (.iload_n 2, 1) := by decide +kernel
theorem dX12_by_131 : decode cX12_by 131 = .ok (.bipush 10, 2) := by decide +kernel
theorem dX12_by_133 : decode cX12_by 133 = .ok (.irem, 1) := by decide +kernel
theorem dX12_by_134 : decode cX12_by 134 = .ok (.iconst 1, 1) := by decide +kernel
theorem dX12_by_135 : decode cX12_by 135 = .ok (.isub, 1) := by decide +kernel
theorem dX12_by_136 : decode cX12_by 136 = .ok (.iastore, 1) := by decide +kernel
theorem dX12_by_137 : decode cX12_by 137 = .ok (.iload_n 2, 1) := by decide +kernel
theorem dX12_by_138 : decode cX12_by 138 = .ok (.bipush 10, 2) := by decide +kernel
theorem dX12_by_140 : decode cX12_by 140 = .ok (.idiv, 1) := by decide +kernel
theorem dX12_by_141 : decode cX12_by 141 = .ok (.istore_n 2, 1) := by decide +kernel
theorem dX12_by_142 : decode cX12_by 142 = .ok (.iinc 5 (-1), 3) := by decide +kernel
theorem dX12_by_145 : decode cX12_by 145 = .ok (.goto (-26), 3) := by decide +kernel
theorem dX12_by_148 : decode cX12_by 148 = .ok (.aload_n 0, 1) := by decide +kernel
theorem dX12_by_149 : decode cX12_by 149 = .ok (.invokevirtual 203, 3) := by decide +kernel
theorem dX12_by_152 : decode cX12_by 152 = .ok (.ireturn, 1) := by decide +kernel
theorem dX12_code_0 : decode cX12_code 0 = .ok (.iconst 0, 1) := by decide +kernel
theorem dX12_code_1 : decode cX12_code 1 = .ok (.istore_n 1, 1) := by decide +kernel
theorem dX12_code_2 : decode cX12_code 2 = .ok (.iconst 0, 1) := by decide +kernel
theorem dX12_code_3 : decode cX12_code 3 = .ok (.istore_n 2, 1) := by decide +kernel
theorem dX12_code_4 : decode cX12_code 4 = .ok (.iload_n 2, 1) := by decide +kernel
theorem dX12_code_5 : decode cX12_code 5 = .ok (.aload_n 0, 1) := by decide +kernel
theorem dX12_code_6 : decode cX12_code 6 = .ok (.getfield 199, 3) := by decide +kernel
theorem dX12_code_9 : decode cX12_code 9 = .ok (.if_icmp .ge 23, 3) := by decide +kernel
theorem dX12_code_12 : decode cX12_code 12 = .ok (.bipush 10, 2) := by decide +kernel
theorem dX12_code_14 : decode cX12_code 14 = .ok (.iload_n 1, 1) := by decide +kernel
theorem dX12_code_15 : decode cX12_code 15 = .ok (.imul, 1) := by decide +kernel
theorem dX12_code_16 : decode cX12_code 16 = .ok (.aload_n 0, 1) := by decide +kernel
theorem dX12_code_17 : decode cX12_code 17 = .ok (.getfield 40, 3) := by decide +kernel
theorem dX12_code_20 : decode cX12_code 20 = .ok (.iload_n 2, 1) := by decide +kernel
theorem dX12_code_21 : decode cX12_code 21 = .ok (.iaload, 1) := by decide +kernel
theorem dX12_code_22 : decode cX12_code 22 = .ok (.iadd, 1) := by decide +kernel
theorem dX12_code_23 : decode cX12_code 23 = .ok (.iconst 1, 1) := by decide +kernel
theorem dX12_code_24 : decode cX12_code 24 = .ok (.iadd, 1) := by decide +kernel
theorem dX12_code_25 : decode cX12_code 25 = .ok (.istore_n 1, 1) := by decide +kernel
theorem dX12_code_26 : decode cX12_code 26 = .ok (.iinc 2 1, 3) := by decide +kernel
theorem dX12_code_29 : decode cX12_code 29 = .ok (.goto (-25), 3) := by decide +kernel
theorem dX12_code_32 : decode cX12_code 32 = .ok (.iload_n 1, 1) := by decide +kernel
theorem dX12_code_33 : decode cX12_code 33 = .ok (.ireturn, 1) := by decide +kernel
theorem dX12_turns_0 : decode cX12_turns 0 = .ok (.aload_n 0, 1) := by decide +kernel
theorem dX12_turns_1 : decode cX12_turns 1 = .ok (.getfield 199, 3) := by decide +kernel
theorem dX12_turns_4 : decode cX12_turns 4 = .ok (.iconst 1, 1) := by decide +kernel
theorem dX12_turns_5 : decode cX12_turns 5 = .ok (.isub, 1) := by decide +kernel
theorem dX12_turns_6 : decode cX12_turns 6 = .ok (.istore_n 1, 1) := by decide +kernel
theorem dX12_turns_7 : decode cX12_turns 7 = .ok (.iload_n 1, 1) := by decide +kernel
theorem dX12_turns_8 : decode cX12_turns 8 = .ok (.ifCond .lt 74, 3) := by decide +kernel
theorem dX12_turns_11 : decode cX12_turns 11 = .ok (.aload_n 0, 1) := by decide +kernel
theorem dX12_turns_12 : decode cX12_turns 12 = .ok (.getfield 40, 3) := by decide +kernel
theorem dX12_turns_15 : decode cX12_turns 15 = .ok (.iload_n 1, 1) := by decide +kernel
theorem dX12_turns_16 : decode cX12_turns 16 = .ok (.dup2, 1) := by decide +kernel
theorem dX12_turns_17 : decode cX12_turns 17 = .ok (.iaload, 1) := by decide +kernel
theorem dX12_turns_18 : decode cX12_turns 18 = .ok (.iconst 1, 1) := by decide +kernel
theorem dX12_turns_19 : decode cX12_turns 19 = .ok (.iadd, 1) := by decide +kernel
theorem dX12_turns_20 : decode cX12_turns 20 = .ok (.iastore, 1) := by decide +kernel
theorem dX12_turns_21 : decode cX12_turns 21 = .ok (.aload_n 0, 1) := by decide +kernel
theorem dX12_turns_22 : decode cX12_turns 22 = .ok (.getfield 40, 3) := by decide +kernel
theorem dX12_turns_25 : decode cX12_turns 25 = .ok (.iload_n 1, 1) := by decide +kernel
theorem dX12_turns_26 : decode cX12_turns 26 = .ok (.iaload, 1) := by decide +kernel
theorem dX12_turns_27 : decode cX12_turns 27 = .ok (.aload_n 0, 1) := by decide +kernel
theorem dX12_turns_28 : decode cX12_turns 28 = .ok (.getfield 137, 3) := by decide +kernel
theorem dX12_turns_31 : decode cX12_turns 31 = .ok (.if_icmp .ge 24, 3) := by decide +kernel
theorem dX12_turns_34 : decode cX12_turns 34 = .ok (.aload_n 0, 1) := by decide +kernel
theorem dX12_turns_35 : decode cX12_turns 35 = .ok (.iload_n 1, 1) := by decide +kernel
theorem dX12_turns_36 : decode cX12_turns 36 = .ok (.invokevirtual 207, 3) := by decide +kernel
theorem dX12_turns_39 : decode cX12_turns 39 = .ok (.ifCond .eq 16, 3) := by decide +kernel
theorem dX12_turns_42 : decode cX12_turns 42 = .ok (.aload_n 0, 1) := by decide +kernel
theorem dX12_turns_43 : decode cX12_turns 43 = .ok (.getfield 40, 3) := by decide +kernel
theorem dX12_turns_46 : decode cX12_turns 46 = .ok (.iload_n 1, 1) := by decide +kernel
theorem dX12_turns_47 : decode cX12_turns 47 = .ok (.dup2, 1) := by decide +kernel
theorem dX12_turns_48 : decode cX12_turns 48 = .ok (.iaload, 1) := by decide +kernel
theorem dX12_turns_49 : decode cX12_turns 49 = .ok (.iconst 1, 1) := by decide +kernel
theorem dX12_turns_50 : decode cX12_turns 50 = .ok (.iadd, 1) := by decide +kernel
theorem dX12_turns_51 : decode cX12_turns 51 = .ok (.iastore, 1) := by decide +kernel
theorem dX12_turns_52 : decode cX12_turns 52 = .ok (.goto (-31), 3) := by decide +kernel
theorem dX12_turns_55 : decode cX12_turns 55 = .ok (.aload_n 0, 1) := by decide +kernel
theorem dX12_turns_56 : decode cX12_turns 56 = .ok (.getfield 40, 3) := by decide +kernel
theorem dX12_turns_59 : decode cX12_turns 59 = .ok (.iload_n 1, 1) := by decide +kernel
theorem dX12_turns_60 : decode cX12_turns 60 = .ok (.iaload, 1) := by decide +kernel
theorem dX12_turns_61 : decode cX12_turns 61 = .ok (.aload_n 0, 1) := by decide +kernel
theorem dX12_turns_62 : decode cX12_turns 62 = .ok (.getfield 137, 3) := by decide +kernel
theorem dX12_turns_65 : decode cX12_turns 65 = .ok (.if_icmp .ge 11, 3) := by decide +kernel
theorem dX12_turns_68 : decode cX12_turns 68 = .ok (.aload_n 0, 1) := by decide +kernel
theorem dX12_turns_69 : decode cX12_turns 69 = .ok (.iload_n 1, 1) := by decide +kernel
theorem dX12_turns_70 : decode cX12_turns 70 = .ok (.iconst 1, 1) := by decide +kernel
theorem dX12_turns_71 : decode cX12_turns 71 = .ok (.iadd, 1) := by decide +kernel
theorem dX12_turns_72 : decode cX12_turns 72 = .ok (.invokevirtual 210, 3) := by decide +kernel
theorem dX12_turns_75 : decode cX12_turns 75 = .ok (.ireturn, 1) := by decide +kernel
theorem dX12_turns_76 : decode cX12_turns 76 = .ok (.iinc 1 (-1), 3) := by decide +kernel
theorem dX12_turns_79 : decode cX12_turns 79 = .ok (.goto (-72), 3) := by decide +kernel
theorem dX12_turns_82 : decode cX12_turns 82 = .ok (.iconst 0, 1) := by decide +kernel
theorem dX12_turns_83 : decode cX12_turns 83 = .ok (.ireturn, 1) := by decide +kernel
theorem dX12_isMet_0 : decode cX12_isMet 0 = .ok (.iconst 0, 1) := by decide +kernel
theorem dX12_isMet_1 : decode cX12_isMet 1 = .ok (.istore_n 2, 1) := by decide +kernel
theorem dX12_isMet_2 : decode cX12_isMet 2 = .ok (.iconst 0, 1) := by decide +kernel
theorem dX12_isMet_3 : decode cX12_isMet 3 = .ok (.istore_n 3, 1) := by decide +kernel
theorem dX12_isMet_4 : decode cX12_isMet 4 = .ok (.iload_n 3, 1) := by decide +kernel
theorem dX12_isMet_5 : decode cX12_isMet 5 = .ok (.iload_n 1, 1) := by decide +kernel
theorem dX12_isMet_6 : decode cX12_isMet 6 = .ok (.if_icmp .ge 34, 3) := by decide +kernel
theorem dX12_isMet_9 : decode cX12_isMet 9 = .ok (.iload_n 2, 1) := by decide +kernel
theorem dX12_isMet_10 : decode cX12_isMet 10 = .ok (.ifCond .ne 18, 3) := by decide +kernel
theorem dX12_isMet_13 : decode cX12_isMet 13 = .ok (.aload_n 0, 1) := by decide +kernel
theorem dX12_isMet_14 : decode cX12_isMet 14 = .ok (.getfield 40, 3) := by decide +kernel
theorem dX12_isMet_17 : decode cX12_isMet 17 = .ok (.iload_n 3, 1) := by decide +kernel
theorem dX12_isMet_18 : decode cX12_isMet 18 = .ok (.iaload, 1) := by decide +kernel
theorem dX12_isMet_19 : decode cX12_isMet 19 = .ok (.aload_n 0, 1) := by decide +kernel
theorem dX12_isMet_20 : decode cX12_isMet 20 = .ok (.getfield 40, 3) := by decide +kernel
theorem dX12_isMet_23 : decode cX12_isMet 23 = .ok (.iload_n 1, 1) := by decide +kernel
theorem dX12_isMet_24 : decode cX12_isMet 24 = .ok (.iaload, 1) := by decide +kernel
theorem dX12_isMet_25 : decode cX12_isMet 25 = .ok (.if_icmp .ne 7, 3) := by decide +kernel
theorem dX12_isMet_28 : decode cX12_isMet 28 = .ok (.iconst 1, 1) := by decide +kernel
theorem dX12_isMet_29 : decode cX12_isMet 29 = .ok (.goto 4, 3) := by decide +kernel
theorem dX12_isMet_32 : decode cX12_isMet 32 = .ok (.iconst 0, 1) := by decide +kernel
theorem dX12_isMet_33 : decode cX12_isMet 33 = .ok (.istore_n 2, 1) := by decide +kernel
theorem dX12_isMet_34 : decode cX12_isMet 34 = .ok (.iinc 3 1, 3) := by decide +kernel
theorem dX12_isMet_37 : decode cX12_isMet 37 = .ok (.goto (-33), 3) := by decide +kernel
theorem dX12_isMet_40 : decode cX12_isMet 40 = .ok (.iload_n 2, 1) := by decide +kernel
theorem dX12_isMet_41 : decode cX12_isMet 41 = .ok (.ireturn, 1) := by decide +kernel
theorem dX12_fills_0 : decode cX12_fills 0 = .ok (.iload_n 1, 1) := by decide +kernel
theorem dX12_fills_1 : decode cX12_fills 1 = .ok (.istore_n 2, 1) := by decide +kernel
theorem dX12_fills_2 : decode cX12_fills 2 = .ok (.iload_n 2, 1) := by decide +kernel
theorem dX12_fills_3 : decode cX12_fills 3 = .ok (.aload_n 0, 1) := by decide +kernel
theorem dX12_fills_4 : decode cX12_fills 4 = .ok (.getfield 199, 3) := by decide +kernel
theorem dX12_fills_7 : decode cX12_fills 7 = .ok (.if_icmp .ge 37, 3) := by decide +kernel
theorem dX12_fills_10 : decode cX12_fills 10 = .ok (.aload_n 0, 1) := by decide +kernel
theorem dX12_fills_11 : decode cX12_fills 11 = .ok (.getfield 40, 3) := by decide +kernel
theorem dX12_fills_14 : decode cX12_fills 14 = .ok (.iload_n 2, 1) := by decide +kernel
theorem dX12_fills_15 : decode cX12_fills 15 = .ok (.iconst 0, 1) := by decide +kernel
theorem dX12_fills_16 : decode cX12_fills 16 = .ok (.iastore, 1) := by decide +kernel
theorem dX12_fills_17 : decode cX12_fills 17 = .ok (.aload_n 0, 1) := by decide +kernel
theorem dX12_fills_18 : decode cX12_fills 18 = .ok (.iload_n 2, 1) := by decide +kernel
theorem dX12_fills_19 : decode cX12_fills 19 = .ok (.invokevirtual 207, 3) := by decide +kernel
theorem dX12_fills_22 : decode cX12_fills 22 = .ok (.ifCond .eq 16, 3) := by decide +kernel
theorem dX12_fills_25 : decode cX12_fills 25 = .ok (.aload_n 0, 1) := by decide +kernel
theorem dX12_fills_26 : decode cX12_fills 26 = .ok (.getfield 40, 3) := by decide +kernel
theorem dX12_fills_29 : decode cX12_fills 29 = .ok (.iload_n 2, 1) := by decide +kernel
theorem dX12_fills_30 : decode cX12_fills 30 = .ok (.dup2, 1) := by decide +kernel
theorem dX12_fills_31 : decode cX12_fills 31 = .ok (.iaload, 1) := by decide +kernel
theorem dX12_fills_32 : decode cX12_fills 32 = .ok (.iconst 1, 1) := by decide +kernel
theorem dX12_fills_33 : decode cX12_fills 33 = .ok (.iadd, 1) := by decide +kernel
theorem dX12_fills_34 : decode cX12_fills 34 = .ok (.iastore, 1) := by decide +kernel
theorem dX12_fills_35 : decode cX12_fills 35 = .ok (.goto (-18), 3) := by decide +kernel
theorem dX12_fills_38 : decode cX12_fills 38 = .ok (.iinc 2 1, 3) := by decide +kernel
theorem dX12_fills_41 : decode cX12_fills 41 = .ok (.goto (-39), 3) := by decide +kernel
theorem dX12_fills_44 : decode cX12_fills 44 = .ok (.iconst 1, 1) := by decide +kernel
theorem dX12_fills_45 : decode cX12_fills 45 = .ok (.ireturn, 1) := by decide +kernel
theorem dX12_starts_0 : decode cX12_starts 0 = .ok (.aload_n 0, 1) := by decide +kernel
theorem dX12_starts_1 : decode cX12_starts 1 = .ok (.iload_n 1, 1) := by decide +kernel
theorem dX12_starts_2 : decode cX12_starts 2 = .ok (.putfield 199, 3) := by decide +kernel
theorem dX12_starts_5 : decode cX12_starts 5 = .ok (.iload_n 1, 1) := by decide +kernel
theorem dX12_starts_6 : decode cX12_starts 6 = .ok (.aload_n 0, 1) := by decide +kernel
theorem dX12_starts_7 : decode cX12_starts 7 = .ok (.getfield 137, 3) := by decide +kernel
theorem dX12_starts_10 : decode cX12_starts 10 = .ok (.if_icmp .gt 15, 3) := by decide +kernel
theorem dX12_starts_13 : decode cX12_starts 13 = .ok (.aload_n 0, 1) := by decide +kernel
theorem dX12_starts_14 : decode cX12_starts 14 = .ok (.iconst 0, 1) := by decide +kernel
theorem dX12_starts_15 : decode cX12_starts 15 = .ok (.invokevirtual 210, 3) := by decide +kernel
theorem dX12_starts_18 : decode cX12_starts 18 = .ok (.ifCond .eq 7, 3) := by decide +kernel
theorem dX12_starts_21 : decode cX12_starts 21 = .ok (.iconst 1, 1) := by decide +kernel
theorem dX12_starts_22 : decode cX12_starts 22 = .ok (.goto 4, 3) := by decide +kernel
theorem dX12_starts_25 : decode cX12_starts 25 = .ok (.iconst 0, 1) := by decide +kernel
theorem dX12_starts_26 : decode cX12_starts 26 = .ok (.ireturn, 1) := by decide +kernel
theorem dX12_finds_0 : decode cX12_finds 0 = .ok (.aload_n 0, 1) := by decide +kernel
theorem dX12_finds_1 : decode cX12_finds 1 = .ok (.iconst (-1), 1) := by decide +kernel
theorem dX12_finds_2 : decode cX12_finds 2 = .ok (.putfield 213, 3) := by decide +kernel
theorem dX12_finds_5 : decode cX12_finds 5 = .ok (.aload_n 0, 1) := by decide +kernel
theorem dX12_finds_6 : decode cX12_finds 6 = .ok (.iconst 0, 1) := by decide +kernel
theorem dX12_finds_7 : decode cX12_finds 7 = .ok (.putfield 216, 3) := by decide +kernel
theorem dX12_finds_10 : decode cX12_finds 10 = .ok (.iconst 0, 1) := by decide +kernel
theorem dX12_finds_11 : decode cX12_finds 11 = .ok (.istore_n 1, 1) := by decide +kernel
theorem dX12_finds_12 : decode cX12_finds 12 = .ok (.iload_n 1, 1) := by decide +kernel
theorem dX12_finds_13 : decode cX12_finds 13 = .ok (.aload_n 0, 1) := by decide +kernel
theorem dX12_finds_14 : decode cX12_finds 14 = .ok (.getfield 137, 3) := by decide +kernel
theorem dX12_finds_17 : decode cX12_finds 17 = .ok (.if_icmp .gt 75, 3) := by decide +kernel
theorem dX12_finds_20 : decode cX12_finds 20 = .ok (.aload_n 0, 1) := by decide +kernel
theorem dX12_finds_21 : decode cX12_finds 21 = .ok (.iload_n 1, 1) := by decide +kernel
theorem dX12_finds_22 : decode cX12_finds 22 = .ok (.invokevirtual 219, 3) := by decide +kernel

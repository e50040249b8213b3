theorem dX12_finds_25 : decode cX12_finds 25 = .ok (.istore_n 2, 1) := by decide +kernel
theorem dX12_finds_26 : decode cX12_finds 26 = .ok (.iload_n 2, 1) := by decide +kernel
theorem dX12_finds_27 : decode cX12_finds 27 = .ok (.ifCond .eq 59, 3) := by decide +kernel
theorem dX12_finds_30 : decode cX12_finds 30 = .ok (.aload_n 0, 1) := by decide +kernel
theorem dX12_finds_31 : decode cX12_finds 31 = .ok (.invokevirtual 203, 3) := by decide +kernel
theorem dX12_finds_34 : decode cX12_finds 34 = .ok (.istore_n 3, 1) := by decide +kernel
theorem dX12_finds_35 : decode cX12_finds 35 = .ok (.aload_n 0, 1) := by decide +kernel
theorem dX12_finds_36 : decode cX12_finds 36 = .ok (.iload_n 3, 1) := by decide +kernel
theorem dX12_finds_37 : decode cX12_finds 37 = .ok (.aload_n 0, 1) := by decide +kernel
theorem dX12_finds_38 : decode cX12_finds 38 = .ok (.getfield 213, 3) := by decide +kernel
theorem dX12_finds_41 : decode cX12_finds 41 = .ok (.if_icmp .le 10, 3) := by decide +kernel
theorem dX12_finds_44 : decode cX12_finds 44 = .ok (.aload_n 0, 1) := by decide +kernel
theorem dX12_finds_45 : decode cX12_finds 45 = .ok (.invokevirtual 222, 3) := by decide +kernel
theorem dX12_finds_48 : decode cX12_finds 48 = .ok (.goto 7, 3) := by decide +kernel
theorem dX12_finds_51 : decode cX12_finds 51 = .ok (.aload_n 0, 1) := by decide +kernel
theorem dX12_finds_52 : decode cX12_finds 52 = .ok (.getfield 216, 3) := by decide +kernel
theorem dX12_finds_55 : decode cX12_finds 55 = .ok (.putfield 216, 3) := by decide +kernel
theorem dX12_finds_58 : decode cX12_finds 58 = .ok (.aload_n 0, 1) := by decide +kernel
theorem dX12_finds_59 : decode cX12_finds 59 = .ok (.iload_n 3, 1) := by decide +kernel
theorem dX12_finds_60 : decode cX12_finds 60 = .ok (.aload_n 0, 1) := by decide +kernel
theorem dX12_finds_61 : decode cX12_finds 61 = .ok (.getfield 213, 3) := by decide +kernel
theorem dX12_finds_64 : decode cX12_finds 64 = .ok (.if_icmp .le 7, 3) := by decide +kernel
theorem dX12_finds_67 : decode cX12_finds 67 = .ok (.iload_n 3, 1) := by decide +kernel
theorem dX12_finds_68 : decode cX12_finds 68 = .ok (.goto 7, 3) := by decide +kernel
theorem dX12_finds_71 : decode cX12_finds 71 = .ok (.aload_n 0, 1) := by decide +kernel
theorem dX12_finds_72 : decode cX12_finds 72 = .ok (.getfield 213, 3) := by decide +kernel
theorem dX12_finds_75 : decode cX12_finds 75 = .ok (.putfield 213, 3) := by decide +kernel
theorem dX12_finds_78 : decode cX12_finds 78 = .ok (.aload_n 0, 1) := by decide +kernel
theorem dX12_finds_79 : decode cX12_finds 79 = .ok (.invokevirtual 225, 3) := by decide +kernel
theorem dX12_finds_82 : decode cX12_finds 82 = .ok (.istore_n 2, 1) := by decide +kernel
theorem dX12_finds_83 : decode cX12_finds 83 = .ok (.goto (-57), 3) := by decide +kernel
theorem dX12_finds_86 : decode cX12_finds 86 = .ok (.iinc 1 1, 3) := by decide +kernel
theorem dX12_finds_89 : decode cX12_finds 89 = .ok (.goto (-77), 3) := by decide +kernel
theorem dX12_finds_92 : decode cX12_finds 92 = .ok (.return_, 1) := by decide +kernel
theorem dX12_best_0 : decode cX12_best 0 = .ok (.iload_n 1, 1) := by decide +kernel
theorem dX12_best_1 : decode cX12_best 1 = .ok (.i2l, 1) := by decide +kernel
theorem dX12_best_2 : decode cX12_best 2 = .ok (.lconst 0, 1) := by decide +kernel
theorem dX12_best_3 : decode cX12_best 3 = .ok (.lconst 1, 1) := by decide +kernel
theorem dX12_best_4 : decode cX12_best 4 = .ok (.invokestatic 63, 3) := by decide +kernel
theorem dX12_best_7 : decode cX12_best 7 = .ok (.ifCond .ne 5, 3) := by decide +kernel
theorem dX12_best_10 : decode cX12_best 10 = .ok (.iconst (-1), 1) := by decide +kernel
theorem dX12_best_11 : decode cX12_best 11 = .ok (.ireturn, 1) := by decide +kernel
theorem dX12_best_12 : decode cX12_best 12 = .ok (.aload_n 0, 1) := by decide +kernel
theorem dX12_best_13 : decode cX12_best 13 = .ok (.invokevirtual 228, 3) := by decide +kernel
theorem dX12_best_16 : decode cX12_best 16 = .ok (.iload_n 1, 1) := by decide +kernel
theorem dX12_best_17 : decode cX12_best 17 = .ok (.ifCond .ne 10, 3) := by decide +kernel
theorem dX12_best_20 : decode cX12_best 20 = .ok (.aload_n 0, 1) := by decide +kernel
theorem dX12_best_21 : decode cX12_best 21 = .ok (.getfield 213, 3) := by decide +kernel
theorem dX12_best_24 : decode cX12_best 24 = .ok (.goto 7, 3) := by decide +kernel
theorem dX12_best_27 : decode cX12_best 27 = .ok (.aload_n 0, 1) := by decide +kernel
theorem dX12_best_28 : decode cX12_best 28 = .ok (.getfield 216, 3) := by decide +kernel
theorem dX12_best_31 : decode cX12_best 31 = .ok (.ireturn, 1) := by decide +kernel
theorem dX12_fewest_0 : decode cX12_fewest 0 = .ok (.iload_n 1, 1) := by decide +kernel
theorem dX12_fewest_1 : decode cX12_fewest 1 = .ok (.i2l, 1) := by decide +kernel
theorem dX12_fewest_2 : decode cX12_fewest 2 = .ok (.lconst 0, 1) := by decide +kernel
theorem dX12_fewest_3 : decode cX12_fewest 3 = .ok (.ldc2_w 231, 3) := by decide +kernel
theorem dX12_fewest_6 : decode cX12_fewest 6 = .ok (.invokestatic 63, 3) := by decide +kernel
theorem dX12_fewest_9 : decode cX12_fewest 9 = .ok (.ifCond .eq 13, 3) := by decide +kernel
theorem dX12_fewest_12 : decode cX12_fewest 12 = .ok (.iload_n 2, 1) := by decide +kernel
theorem dX12_fewest_13 : decode cX12_fewest 13 = .ok (.i2l, 1) := by decide +kernel
theorem dX12_fewest_14 : decode cX12_fewest 14 = .ok (.lconst 0, 1) := by decide +kernel
theorem dX12_fewest_15 : decode cX12_fewest 15 = .ok (.lconst 1, 1) := by decide +kernel
theorem dX12_fewest_16 : decode cX12_fewest 16 = .ok (.invokestatic 63, 3) := by decide +kernel
theorem dX12_fewest_19 : decode cX12_fewest 19 = .ok (.ifCond .ne 5, 3) := by decide +kernel
theorem dX12_fewest_22 : decode cX12_fewest 22 = .ok (.iconst (-1), 1) := by decide +kernel
theorem dX12_fewest_23 : decode cX12_fewest 23 = .ok (.ireturn, 1) := by decide +kernel
theorem dX12_fewest_24 : decode cX12_fewest 24 = .ok (.iconst 0, 1) := by decide +kernel
theorem dX12_fewest_25 : decode cX12_fewest 25 = .ok (.istore_n 3, 1) := by decide +kernel
theorem dX12_fewest_26 : decode cX12_fewest 26 = .ok (.iload_n 3, 1) := by decide +kernel
theorem dX12_fewest_27 : decode cX12_fewest 27 = .ok (.aload_n 0, 1) := by decide +kernel
theorem dX12_fewest_28 : decode cX12_fewest 28 = .ok (.getfield 137, 3) := by decide +kernel
theorem dX12_fewest_31 : decode cX12_fewest 31 = .ok (.if_icmp .gt 51, 3) := by decide +kernel
theorem dX12_fewest_34 : decode cX12_fewest 34 = .ok (.aload_n 0, 1) := by decide +kernel
theorem dX12_fewest_35 : decode cX12_fewest 35 = .ok (.iload_n 3, 1) := by decide +kernel
theorem dX12_fewest_36 : decode cX12_fewest 36 = .ok (.invokevirtual 219, 3) := by decide +kernel
theorem dX12_fewest_39 : decode cX12_fewest 39 = .ok (.istore 4, 2) := by decide +kernel
theorem dX12_fewest_41 : decode cX12_fewest 41 = .ok (.iload 4, 2) := by decide +kernel
theorem dX12_fewest_43 : decode cX12_fewest 43 = .ok (.ifCond .eq 33, 3) := by decide +kernel
theorem dX12_fewest_46 : decode cX12_fewest 46 = .ok (.aload_n 0, 1) := by decide +kernel
theorem dX12_fewest_47 : decode cX12_fewest 47 = .ok (.invokevirtual 203, 3) := by decide +kernel
theorem dX12_fewest_50 : decode cX12_fewest 50 = .ok (.iload_n 1, 1) := by decide +kernel
theorem dX12_fewest_51 : decode cX12_fewest 51 = .ok (.if_icmp .lt 16, 3) := by decide +kernel
theorem dX12_fewest_54 : decode cX12_fewest 54 = .ok (.iload_n 2, 1) := by decide +kernel
theorem dX12_fewest_55 : decode cX12_fewest 55 = .ok (.ifCond .ne 7, 3) := by decide +kernel
theorem dX12_fewest_58 : decode cX12_fewest 58 = .ok (.iload_n 3, 1) := by decide +kernel
theorem dX12_fewest_59 : decode cX12_fewest 59 = .ok (.goto 7, 3) := by decide +kernel
theorem dX12_fewest_62 : decode cX12_fewest 62 = .ok (.aload_n 0, 1) := by decide +kernel
theorem dX12_fewest_63 : decode cX12_fewest 63 = .ok (.invokevirtual 222, 3) := by decide +kernel
theorem dX12_fewest_66 : decode cX12_fewest 66 = .ok (.ireturn, 1) := by decide +kernel
theorem dX12_fewest_67 : decode cX12_fewest 67 = .ok (.aload_n 0, 1) := by decide +kernel
theorem dX12_fewest_68 : decode cX12_fewest 68 = .ok (.invokevirtual 225, 3) := by decide +kernel
theorem dX12_fewest_71 : decode cX12_fewest 71 = .ok (.istore 4, 2) := by decide +kernel
theorem dX12_fewest_73 : decode cX12_fewest 73 = .ok (.goto (-32), 3) := by decide +kernel
theorem dX12_fewest_76 : decode cX12_fewest 76 = .ok (.iinc 3 1, 3) := by decide +kernel
theorem dX12_fewest_79 : decode cX12_fewest 79 = .ok (.goto (-53), 3) := by decide +kernel
theorem dX12_fewest_82 : decode cX12_fewest 82 = .ok (.bipush (-9), 2) := by decide +kernel
theorem dX12_fewest_84 : decode cX12_fewest 84 = .ok (.ireturn, 1) := by decide +kernel
theorem dX12_mind_0 : decode cX12_mind 0 = .ok (.iload_n 1, 1) := by decide +kernel
theorem dX12_mind_1 : decode cX12_mind 1 = .ok (.i2l, 1) := by decide +kernel
theorem dX12_mind_2 : decode cX12_mind 2 = .ok (.lconst 1, 1) := by decide +kernel
theorem dX12_mind_3 : decode cX12_mind 3 = .ok (.ldc2_w 231, 3) := by decide +kernel
theorem dX12_mind_6 : decode cX12_mind 6 = .ok (.invokestatic 63, 3) := by decide +kernel
theorem dX12_mind_9 : decode cX12_mind 9 = .ok (.ifCond .eq 13, 3) := by decide +kernel
theorem dX12_mind_12 : decode cX12_mind 12 = .ok (.iload_n 2, 1) := by decide +kernel
theorem dX12_mind_13 : decode cX12_mind 13 = .ok (.i2l, 1) := by decide +kernel
theorem dX12_mind_14 : decode cX12_mind 14 = .ok (.lconst 0, 1) := by decide +kernel
theorem dX12_mind_15 : decode cX12_mind 15 = .ok (.lconst 1, 1) := by decide +kernel
theorem dX12_mind_16 : decode cX12_mind 16 = .ok (.invokestatic 63, 3) := by decide +kernel
theorem dX12_mind_19 : decode cX12_mind 19 = .ok (.ifCond .ne 5, 3) := by decide +kernel
theorem dX12_mind_22 : decode cX12_mind 22 = .ok (.iconst (-1), 1) := by decide +kernel
theorem dX12_mind_23 : decode cX12_mind 23 = .ok (.ireturn, 1) := by decide +kernel
theorem dX12_mind_24 : decode cX12_mind 24 = .ok (.bipush (-9), 2) := by decide +kernel
theorem dX12_mind_26 : decode cX12_mind 26 = .ok (.istore_n 3, 1) := by decide +kernel
theorem dX12_mind_27 : decode cX12_mind 27 = .ok (.bipush (-9), 2) := by decide +kernel
theorem dX12_mind_29 : decode cX12_mind 29 = .ok (.istore 4, 2) := by decide +kernel
theorem dX12_mind_31 : decode cX12_mind 31 = .ok (.iconst 0, 1) := by decide +kernel
theorem dX12_mind_32 : decode cX12_mind 32 = .ok (.istore 5, 2) := by decide +kernel
theorem dX12_mind_34 : decode cX12_mind 34 = .ok (.iload 5, 2) := by decide +kernel
theorem dX12_mind_36 : decode cX12_mind 36 = .ok (.aload_n 0, 1) := by decide +kernel
theorem dX12_mind_37 : decode cX12_mind 37 = .ok (.getfield 137, 3) := by decide +kernel
theorem dX12_mind_40 : decode cX12_mind 40 = .ok (.if_icmp .gt 121, 3) := by decide +kernel
theorem dX12_mind_43 : decode cX12_mind 43 = .ok (.aload_n 0, 1) := by decide +kernel
theorem dX12_mind_44 : decode cX12_mind 44 = .ok (.iload 5, 2) := by decide +kernel
theorem dX12_mind_46 : decode cX12_mind 46 = .ok (.invokevirtual 219, 3) := by decide +kernel
theorem dX12_mind_49 : decode cX12_mind 49 = .ok (.istore 6, 2) := by decide +kernel
theorem dX12_mind_51 : decode cX12_mind 51 = .ok (.iload 6, 2) := by decide +kernel
theorem dX12_mind_53 : decode cX12_mind 53 = .ok (.ifCond .eq 102, 3) := by decide +kernel
theorem dX12_mind_56 : decode cX12_mind 56 = .ok (.aload_n 0, 1) := by decide +kernel
theorem dX12_mind_57 : decode cX12_mind 57 = .ok (.invokevirtual 203, 3) := by decide +kernel
theorem dX12_mind_60 : decode cX12_mind 60 = .ok (.iload_n 1, 1) := by decide +kernel
theorem dX12_mind_61 : decode cX12_mind 61 = .ok (.if_icmp .lt 7, 3) := by decide +kernel
theorem dX12_mind_64 : decode cX12_mind 64 = .ok (.iconst 1, 1) := by decide +kernel
theorem dX12_mind_65 : decode cX12_mind 65 = .ok (.goto 4, 3) := by decide +kernel
theorem dX12_mind_68 : decode cX12_mind 68 = .ok (.iconst 0, 1) := by decide +kernel
theorem dX12_mind_69 : decode cX12_mind 69 = .ok (.istore 7, 2) := by decide +kernel
theorem dX12_mind_71 : decode cX12_mind 71 = .ok (.iconst 0, 1) := by decide +kernel
theorem dX12_mind_72 : decode cX12_mind 72 = .ok (.istore 8, 2) := by decide +kernel
theorem dX12_mind_74 : decode cX12_mind 74 = .ok (.iconst 0, 1) := by decide +kernel
theorem dX12_mind_75 : decode cX12_mind 75 = .ok (.istore 9, 2) := by decide +kernel
theorem dX12_mind_77 : decode cX12_mind 77 = .ok (.iload 9, 2) := by decide +kernel
theorem dX12_mind_79 : decode cX12_mind 79 = .ok (.iload_n 1, 1) := by decide +kernel
theorem dX12_mind_80 : decode cX12_mind 80 = .ok (.if_icmp .ge 40, 3) := by decide +kernel
theorem dX12_mind_83 : decode cX12_mind 83 = .ok (.iload 7, 2) := by decide +kernel
theorem dX12_mind_85 : decode cX12_mind 85 = .ok (.ifCond .eq 35, 3) := by decide +kernel
theorem dX12_mind_88 : decode cX12_mind 88 = .ok (.aload_n 0, 1) := by decide +kernel
theorem dX12_mind_89 : decode cX12_mind 89 = .ok (.getfield 43, 3) := by decide +kernel
theorem dX12_mind_92 : decode cX12_mind 92 = .ok (.iload 9, 2) := by decide +kernel
theorem dX12_mind_94 : decode cX12_mind 94 = .ok (.iaload, 1) := by decide +kernel
theorem dX12_mind_95 : decode cX12_mind 95 = .ok (.iload 8, 2) := by decide +kernel
theorem dX12_mind_97 : decode cX12_mind 97 = .ok (.if_icmp .le 13, 3) := by decide +kernel
theorem dX12_mind_100 : decode cX12_mind 100 = .ok (.aload_n 0, 1) := by decide +kernel
theorem dX12_mind_101 : decode cX12_mind 101 = .ok (.getfield 43, 3) := by decide +kernel
theorem dX12_mind_104 : decode cX12_mind 104 = .ok (.iload 9, 2) := by decide +kernel
theorem dX12_mind_106 : decode cX12_mind 106 = .ok (.iaload, 1) := by decide +kernel
theorem dX12_mind_107 : decode cX12_mind 107 = .ok (.goto 5, 3) := by decide +kernel
theorem dX12_mind_110 : decode cX12_mind 110 = .ok (.iload 8, 2) := by decide +kernel
theorem dX12_mind_112 : decode cX12_mind 112 = .ok (.istore 8, 2) := by decide +kernel
theorem dX12_mind_114 : decode cX12_mind 114 = .ok (.iinc 9 1, 3) := by decide +kernel
theorem dX12_mind_117 : decode cX12_mind 117 = .ok (.goto (-40), 3) := by decide +kernel
theorem dX12_mind_120 : decode cX12_mind 120 = .ok (.iload 7, 2) := by decide +kernel
theorem dX12_mind_122 : decode cX12_mind 122 = .ok (.ifCond .eq 24, 3) := by decide +kernel
theorem dX12_mind_125 : decode cX12_mind 125 = .ok (.iload_n 3, 1) := by decide +kernel
theorem dX12_mind_126 : decode cX12_mind 126 = .ok (.bipush (-9), 2) := by decide +kernel
theorem dX12_mind_128 : decode cX12_mind 128 = .ok (.if_icmp .eq 9, 3) := by decide +kernel
theorem dX12_mind_131 : decode cX12_mind 131 = .ok (.iload 8, 2) := by decide +kernel
theorem dX12_mind_133 : decode cX12_mind 133 = .ok (.iload_n 3, 1) := by decide +kernel
theorem dX12_mind_134 : decode cX12_mind 134 = .ok (.if_icmp .ge 12, 3) := by decide +kernel
theorem dX12_mind_137 : decode cX12_mind 137 = .ok (.iload 8, 2) := by decide +kernel
theorem dX12_mind_139 : decode cX12_mind 139 = .ok (.istore_n 3, 1) := by decide +kernel
theorem dX12_mind_140 : decode cX12_mind 140 = .ok (.aload_n 0, 1) := by decide +kernel
theorem dX12_mind_141 : decode cX12_mind 141 = .ok (.invokevirtual 222, 3) := by decide +kernel
theorem dX12_mind_144 : decode cX12_mind 144 = .ok (.istore 4, 2) := by decide +kernel
theorem dX12_mind_146 : decode cX12_mind 146 = .ok (.aload_n 0, 1) := by decide +kernel
theorem dX12_mind_147 : decode cX12_mind 147 = .ok (.invokevirtual 225, 3) := by decide +kernel
theorem dX12_mind_150 : decode cX12_mind 150 = .ok (.istore 6, 2) := by decide +kernel
theorem dX12_mind_152 : decode cX12_mind 152 = .ok (.goto (-101), 3) := by decide +kernel
theorem dX12_mind_155 : decode cX12_mind 155 = .ok (.iinc 5 1, 3) := by decide +kernel
theorem dX12_mind_158 : decode cX12_mind 158 = .ok (.goto (-124), 3) := by decide +kernel
theorem dX12_mind_161 : decode cX12_mind 161 = .ok (.iload_n 2, 1) := by decide +kernel
theorem dX12_mind_162 : decode cX12_mind 162 = .ok (.ifCond .ne 7, 3) := by decide +kernel
theorem dX12_mind_165 : decode cX12_mind 165 = .ok (.iload_n 3, 1) := by decide +kernel
theorem dX12_mind_166 : decode cX12_mind 166 = .ok (.goto 5, 3) := by decide +kernel
theorem dX12_mind_169 : decode cX12_mind 169 = .ok (.iload 4, 2) := by decide +kernel
theorem dX12_mind_171 : decode cX12_mind 171 = .ok (.ireturn, 1) := by decide +kernel
theorem dX12_bars_0 : decode cX12_bars 0 = .ok (.iload_n 1, 1) := by decide +kernel
theorem dX12_bars_1 : decode cX12_bars 1 = .ok (.i2l, 1) := by decide +kernel
theorem dX12_bars_2 : decode cX12_bars 2 = .ok (.lconst 1, 1) := by decide +kernel
theorem dX12_bars_3 : decode cX12_bars 3 = .ok (.ldc2_w 231, 3) := by decide +kernel
theorem dX12_bars_6 : decode cX12_bars 6 = .ok (.invokestatic 63, 3) := by decide +kernel
theorem dX12_bars_9 : decode cX12_bars 9 = .ok (.ifCond .ne 5, 3) := by decide +kernel
theorem dX12_bars_12 : decode cX12_bars 12 = .ok (.iconst (-1), 1) := by decide +kernel
theorem dX12_bars_13 : decode cX12_bars 13 = .ok (.ireturn, 1) := by decide +kernel
theorem dX12_bars_14 : decode cX12_bars 14 = .ok (.iconst (-1), 1) := by decide +kernel
theorem dX12_bars_15 : decode cX12_bars 15 = .ok (.istore_n 2, 1) := by decide +kernel
theorem dX12_bars_16 : decode cX12_bars 16 = .ok (.iconst 0, 1) := by decide +kernel
theorem dX12_bars_17 : decode cX12_bars 17 = .ok (.istore_n 3, 1) := by decide +kernel
theorem dX12_bars_18 : decode cX12_bars 18 = .ok (.iconst 0, 1) := by decide +kernel
theorem dX12_bars_19 : decode cX12_bars 19 = .ok (.istore 4, 2) := by decide +kernel
theorem dX12_bars_21 : decode cX12_bars 21 = .ok (.iload 4, 2) := by decide +kernel
theorem dX12_bars_23 : decode cX12_bars 23 = .ok (.aload_n 0, 1) := by decide +kernel
theorem dX12_bars_24 : decode cX12_bars 24 = .ok (.getfield 137, 3) := by decide +kernel
theorem dX12_bars_27 : decode cX12_bars 27 = .ok (.if_icmp .gt 81, 3) := by decide +kernel
theorem dX12_bars_30 : decode cX12_bars 30 = .ok (.aload_n 0, 1) := by decide +kernel
theorem dX12_bars_31 : decode cX12_bars 31 = .ok (.iload 4, 2) := by decide +kernel
theorem dX12_bars_33 : decode cX12_bars 33 = .ok (.invokevirtual 219, 3) := by decide +kernel
theorem dX12_bars_36 : decode cX12_bars 36 = .ok (.istore 5, 2) := by decide +kernel
theorem dX12_bars_38 : decode cX12_bars 38 = .ok (.iload 5, 2) := by decide +kernel
theorem dX12_bars_40 : decode cX12_bars 40 = .ok (.ifCond .eq 62, 3) := by decide +kernel
theorem dX12_bars_43 : decode cX12_bars 43 = .ok (.aload_n 0, 1) := by decide +kernel
theorem dX12_bars_44 : decode cX12_bars 44 = .ok (.invokevirtual 203, 3) := by decide +kernel
theorem dX12_bars_47 : decode cX12_bars 47 = .ok (.iload_n 1, 1) := by decide +kernel
theorem dX12_bars_48 : decode cX12_bars 48 = .ok (.if_icmp .lt 45, 3) := by decide +kernel
theorem dX12_bars_51 : decode cX12_bars 51 = .ok (.iconst 1, 1) := by decide +kernel
theorem dX12_bars_52 : decode cX12_bars 52 = .ok (.istore_n 3, 1) := by decide +kernel
theorem dX12_bars_53 : decode cX12_bars 53 = .ok (.iconst 0, 1) := by decide +kernel
theorem dX12_bars_54 : decode cX12_bars 54 = .ok (.istore 6, 2) := by decide +kernel
theorem dX12_bars_56 : decode cX12_bars 56 = .ok (.iconst 0, 1) := by decide +kernel
theorem dX12_bars_57 : decode cX12_bars 57 = .ok (.istore 7, 2) := by decide +kernel
theorem dX12_bars_59 : decode cX12_bars 59 = .ok (.iload 7, 2) := by decide +kernel
theorem dX12_bars_61 : decode cX12_bars 61 = .ok (.aload_n 0, 1) := by decide +kernel
theorem dX12_bars_62 : decode cX12_bars 62 = .ok (.getfield 199, 3) := by decide +kernel
theorem dX12_bars_65 : decode cX12_bars 65 = .ok (.if_icmp .ge 23, 3) := by decide +kernel
theorem dX12_bars_68 : decode cX12_bars 68 = .ok (.iload 6, 2) := by decide +kernel
theorem dX12_bars_70 : decode cX12_bars 70 = .ok (.iconst 1, 1) := by decide +kernel
theorem dX12_bars_71 : decode cX12_bars 71 = .ok (.aload_n 0, 1) := by decide +kernel
theorem dX12_bars_72 : decode cX12_bars 72 = .ok (.getfield 40, 3) := by decide +kernel
theorem dX12_bars_75 : decode cX12_bars 75 = .ok (.iload 7, 2) := by decide +kernel
theorem dX12_bars_77 : decode cX12_bars 77 = .ok (.iaload, 1) := by decide +kernel
theorem dX12_bars_78 : decode cX12_bars 78 = .ok (.ishl, 1) := by decide +kernel
theorem dX12_bars_79 : decode cX12_bars 79 = .ok (.ior, 1) := by decide +kernel
theorem dX12_bars_80 : decode cX12_bars 80 = .ok (.istore 6, 2) := by decide +kernel
theorem dX12_bars_82 : decode cX12_bars 82 = .ok (.iinc 7 1, 3) := by decide +kernel
theorem dX12_bars_85 : decode cX12_bars 85 = .ok (.goto (-26), 3) := by decide +kernel
theorem dX12_bars_88 : decode cX12_bars 88 = .ok (.iload_n 2, 1) := by decide +kernel
theorem dX12_bars_89 : decode cX12_bars 89 = .ok (.iload 6, 2) := by decide +kernel
theorem dX12_bars_91 : decode cX12_bars 91 = .ok (.iand, 1) := by decide +kernel
theorem dX12_bars_92 : decode cX12_bars 92 = .ok (.istore_n 2, 1) := by decide +kernel
theorem dX12_bars_93 : decode cX12_bars 93 = .ok (.aload_n 0, 1) := by decide +kernel
theorem dX12_bars_94 : decode cX12_bars 94 = .ok (.invokevirtual 225, 3) := by decide +kernel
theorem dX12_bars_97 : decode cX12_bars 97 = .ok (.istore 5, 2) := by decide +kernel
theorem dX12_bars_99 : decode cX12_bars 99 = .ok (.goto (-61), 3) := by decide +kernel
theorem dX12_bars_102 : decode cX12_bars 102 = .ok (.iinc 4 1, 3) := by decide +kernel
theorem dX12_bars_105 : decode cX12_bars 105 = .ok (.goto (-84), 3) := by decide +kernel
theorem dX12_bars_108 : decode cX12_bars 108 = .ok (.iconst 0, 1) := by decide +kernel
theorem dX12_bars_109 : decode cX12_bars 109 = .ok (.istore 4, 2) := by decide +kernel
theorem dX12_bars_111 : decode cX12_bars 111 = .ok (.iload 4, 2) := by decide +kernel
theorem dX12_bars_113 : decode cX12_bars 113 = .ok (.aload_n 0, 1) := by decide +kernel
theorem dX12_bars_114 : decode cX12_bars 114 = .ok (.getfield 137, 3) := by decide +kernel
theorem dX12_bars_117 : decode cX12_bars 117 = .ok (.if_icmp .ge 26, 3) := by decide +kernel
theorem dX12_bars_120 : decode cX12_bars 120 = .ok (.iload_n 3, 1) := by decide +kernel
theorem dX12_bars_121 : decode cX12_bars 121 = .ok (.ifCond .eq 22, 3) := by decide +kernel
theorem dX12_bars_124 : decode cX12_bars 124 = .ok (.iload_n 2, 1) := by decide +kernel
theorem dX12_bars_125 : decode cX12_bars 125 = .ok (.iload 4, 2) := by decide +kernel
theorem dX12_bars_127 : decode cX12_bars 127 = .ok (.ishr, 1) := by decide +kernel
theorem dX12_bars_128 : decode cX12_bars 128 = .ok (.iconst 1, 1) := by decide +kernel
theorem dX12_bars_129 : decode cX12_bars 129 = .ok (.iand, 1) := by decide +kernel
theorem dX12_bars_130 : decode cX12_bars 130 = .ok (.iconst 1, 1) := by decide +kernel
theorem dX12_bars_131 : decode cX12_bars 131 = .ok (.if_icmp .ne 6, 3) := by decide +kernel
theorem dX12_bars_134 : decode cX12_bars 134 = .ok (.iload 4, 2) := by decide +kernel
theorem dX12_bars_136 : decode cX12_bars 136 = .ok (.ireturn, 1) := by decide +kernel
theorem dX12_bars_137 : decode cX12_bars 137 = .ok (.iinc 4 1, 3) := by decide +kernel
theorem dX12_bars_140 : decode cX12_bars 140 = .ok (.goto (-29), 3) := by decide +kernel
theorem dX12_bars_143 : decode cX12_bars 143 = .ok (.bipush (-9), 2) := by decide +kernel
theorem dX12_bars_145 : decode cX12_bars 145 = .ok (.ireturn, 1) := by decide +kernel
theorem dX12_longer_0 : decode cX12_longer 0 = .ok (.aload_n 0, 1) := by decide +kernel
theorem dX12_longer_1 : decode cX12_longer 1 = .ok (.invokevirtual 228, 3) := by decide +kernel
theorem dX12_longer_4 : decode cX12_longer 4 = .ok (.aload_n 0, 1) := by decide +kernel
theorem dX12_longer_5 : decode cX12_longer 5 = .ok (.getfield 213, 3) := by decide +kernel
theorem dX12_longer_8 : decode cX12_longer 8 = .ok (.istore_n 1, 1) := by decide +kernel
theorem dX12_longer_9 : decode cX12_longer 9 = .ok (.aload_n 0, 1) := by decide +kernel
theorem dX12_longer_10 : decode cX12_longer 10 = .ok (.iconst 1, 1) := by decide +kernel
theorem dX12_longer_11 : decode cX12_longer 11 = .ok (.putfield 161, 3) := by decide +kernel
theorem dX12_longer_14 : decode cX12_longer 14 = .ok (.aload_n 0, 1) := by decide +kernel
theorem dX12_longer_15 : decode cX12_longer 15 = .ok (.invokevirtual 228, 3) := by decide +kernel
theorem dX12_longer_18 : decode cX12_longer 18 = .ok (.aload_n 0, 1) := by decide +kernel
theorem dX12_longer_19 : decode cX12_longer 19 = .ok (.iconst 0, 1) := by decide +kernel
theorem dX12_longer_20 : decode cX12_longer 20 = .ok (.putfield 161, 3) := by decide +kernel
theorem dX12_longer_23 : decode cX12_longer 23 = .ok (.aload_n 0, 1) := by decide +kernel
theorem dX12_longer_24 : decode cX12_longer 24 = .ok (.getfield 213, 3) := by decide +kernel
theorem dX12_longer_27 : decode cX12_longer 27 = .ok (.iload_n 1, 1) := by decide +kernel
theorem dX12_longer_28 : decode cX12_longer 28 = .ok (.isub, 1) := by decide +kernel
theorem dX12_longer_29 : decode cX12_longer 29 = .ok (.ireturn, 1) := by decide +kernel
theorem dX12_heard_0 : decode cX12_heard 0 = .ok (.iload_n 1, 1) := by decide +kernel
theorem dX12_heard_1 : decode cX12_heard 1 = .ok (.i2l, 1) := by decide +kernel
theorem dX12_heard_2 : decode cX12_heard 2 = .ok (.lconst 1, 1) := by decide +kernel
theorem dX12_heard_3 : decode cX12_heard 3 = .ok (.ldc2_w 231, 3) := by decide +kernel
theorem dX12_heard_6 : decode cX12_heard 6 = .ok (.invokestatic 63, 3) := by decide +kernel
theorem dX12_heard_9 : decode cX12_heard 9 = .ok (.ifCond .eq 15, 3) := by decide +kernel
theorem dX12_heard_12 : decode cX12_heard 12 = .ok (.iload_n 2, 1) := by decide +kernel
theorem dX12_heard_13 : decode cX12_heard 13 = .ok (.i2l, 1) := by decide +kernel
theorem dX12_heard_14 : decode cX12_heard 14 = .ok (.lconst 0, 1) := by decide +kernel
theorem dX12_heard_15 : decode cX12_heard 15 = .ok (.ldc2_w 233, 3) := by decide +kernel
theorem dX12_heard_18 : decode cX12_heard 18 = .ok (.invokestatic 63, 3) := by decide +kernel
theorem dX12_heard_21 : decode cX12_heard 21 = .ok (.ifCond .ne 5, 3) := by decide +kernel
theorem dX12_heard_24 : decode cX12_heard 24 = .ok (.iconst (-1), 1) := by decide +kernel
theorem dX12_heard_25 : decode cX12_heard 25 = .ok (.ireturn, 1) := by decide +kernel
theorem dX12_heard_26 : decode cX12_heard 26 = .ok (.aload_n 0, 1) := by decide +kernel
theorem dX12_heard_27 : decode cX12_heard 27 = .ok (.getfield 158, 3) := by decide +kernel
theorem dX12_heard_30 : decode cX12_heard 30 = .ok (.bipush 6, 2) := by decide +kernel
theorem dX12_heard_32 : decode cX12_heard 32 = .ok (.if_icmp .ne 6, 3) := by decide +kernel
theorem dX12_heard_35 : decode cX12_heard 35 = .ok (.bipush (-3), 2) := by decide +kernel
theorem dX12_heard_37 : decode cX12_heard 37 = .ok (.ireturn, 1) := by decide +kernel
theorem dX12_heard_38 : decode cX12_heard 38 = .ok (.aload_n 0, 1) := by decide +kernel
theorem dX12_heard_39 : decode cX12_heard 39 = .ok (.getfield 49, 3) := by decide +kernel
theorem dX12_heard_42 : decode cX12_heard 42 = .ok (.aload_n 0, 1) := by decide +kernel
theorem dX12_heard_43 : decode cX12_heard 43 = .ok (.getfield 158, 3) := by decide +kernel
theorem dX12_heard_46 : decode cX12_heard 46 = .ok (.iload_n 1, 1) := by decide +kernel
theorem dX12_heard_47 : decode cX12_heard 47 = .ok (.iastore, 1) := by decide +kernel
theorem dX12_heard_48 : decode cX12_heard 48 = .ok (.aload_n 0, 1) := by decide +kernel
theorem dX12_heard_49 : decode cX12_heard 49 = .ok (.getfield 52, 3) := by decide +kernel
theorem dX12_heard_52 : decode cX12_heard 52 = .ok (.aload_n 0, 1) := by decide +kernel
theorem dX12_heard_53 : decode cX12_heard 53 = .ok (.getfield 158, 3) := by decide +kernel
theorem dX12_heard_56 : decode cX12_heard 56 = .ok (.iload_n 2, 1) := by decide +kernel
theorem dX12_heard_57 : decode cX12_heard 57 = .ok (.iastore, 1) := by decide +kernel
theorem dX12_heard_58 : decode cX12_heard 58 = .ok (.aload_n 0, 1) := by decide +kernel
theorem dX12_heard_59 : decode cX12_heard 59 = .ok (.dup, 1) := by decide +kernel
theorem dX12_heard_60 : decode cX12_heard 60 = .ok (.getfield 158, 3) := by decide +kernel
theorem dX12_heard_63 : decode cX12_heard 63 = .ok (.iconst 1, 1) := by decide +kernel
theorem dX12_heard_64 : decode cX12_heard 64 = .ok (.iadd, 1) := by decide +kernel
theorem dX12_heard_65 : decode cX12_heard 65 = .ok (.putfield 158, 3) := by decide +kernel
theorem dX12_heard_68 : decode cX12_heard 68 = .ok (.aload_n 0, 1) := by decide +kernel
theorem dX12_heard_69 : decode cX12_heard 69 = .ok (.getfield 158, 3) := by decide +kernel
theorem dX12_heard_72 : decode cX12_heard 72 = .ok (.ireturn, 1) := by decide +kernel
theorem dX12_forget_0 : decode cX12_forget 0 = .ok (.aload_n 0, 1) := by decide +kernel
theorem dX12_forget_1 : decode cX12_forget 1 = .ok (.getfield 158, 3) := by decide +kernel
theorem dX12_forget_4 : decode cX12_forget 4 = .ok (.istore_n 1, 1) := by decide +kernel
theorem dX12_forget_5 : decode cX12_forget 5 = .ok (.aload_n 0, 1) := by decide +kernel
theorem dX12_forget_6 : decode cX12_forget 6 = .ok (.iconst 0, 1) := by decide +kernel
theorem dX12_forget_7 : decode cX12_forget 7 = .ok (.putfield 158, 3) := by decide +kernel
theorem dX12_forget_10 : decode cX12_forget 10 = .ok (.iload_n 1, 1) := by decide +kernel
theorem dX12_forget_11 : decode cX12_forget 11 = .ok (.ireturn, 1) := by decide +kernel
theorem dX12_isHeard_0 : decode cX12_isHeard 0 = .ok (.iconst 1, 1) := by decide +kernel
theorem dX12_isHeard_1 : decode cX12_isHeard 1 = .ok (.istore_n 2, 1) := by decide +kernel
theorem dX12_isHeard_2 : decode cX12_isHeard 2 = .ok (.iconst 0, 1) := by decide +kernel
theorem dX12_isHeard_3 : decode cX12_isHeard 3 = .ok (.istore_n 3, 1) := by decide +kernel
theorem dX12_isHeard_4 : decode cX12_isHeard 4 = .ok (.iload_n 3, 1) := by decide +kernel
theorem dX12_isHeard_5 : decode cX12_isHeard 5 = .ok (.aload_n 0, 1) := by decide +kernel
theorem dX12_isHeard_6 : decode cX12_isHeard 6 = .ok (.getfield 158, 3) := by decide +kernel
theorem dX12_isHeard_9 : decode cX12_isHeard 9 = .ok (.if_icmp .ge 51, 3) := by decide +kernel
theorem dX12_isHeard_12 : decode cX12_isHeard 12 = .ok (.iload_n 2, 1) := by decide +kernel
theorem dX12_isHeard_13 : decode cX12_isHeard 13 = .ok (.ifCond .eq 39, 3) := by decide +kernel
theorem dX12_isHeard_16 : decode cX12_isHeard 16 = .ok (.aload_n 0, 1) := by decide +kernel
theorem dX12_isHeard_17 : decode cX12_isHeard 17 = .ok (.getfield 49, 3) := by decide +kernel
theorem dX12_isHeard_20 : decode cX12_isHeard 20 = .ok (.iload_n 3, 1) := by decide +kernel
theorem dX12_isHeard_21 : decode cX12_isHeard 21 = .ok (.iaload, 1) := by decide +kernel
theorem dX12_isHeard_22 : decode cX12_isHeard 22 = .ok (.iload_n 1, 1) := by decide +kernel
theorem dX12_isHeard_23 : decode cX12_isHeard 23 = .ok (.if_icmp .gt 29, 3) := by decide +kernel
theorem dX12_isHeard_26 : decode cX12_isHeard 26 = .ok (.aload_n 0, 1) := by decide +kernel
theorem dX12_isHeard_27 : decode cX12_isHeard 27 = .ok (.getfield 43, 3) := by decide +kernel
theorem dX12_isHeard_30 : decode cX12_isHeard 30 = .ok (.aload_n 0, 1) := by decide +kernel
theorem dX12_isHeard_31 : decode cX12_isHeard 31 = .ok (.getfield 49, 3) := by decide +kernel
theorem dX12_isHeard_34 : decode cX12_isHeard 34 = .ok (.iload_n 3, 1) := by decide +kernel
theorem dX12_isHeard_35 : decode cX12_isHeard 35 = .ok (.iaload, 1) := by decide +kernel
theorem dX12_isHeard_36 : decode cX12_isHeard 36 = .ok (.iconst 1, 1) := by decide +kernel
theorem dX12_isHeard_37 : decode cX12_isHeard 37 = .ok (.isub, 1) := by decide +kernel
theorem dX12_isHeard_38 : decode cX12_isHeard 38 = .ok (.iaload, 1) := by decide +kernel
theorem dX12_isHeard_39 : decode cX12_isHeard 39 = .ok (.aload_n 0, 1) := by decide +kernel
theorem dX12_isHeard_40 : decode cX12_isHeard 40 = .ok (.getfield 52, 3) := by decide +kernel
theorem dX12_isHeard_43 : decode cX12_isHeard 43 = .ok (.iload_n 3, 1) := by decide +kernel
theorem dX12_isHeard_44 : decode cX12_isHeard 44 = .ok (.iaload, 1) := by decide +kernel
theorem dX12_isHeard_45 : decode cX12_isHeard 45 = .ok (.if_icmp .ne 7, 3) := by decide +kernel
theorem dX12_isHeard_48 : decode cX12_isHeard 48 = .ok (.iconst 1, 1) := by decide +kernel
theorem dX12_isHeard_49 : decode cX12_isHeard 49 = .ok (.goto 4, 3) := by decide +kernel
theorem dX12_isHeard_52 : decode cX12_isHeard 52 = .ok (.iconst 0, 1) := by decide +kernel
theorem dX12_isHeard_53 : decode cX12_isHeard 53 = .ok (.istore_n 2, 1) := by decide +kernel
theorem dX12_isHeard_54 : decode cX12_isHeard 54 = .ok (.iinc 3 1, 3) := by decide +kernel
theorem dX12_isHeard_57 : decode cX12_isHeard 57 = .ok (.goto (-53), 3) := by decide +kernel
theorem dX12_isHeard_60 : decode cX12_isHeard 60 = .ok (.iload_n 2, 1) := by decide +kernel
theorem dX12_isHeard_61 : decode cX12_isHeard 61 = .ok (.ireturn, 1) := by decide +kernel
theorem dX12_orders_0 : decode cX12_orders 0 = .ok (.iload_n 1, 1) := by decide +kernel
theorem dX12_orders_1 : decode cX12_orders 1 = .ok (.i2l, 1) := by decide +kernel
theorem dX12_orders_2 : decode cX12_orders 2 = .ok (.lconst 0, 1) := by decide +kernel
theorem dX12_orders_3 : decode cX12_orders 3 = .ok (.lconst 1, 1) := by decide +kernel
theorem dX12_orders_4 : decode cX12_orders 4 = .ok (.invokestatic 63, 3) := by decide +kernel
theorem dX12_orders_7 : decode cX12_orders 7 = .ok (.ifCond .ne 5, 3) := by decide +kernel
theorem dX12_orders_10 : decode cX12_orders 10 = .ok (.iconst (-1), 1) := by decide +kernel
theorem dX12_orders_11 : decode cX12_orders 11 = .ok (.ireturn, 1) := by decide +kernel
theorem dX12_orders_12 : decode cX12_orders 12 = .ok (.iconst 0, 1) := by decide +kernel
theorem dX12_orders_13 : decode cX12_orders 13 = .ok (.istore_n 2, 1) := by decide +kernel
theorem dX12_orders_14 : decode cX12_orders 14 = .ok (.iconst 0, 1) := by decide +kernel
theorem dX12_orders_15 : decode cX12_orders 15 = .ok (.istore_n 3, 1) := by decide +kernel
theorem dX12_orders_16 : decode cX12_orders 16 = .ok (.aload_n 0, 1) := by decide +kernel
theorem dX12_orders_17 : decode cX12_orders 17 = .ok (.aload_n 0, 1) := by decide +kernel
theorem dX12_orders_18 : decode cX12_orders 18 = .ok (.getfield 137, 3) := by decide +kernel
theorem dX12_orders_21 : decode cX12_orders 21 = .ok (.invokevirtual 219, 3) := by decide +kernel
theorem dX12_orders_24 : decode cX12_orders 24 = .ok (.istore 4, 2) := by decide +kernel
theorem dX12_orders_26 : decode cX12_orders 26 = .ok (.iload 4, 2) := by decide +kernel
theorem dX12_orders_28 : decode cX12_orders 28 = .ok (.ifCond .eq 53, 3) := by decide +kernel
theorem dX12_orders_31 : decode cX12_orders 31 = .ok (.aload_n 0, 1) := by decide +kernel
theorem dX12_orders_32 : decode cX12_orders 32 = .ok (.aload_n 0, 1) := by decide +kernel
theorem dX12_orders_33 : decode cX12_orders 33 = .ok (.invokevirtual 203, 3) := by decide +kernel
theorem dX12_orders_36 : decode cX12_orders 36 = .ok (.invokevirtual 235, 3) := by decide +kernel
theorem dX12_orders_39 : decode cX12_orders 39 = .ok (.istore 5, 2) := by decide +kernel
theorem dX12_orders_41 : decode cX12_orders 41 = .ok (.iload 5, 2) := by decide +kernel
theorem dX12_orders_43 : decode cX12_orders 43 = .ok (.ifCond .eq 14, 3) := by decide +kernel
theorem dX12_orders_46 : decode cX12_orders 46 = .ok (.iload_n 2, 1) := by decide +kernel
theorem dX12_orders_47 : decode cX12_orders 47 = .ok (.ifCond .ne 10, 3) := by decide +kernel
theorem dX12_orders_50 : decode cX12_orders 50 = .ok (.aload_n 0, 1) := by decide +kernel
theorem dX12_orders_51 : decode cX12_orders 51 = .ok (.invokevirtual 222, 3) := by decide +kernel
theorem dX12_orders_54 : decode cX12_orders 54 = .ok (.goto 4, 3) := by decide +kernel
theorem dX12_orders_57 : decode cX12_orders 57 = .ok (.iload_n 3, 1) := by decide +kernel
theorem dX12_orders_58 : decode cX12_orders 58 = .ok (.istore_n 3, 1) := by decide +kernel
theorem dX12_orders_59 : decode cX12_orders 59 = .ok (.iload_n 2, 1) := by decide +kernel
theorem dX12_orders_60 : decode cX12_orders 60 = .ok (.iload 5, 2) := by decide +kernel
theorem dX12_orders_62 : decode cX12_orders 62 = .ok (.ifCond .eq 7, 3) := by decide +kernel
theorem dX12_orders_65 : decode cX12_orders 65 = .ok (.iconst 1, 1) := by decide +kernel
theorem dX12_orders_66 : decode cX12_orders 66 = .ok (.goto 4, 3) := by decide +kernel
theorem dX12_orders_69 : decode cX12_orders 69 = .ok (.iconst 0, 1) := by decide +kernel
theorem dX12_orders_70 : decode cX12_orders 70 = .ok (.iadd, 1) := by decide +kernel
theorem dX12_orders_71 : decode cX12_orders 71 = .ok (.istore_n 2, 1) := by decide +kernel
theorem dX12_orders_72 : decode cX12_orders 72 = .ok (.aload_n 0, 1) := by decide +kernel
theorem dX12_orders_73 : decode cX12_orders 73 = .ok (.invokevirtual 225, 3) := by decide +kernel
theorem dX12_orders_76 : decode cX12_orders 76 = .ok (.istore 4, 2) := by decide +kernel
theorem dX12_orders_78 : decode cX12_orders 78 = .ok (.goto (-52), 3) := by decide +kernel
theorem dX12_orders_81 : decode cX12_orders 81 = .ok (.iload_n 1, 1) := by decide +kernel
theorem dX12_orders_82 : decode cX12_orders 82 = .ok (.ifCond .ne 7, 3) := by decide +kernel
theorem dX12_orders_85 : decode cX12_orders 85 = .ok (.iload_n 2, 1) := by decide +kernel
theorem dX12_orders_86 : decode cX12_orders 86 = .ok (.goto 4, 3) := by decide +kernel
theorem dX12_orders_89 : decode cX12_orders 89 = .ok (.iload_n 3, 1) := by decide +kernel
theorem dX12_orders_90 : decode cX12_orders 90 = .ok (.ireturn, 1) := by decide +kernel
theorem dX12_surely_0 : decode cX12_surely 0 = .ok (.iload_n 1, 1) := by decide +kernel
theorem dX12_surely_1 : decode cX12_surely 1 = .ok (.i2l, 1) := by decide +kernel
theorem dX12_surely_2 : decode cX12_surely 2 = .ok (.lconst 1, 1) := by decide +kernel
theorem dX12_surely_3 : decode cX12_surely 3 = .ok (.ldc2_w 231, 3) := by decide +kernel
theorem dX12_surely_6 : decode cX12_surely 6 = .ok (.invokestatic 63, 3) := by decide +kernel
theorem dX12_surely_9 : decode cX12_surely 9 = .ok (.ifCond .ne 5, 3) := by decide +kernel
theorem dX12_surely_12 : decode cX12_surely 12 = .ok (.iconst (-1), 1) := by decide +kernel
theorem dX12_surely_13 : decode cX12_surely 13 = .ok (.ireturn, 1) := by decide +kernel
theorem dX12_surely_14 : decode cX12_surely 14 = .ok (.bipush (-9), 2) := by decide +kernel
theorem dX12_surely_16 : decode cX12_surely 16 = .ok (.istore_n 2, 1) := by decide +kernel
theorem dX12_surely_17 : decode cX12_surely 17 = .ok (.aload_n 0, 1) := by decide +kernel
theorem dX12_surely_18 : decode cX12_surely 18 = .ok (.aload_n 0, 1) := by decide +kernel
theorem dX12_surely_19 : decode cX12_surely 19 = .ok (.getfield 137, 3) := by decide +kernel
theorem dX12_surely_22 : decode cX12_surely 22 = .ok (.invokevirtual 219, 3) := by decide +kernel
theorem dX12_surely_25 : decode cX12_surely 25 = .ok (.istore_n 3, 1) := by decide +kernel
theorem dX12_surely_26 : decode cX12_surely 26 = .ok (.iload_n 3, 1) := by decide +kernel
theorem dX12_surely_27 : decode cX12_surely 27 = .ok (.ifCond .eq 76, 3) := by decide +kernel
theorem dX12_surely_30 : decode cX12_surely 30 = .ok (.aload_n 0, 1) := by decide +kernel
theorem dX12_surely_31 : decode cX12_surely 31 = .ok (.invokevirtual 203, 3) := by decide +kernel
theorem dX12_surely_34 : decode cX12_surely 34 = .ok (.istore 4, 2) := by decide +kernel
theorem dX12_surely_36 : decode cX12_surely 36 = .ok (.iload 4, 2) := by decide +kernel
theorem dX12_surely_38 : decode cX12_surely 38 = .ok (.iload_n 1, 1) := by decide +kernel
theorem dX12_surely_39 : decode cX12_surely 39 = .ok (.if_icmp .lt 16, 3) := by decide +kernel
theorem dX12_surely_42 : decode cX12_surely 42 = .ok (.aload_n 0, 1) := by decide +kernel
theorem dX12_surely_43 : decode cX12_surely 43 = .ok (.iload 4, 2) := by decide +kernel
theorem dX12_surely_45 : decode cX12_surely 45 = .ok (.invokevirtual 235, 3) := by decide +kernel
theorem dX12_surely_48 : decode cX12_surely 48 = .ok (.ifCond .eq 7, 3) := by decide +kernel
theorem dX12_surely_51 : decode cX12_surely 51 = .ok (.iconst 1, 1) := by decide +kernel
theorem dX12_surely_52 : decode cX12_surely 52 = .ok (.goto 4, 3) := by decide +kernel
theorem dX12_surely_55 : decode cX12_surely 55 = .ok (.iconst 0, 1) := by decide +kernel
theorem dX12_surely_56 : decode cX12_surely 56 = .ok (.istore 5, 2) := by decide +kernel
theorem dX12_surely_58 : decode cX12_surely 58 = .ok (.iload 5, 2) := by decide +kernel
theorem dX12_surely_60 : decode cX12_surely 60 = .ok (.ifCond .ne 7, 3) := by decide +kernel
theorem dX12_surely_63 : decode cX12_surely 63 = .ok (.iload_n 2, 1) := by decide +kernel
theorem dX12_surely_64 : decode cX12_surely 64 = .ok (.goto 30, 3) := by decide +kernel
theorem dX12_surely_67 : decode cX12_surely 67 = .ok (.iload_n 2, 1) := by decide +kernel
theorem dX12_surely_68 : decode cX12_surely 68 = .ok (.bipush (-9), 2) := by decide +kernel
theorem dX12_surely_70 : decode cX12_surely 70 = .ok (.if_icmp .ne 14, 3) := by decide +kernel
theorem dX12_surely_73 : decode cX12_surely 73 = .ok (.aload_n 0, 1) := by decide +kernel
theorem dX12_surely_74 : decode cX12_surely 74 = .ok (.getfield 46, 3) := by decide +kernel
theorem dX12_surely_77 : decode cX12_surely 77 = .ok (.iload_n 1, 1) := by decide +kernel
theorem dX12_surely_78 : decode cX12_surely 78 = .ok (.iconst 1, 1) := by decide +kernel
theorem dX12_surely_79 : decode cX12_surely 79 = .ok (.isub, 1) := by decide +kernel
theorem dX12_surely_80 : decode cX12_surely 80 = .ok (.iaload, 1) := by decide +kernel
theorem dX12_surely_81 : decode cX12_surely 81 = .ok (.goto 13, 3) := by decide +kernel
theorem dX12_surely_84 : decode cX12_surely 84 = .ok (.iload_n 2, 1) := by decide +kernel
theorem dX12_surely_85 : decode cX12_surely 85 = .ok (.aload_n 0, 1) := by decide +kernel
theorem dX12_surely_86 : decode cX12_surely 86 = .ok (.getfield 46, 3) := by decide +kernel
theorem dX12_surely_89 : decode cX12_surely 89 = .ok (.iload_n 1, 1) := by decide +kernel
theorem dX12_surely_90 : decode cX12_surely 90 = .ok (.iconst 1, 1) := by decide +kernel
theorem dX12_surely_91 : decode cX12_surely 91 = .ok (.isub, 1) := by decide +kernel
theorem dX12_surely_92 : decode cX12_surely 92 = .ok (.iaload, 1) := by decide +kernel
theorem dX12_surely_93 : decode cX12_surely 93 = .ok (.iand, 1) := by decide +kernel
theorem dX12_surely_94 : decode cX12_surely 94 = .ok (.istore_n 2, 1) := by decide +kernel
theorem dX12_surely_95 : decode cX12_surely 95 = .ok (.aload_n 0, 1) := by decide +kernel
theorem dX12_surely_96 : decode cX12_surely 96 = .ok (.invokevirtual 225, 3) := by decide +kernel
theorem dX12_surely_99 : decode cX12_surely 99 = .ok (.istore_n 3, 1) := by decide +kernel
theorem dX12_surely_100 : decode cX12_surely 100 = .ok (.goto (-74), 3) := by decide +kernel
theorem dX12_surely_103 : decode cX12_surely 103 = .ok (.iload_n 2, 1) := by decide +kernel
theorem dX12_surely_104 : decode cX12_surely 104 = .ok (.ireturn, 1) := by decide +kernel
theorem dX12_odds_0 : decode cX12_odds 0 = .ok (.iload_n 1, 1) := by decide +kernel
theorem dX12_odds_1 : decode cX12_odds 1 = .ok (.i2l, 1) := by decide +kernel
theorem dX12_odds_2 : decode cX12_odds 2 = .ok (.lconst 0, 1) := by decide +kernel
theorem dX12_odds_3 : decode cX12_odds 3 = .ok (.ldc2_w 238, 3) := by decide +kernel
theorem dX12_odds_6 : decode cX12_odds 6 = .ok (.invokestatic 63, 3) := by decide +kernel
theorem dX12_odds_9 : decode cX12_odds 9 = .ok (.ifCond .eq 25, 3) := by decide +kernel
theorem dX12_odds_12 : decode cX12_odds 12 = .ok (.iload_n 2, 1) := by decide +kernel
theorem dX12_odds_13 : decode cX12_odds 13 = .ok (.i2l, 1) := by decide +kernel
theorem dX12_odds_14 : decode cX12_odds 14 = .ok (.lconst 0, 1) := by decide +kernel
theorem dX12_odds_15 : decode cX12_odds 15 = .ok (.ldc2_w 117, 3) := by decide +kernel
theorem dX12_odds_18 : decode cX12_odds 18 = .ok (.invokestatic 63, 3) := by decide +kernel
theorem dX12_odds_21 : decode cX12_odds 21 = .ok (.ifCond .eq 13, 3) := by decide +kernel
theorem dX12_odds_24 : decode cX12_odds 24 = .ok (.iload_n 3, 1) := by decide +kernel
theorem dX12_odds_25 : decode cX12_odds 25 = .ok (.i2l, 1) := by decide +kernel
theorem dX12_odds_26 : decode cX12_odds 26 = .ok (.lconst 0, 1) := by decide +kernel
theorem dX12_odds_27 : decode cX12_odds 27 = .ok (.lconst 1, 1) := by decide +kernel
theorem dX12_odds_28 : decode cX12_odds 28 = .ok (.invokestatic 63, 3) := by decide +kernel
theorem dX12_odds_31 : decode cX12_odds 31 = .ok (.ifCond .ne 7, 3) := by decide +kernel
theorem dX12_odds_34 : decode cX12_odds 34 = .ok (.ldc2_w 240, 3) := by decide +kernel
theorem dX12_odds_37 : decode cX12_odds 37 = .ok (.lreturn, 1) := by decide +kernel
theorem dX12_odds_38 : decode cX12_odds 38 = .ok (.lconst 1, 1) := by decide +kernel
theorem dX12_odds_39 : decode cX12_odds 39 = .ok (.lstore 4, 2) := by decide +kernel
theorem dX12_odds_41 : decode cX12_odds 41 = .ok (.lconst 1, 1) := by decide +kernel
theorem dX12_odds_42 : decode cX12_odds 42 = .ok (.lstore 6, 2) := by decide +kernel
theorem dX12_odds_44 : decode cX12_odds 44 = .ok (.iconst 0, 1) := by decide +kernel
theorem dX12_odds_45 : decode cX12_odds 45 = .ok (.istore 8, 2) := by decide +kernel
theorem dX12_odds_47 : decode cX12_odds 47 = .ok (.iload 8, 2) := by decide +kernel
theorem dX12_odds_49 : decode cX12_odds 49 = .ok (.iload_n 2, 1) := by decide +kernel
theorem dX12_odds_50 : decode cX12_odds 50 = .ok (.if_icmp .ge 28, 3) := by decide +kernel
theorem dX12_odds_53 : decode cX12_odds 53 = .ok (.lload 4, 2) := by decide +kernel
theorem dX12_odds_55 : decode cX12_odds 55 = .ok (.ldc2_w 238, 3) := by decide +kernel
theorem dX12_odds_58 : decode cX12_odds 58 = .ok (.iload_n 1, 1) := by decide +kernel
theorem dX12_odds_59 : decode cX12_odds 59 = .ok (.i2l, 1) := by decide +kernel
theorem dX12_odds_60 : decode cX12_odds 60 = .ok (.lsub, 1) := by decide +kernel
theorem dX12_odds_61 : decode cX12_odds 61 = .ok (.lmul, 1) := by decide +kernel
theorem dX12_odds_62 : decode cX12_odds 62 = .ok (.lstore 4, 2) := by decide +kernel
theorem dX12_odds_64 : decode cX12_odds 64 = .ok (.lload 6, 2) := by decide +kernel
theorem dX12_odds_66 : decode cX12_odds 66 = .ok (.ldc2_w 238, 3) := by decide +kernel
theorem dX12_odds_69 : decode cX12_odds 69 = .ok (.lmul, 1) := by decide +kernel
theorem dX12_odds_70 : decode cX12_odds 70 = .ok (.lstore 6, 2) := by decide +kernel
theorem dX12_odds_72 : decode cX12_odds 72 = .ok (.iinc 8 1, 3) := by decide +kernel
theorem dX12_odds_75 : decode cX12_odds 75 = .ok (.goto (-28), 3) := by decide +kernel
theorem dX12_odds_78 : decode cX12_odds 78 = .ok (.lload 4, 2) := by decide +kernel
theorem dX12_odds_80 : decode cX12_odds 80 = .ok (.lstore 8, 2) := by decide +kernel
theorem dX12_odds_82 : decode cX12_odds 82 = .ok (.lload 6, 2) := by decide +kernel
theorem dX12_odds_84 : decode cX12_odds 84 = .ok (.lstore 10, 2) := by decide +kernel
theorem dX12_odds_86 : decode cX12_odds 86 = .ok (.lload 10, 2) := by decide +kernel
theorem dX12_odds_88 : decode cX12_odds 88 = .ok (.lconst 0, 1) := by decide +kernel
theorem dX12_odds_89 : decode cX12_odds 89 = .ok (.lcmp, 1) := by decide +kernel
theorem dX12_odds_90 : decode cX12_odds 90 = .ok (.ifCond .le 21, 3) := by decide +kernel
theorem dX12_odds_93 : decode cX12_odds 93 = .ok (.lload 8, 2) := by decide +kernel
theorem dX12_odds_95 : decode cX12_odds 95 = .ok (.lload 10, 2) := by decide +kernel
theorem dX12_odds_97 : decode cX12_odds 97 = .ok (.lrem, 1) := by decide +kernel
theorem dX12_odds_98 : decode cX12_odds 98 = .ok (.lstore 12, 2) := by decide +kernel
theorem dX12_odds_100 : decode cX12_odds 100 = .ok (.lload 10, 2) := by decide +kernel
theorem dX12_odds_102 : decode cX12_odds 102 = .ok (.lstore 8, 2) := by decide +kernel
theorem dX12_odds_104 : decode cX12_odds 104 = .ok (.lload 12, 2) := by decide +kernel
theorem dX12_odds_106 : decode cX12_odds 106 = .ok (.lstore 10, 2) := by decide +kernel
theorem dX12_odds_108 : decode cX12_odds 108 = .ok (.goto (-22), 3) := by decide +kernel
theorem dX12_odds_111 : decode cX12_odds 111 = .ok (.iload_n 3, 1) := by decide +kernel
theorem dX12_odds_112 : decode cX12_odds 112 = .ok (.ifCond .ne 11, 3) := by decide +kernel
theorem dX12_odds_115 : decode cX12_odds 115 = .ok (.lload 4, 2) := by decide +kernel
theorem dX12_odds_117 : decode cX12_odds 117 = .ok (.lload 8, 2) := by decide +kernel
theorem dX12_odds_119 : decode cX12_odds 119 = .ok (.ldiv, 1) := by decide +kernel
theorem dX12_odds_120 : decode cX12_odds 120 = .ok (.goto 8, 3) := by decide +kernel
theorem dX12_odds_123 : decode cX12_odds 123 = .ok (.lload 6, 2) := by decide +kernel
theorem dX12_odds_125 : decode cX12_odds 125 = .ok (.lload 8, 2) := by decide +kernel
theorem dX12_odds_127 : decode cX12_odds 127 = .ok (.ldiv, 1) := by decide +kernel
theorem dX12_odds_128 : decode cX12_odds 128 = .ok (.lreturn, 1) := by decide +kernel
theorem dX12_mark_0 : decode cX12_mark 0 = .ok (.iload_n 1, 1) := by decide +kernel
theorem dX12_mark_1 : decode cX12_mark 1 = .ok (.i2l, 1) := by decide +kernel
theorem dX12_mark_2 : decode cX12_mark 2 = .ok (.lconst 0, 1) := by decide +kernel
theorem dX12_mark_3 : decode cX12_mark 3 = .ok (.ldc2_w 242, 3) := by decide +kernel
theorem dX12_mark_6 : decode cX12_mark 6 = .ok (.invokestatic 63, 3) := by decide +kernel
theorem dX12_mark_9 : decode cX12_mark 9 = .ok (.ifCond .eq 11, 3) := by decide +kernel
theorem dX12_mark_12 : decode cX12_mark 12 = .ok (.aload_n 0, 1) := by decide +kernel
theorem dX12_mark_13 : decode cX12_mark 13 = .ok (.iload_n 2, 1) := by decide +kernel
theorem dX12_mark_14 : decode cX12_mark 14 = .ok (.invokevirtual 176, 3) := by decide +kernel
theorem dX12_mark_17 : decode cX12_mark 17 = .ok (.ifCond .ne 6, 3) := by decide +kernel
theorem dX12_mark_20 : decode cX12_mark 20 = .ok (.ldc 244, 2) := by decide +kernel
theorem dX12_mark_22 : decode cX12_mark 22 = .ok (.ireturn, 1) := by decide +kernel
theorem dX12_mark_23 : decode cX12_mark 23 = .ok (.aload_n 0, 1) := by decide +kernel
theorem dX12_mark_24 : decode cX12_mark 24 = .ok (.dup, 1) := by decide +kernel
theorem dX12_mark_25 : decode cX12_mark 25 = .ok (.getfield 245, 3) := by decide +kernel
theorem dX12_mark_28 : decode cX12_mark 28 = .ok (.iload_n 1, 1) := by decide +kernel
theorem dX12_mark_29 : decode cX12_mark 29 = .ok (.ifCond .ne 7, 3) := by decide +kernel
theorem dX12_mark_32 : decode cX12_mark 32 = .ok (.lconst 1, 1) := by decide +kernel
theorem dX12_mark_33 : decode cX12_mark 33 = .ok (.goto 50, 3) := by decide +kernel
theorem dX12_mark_36 : decode cX12_mark 36 = .ok (.iload_n 1, 1) := by decide +kernel
theorem dX12_mark_37 : decode cX12_mark 37 = .ok (.iconst 1, 1) := by decide +kernel
theorem dX12_mark_38 : decode cX12_mark 38 = .ok (.if_icmp .ne 9, 3) := by decide +kernel
theorem dX12_mark_41 : decode cX12_mark 41 = .ok (.ldc2_w 249, 3) := by decide +kernel
theorem dX12_mark_44 : decode cX12_mark 44 = .ok (.goto 39, 3) := by decide +kernel
theorem dX12_mark_47 : decode cX12_mark 47 = .ok (.iload_n 1, 1) := by decide +kernel
theorem dX12_mark_48 : decode cX12_mark 48 = .ok (.iconst 2, 1) := by decide +kernel
theorem dX12_mark_49 : decode cX12_mark 49 = .ok (.if_icmp .ne 9, 3) := by decide +kernel
theorem dX12_mark_52 : decode cX12_mark 52 = .ok (.ldc2_w 251, 3) := by decide +kernel
theorem dX12_mark_55 : decode cX12_mark 55 = .ok (.goto 28, 3) := by decide +kernel
theorem dX12_mark_58 : decode cX12_mark 58 = .ok (.iload_n 1, 1) := by decide +kernel
theorem dX12_mark_59 : decode cX12_mark 59 = .ok (.iconst 3, 1) := by decide +kernel
theorem dX12_mark_60 : decode cX12_mark 60 = .ok (.if_icmp .ne 9, 3) := by decide +kernel
theorem dX12_mark_63 : decode cX12_mark 63 = .ok (.ldc2_w 253, 3) := by decide +kernel
theorem dX12_mark_66 : decode cX12_mark 66 = .ok (.goto 17, 3) := by decide +kernel
theorem dX12_mark_69 : decode cX12_mark 69 = .ok (.iload_n 1, 1) := by decide +kernel
theorem dX12_mark_70 : decode cX12_mark 70 = .ok (.iconst 4, 1) := by decide +kernel
theorem dX12_mark_71 : decode cX12_mark 71 = .ok (.if_icmp .ne 9, 3) := by decide +kernel
theorem dX12_mark_74 : decode cX12_mark 74 = .ok (.ldc2_w 255, 3) := by decide +kernel
theorem dX12_mark_77 : decode cX12_mark 77 = .ok (.goto 6, 3) := by decide +kernel
theorem dX12_mark_80 : decode cX12_mark 80 = .ok (.ldc2_w 257, 3) := by decide +kernel
theorem dX12_mark_83 : decode cX12_mark 83 = .ok (.ladd, 1) := by decide +kernel
theorem dX12_mark_84 : decode cX12_mark 84 = .ok (.putfield 245, 3) := by decide +kernel
theorem dX12_mark_87 : decode cX12_mark 87 = .ok (.aload_n 0, 1) := by decide +kernel
theorem dX12_mark_88 : decode cX12_mark 88 = .ok (.getfield 31, 3) := by decide +kernel
theorem dX12_mark_91 : decode cX12_mark 91 = .ok (.bipush 10, 2) := by decide +kernel
theorem dX12_mark_93 : decode cX12_mark 93 = .ok (.iload_n 2, 1) := by decide +kernel
theorem dX12_mark_94 : decode cX12_mark 94 = .ok (.iadd, 1) := by decide +kernel
theorem dX12_mark_95 : decode cX12_mark 95 = .ok (.iaload, 1) := by decide +kernel
theorem dX12_mark_96 : decode cX12_mark 96 = .ok (.istore_n 3, 1) := by decide +kernel
theorem dX12_mark_97 : decode cX12_mark 97 = .ok (.iconst 0, 1) := by decide +kernel
theorem dX12_mark_98 : decode cX12_mark 98 = .ok (.istore 4, 2) := by decide +kernel
theorem dX12_mark_100 : decode cX12_mark 100 = .ok (.iconst 0, 1) := by decide +kernel
theorem dX12_mark_101 : decode cX12_mark 101 = .ok (.istore 5, 2) := by decide +kernel
theorem dX12_mark_103 : decode cX12_mark 103 = .ok (.iload 5, 2) := by decide +kernel
theorem dX12_mark_105 : decode cX12_mark 105 = .ok (.aload_n 0, 1) := by decide +kernel
theorem dX12_mark_106 : decode cX12_mark 106 = .ok (.getfield 137, 3) := by decide +kernel
theorem dX12_mark_109 : decode cX12_mark 109 = .ok (.if_icmp .ge 30, 3) := by decide +kernel
theorem dX12_mark_112 : decode cX12_mark 112 = .ok (.iload 4, 2) := by decide +kernel
theorem dX12_mark_114 : decode cX12_mark 114 = .ok (.aload_n 0, 1) := by decide +kernel
theorem dX12_mark_115 : decode cX12_mark 115 = .ok (.getfield 25, 3) := by decide +kernel
theorem dX12_mark_118 : decode cX12_mark 118 = .ok (.iload 5, 2) := by decide +kernel
theorem dX12_mark_120 : decode cX12_mark 120 = .ok (.iaload, 1) := by decide +kernel
theorem dX12_mark_121 : decode cX12_mark 121 = .ok (.iload_n 2, 1) := by decide +kernel
theorem dX12_mark_122 : decode cX12_mark 122 = .ok (.if_icmp .ne 7, 3) := by decide +kernel
theorem dX12_mark_125 : decode cX12_mark 125 = .ok (.iconst 1, 1) := by decide +kernel
theorem dX12_mark_126 : decode cX12_mark 126 = .ok (.goto 4, 3) := by decide +kernel
theorem dX12_mark_129 : decode cX12_mark 129 = .ok (.iconst 0, 1) := by decide +kernel
theorem dX12_mark_130 : decode cX12_mark 130 = .ok (.iadd, 1) := by decide +kernel
theorem dX12_mark_131 : decode cX12_mark 131 = .ok (.istore 4, 2) := by decide +kernel
theorem dX12_mark_133 : decode cX12_mark 133 = .ok (.iinc 5 1, 3) := by decide +kernel
theorem dX12_mark_136 : decode cX12_mark 136 = .ok (.goto (-33), 3) := by decide +kernel
theorem dX12_mark_139 : decode cX12_mark 139 = .ok (.iload_n 1, 1) := by decide +kernel
theorem dX12_mark_140 : decode cX12_mark 140 = .ok (.tableswitch 75 0 4 #[36, 38, 47, 52, 63], 36) := by decide +kernel
theorem dX12_mark_176 : decode cX12_mark 176 = .ok (.iload_n 3, 1) := by decide +kernel
theorem dX12_mark_177 : decode cX12_mark 177 = .ok (.ireturn, 1) := by decide +kernel
theorem dX12_mark_178 : decode cX12_mark 178 = .ok (.iload_n 3, 1) := by decide +kernel
theorem dX12_mark_179 : decode cX12_mark 179 = .ok (.aload_n 0, 1) := by decide +kernel
theorem dX12_mark_180 : decode cX12_mark 180 = .ok (.getfield 22, 3) := by decide +kernel
theorem dX12_mark_183 : decode cX12_mark 183 = .ok (.iload_n 2, 1) := by decide +kernel
theorem dX12_mark_184 : decode cX12_mark 184 = .ok (.iaload, 1) := by decide +kernel
theorem dX12_mark_185 : decode cX12_mark 185 = .ok (.iadd, 1) := by decide +kernel
theorem dX12_mark_186 : decode cX12_mark 186 = .ok (.ireturn, 1) := by decide +kernel
theorem dX12_mark_187 : decode cX12_mark 187 = .ok (.iload_n 3, 1) := by decide +kernel
theorem dX12_mark_188 : decode cX12_mark 188 = .ok (.iload 4, 2) := by decide +kernel
theorem dX12_mark_190 : decode cX12_mark 190 = .ok (.isub, 1) := by decide +kernel
theorem dX12_mark_191 : decode cX12_mark 191 = .ok (.ireturn, 1) := by decide +kernel
theorem dX12_mark_192 : decode cX12_mark 192 = .ok (.iconst 2, 1) := by decide +kernel
theorem dX12_mark_193 : decode cX12_mark 193 = .ok (.iload_n 3, 1) := by decide +kernel
theorem dX12_mark_194 : decode cX12_mark 194 = .ok (.aload_n 0, 1) := by decide +kernel
theorem dX12_mark_195 : decode cX12_mark 195 = .ok (.getfield 22, 3) := by decide +kernel
theorem dX12_mark_198 : decode cX12_mark 198 = .ok (.iload_n 2, 1) := by decide +kernel
theorem dX12_mark_199 : decode cX12_mark 199 = .ok (.iaload, 1) := by decide +kernel
theorem dX12_mark_200 : decode cX12_mark 200 = .ok (.iadd, 1) := by decide +kernel
theorem dX12_mark_201 : decode cX12_mark 201 = .ok (.imul, 1) := by decide +kernel
theorem dX12_mark_202 : decode cX12_mark 202 = .ok (.ireturn, 1) := by decide +kernel
theorem dX12_mark_203 : decode cX12_mark 203 = .ok (.iload_n 3, 1) := by decide +kernel
theorem dX12_mark_204 : decode cX12_mark 204 = .ok (.iload 4, 2) := by decide +kernel
theorem dX12_mark_206 : decode cX12_mark 206 = .ok (.isub, 1) := by decide +kernel
theorem dX12_mark_207 : decode cX12_mark 207 = .ok (.aload_n 0, 1) := by decide +kernel
theorem dX12_mark_208 : decode cX12_mark 208 = .ok (.getfield 31, 3) := by decide +kernel
theorem dX12_mark_211 : decode cX12_mark 211 = .ok (.iconst 2, 1) := by decide +kernel
theorem dX12_mark_212 : decode cX12_mark 212 = .ok (.iaload, 1) := by decide +kernel
theorem dX12_mark_213 : decode cX12_mark 213 = .ok (.iadd, 1) := by decide +kernel
theorem dX12_mark_214 : decode cX12_mark 214 = .ok (.ireturn, 1) := by decide +kernel
theorem dX12_mark_215 : decode cX12_mark 215 = .ok (.iload_n 3, 1) := by decide +kernel
theorem dX12_mark_216 : decode cX12_mark 216 = .ok (.aload_n 0, 1) := by decide +kernel
theorem dX12_mark_217 : decode cX12_mark 217 = .ok (.getfield 31, 3) := by decide +kernel
theorem dX12_mark_220 : decode cX12_mark 220 = .ok (.iconst 0, 1) := by decide +kernel
theorem dX12_mark_221 : decode cX12_mark 221 = .ok (.iaload, 1) := by decide +kernel
theorem dX12_mark_222 : decode cX12_mark 222 = .ok (.iadd, 1) := by decide +kernel
theorem dX12_mark_223 : decode cX12_mark 223 = .ok (.ireturn, 1) := by decide +kernel
theorem dX12_trace_0 : decode cX12_trace 0 = .ok (.aload_n 0, 1) := by decide +kernel
theorem dX12_trace_1 : decode cX12_trace 1 = .ok (.getfield 245, 3) := by decide +kernel
theorem dX12_trace_4 : decode cX12_trace 4 = .ok (.lreturn, 1) := by decide +kernel
theorem dX12_keep_0 : decode cX12_keep 0 = .ok (.iload_n 1, 1) := by decide +kernel
theorem dX12_keep_1 : decode cX12_keep 1 = .ok (.i2l, 1) := by decide +kernel
theorem dX12_keep_2 : decode cX12_keep 2 = .ok (.lconst 0, 1) := by decide +kernel
theorem dX12_keep_3 : decode cX12_keep 3 = .ok (.lconst 1, 1) := by decide +kernel
theorem dX12_keep_4 : decode cX12_keep 4 = .ok (.invokestatic 63, 3) := by decide +kernel
theorem dX12_keep_7 : decode cX12_keep 7 = .ok (.ifCond .ne 5, 3) := by decide +kernel
theorem dX12_keep_10 : decode cX12_keep 10 = .ok (.iconst (-1), 1) := by decide +kernel
theorem dX12_keep_11 : decode cX12_keep 11 = .ok (.ireturn, 1) := by decide +kernel
theorem dX12_keep_12 : decode cX12_keep 12 = .ok (.sipush 321, 3) := by decide +kernel
theorem dX12_keep_15 : decode cX12_keep 15 = .ok (.iload_n 1, 1) := by decide +kernel
theorem dX12_keep_16 : decode cX12_keep 16 = .ok (.imul, 1) := by decide +kernel
theorem dX12_keep_17 : decode cX12_keep 17 = .ok (.istore_n 2, 1) := by decide +kernel
theorem dX12_keep_18 : decode cX12_keep 18 = .ok (.aload_n 0, 1) := by decide +kernel
theorem dX12_keep_19 : decode cX12_keep 19 = .ok (.getfield 55, 3) := by decide +kernel
theorem dX12_keep_22 : decode cX12_keep 22 = .ok (.iload_n 2, 1) := by decide +kernel
theorem dX12_keep_23 : decode cX12_keep 23 = .ok (.iconst 1, 1) := by decide +kernel
theorem dX12_keep_24 : decode cX12_keep 24 = .ok (.iastore, 1) := by decide +kernel
theorem dX12_keep_25 : decode cX12_keep 25 = .ok (.aload_n 0, 1) := by decide +kernel
theorem dX12_keep_26 : decode cX12_keep 26 = .ok (.getfield 55, 3) := by decide +kernel
theorem dX12_keep_29 : decode cX12_keep 29 = .ok (.iload_n 2, 1) := by decide +kernel
theorem dX12_keep_30 : decode cX12_keep 30 = .ok (.iconst 1, 1) := by decide +kernel
theorem dX12_keep_31 : decode cX12_keep 31 = .ok (.iadd, 1) := by decide +kernel
theorem dX12_keep_32 : decode cX12_keep 32 = .ok (.aload_n 0, 1) := by decide +kernel
theorem dX12_keep_33 : decode cX12_keep 33 = .ok (.getfield 152, 3) := by decide +kernel
theorem dX12_keep_36 : decode cX12_keep 36 = .ok (.iastore, 1) := by decide +kernel
theorem dX12_keep_37 : decode cX12_keep 37 = .ok (.aload_n 0, 1) := by decide +kernel
theorem dX12_keep_38 : decode cX12_keep 38 = .ok (.getfield 55, 3) := by decide +kernel
theorem dX12_keep_41 : decode cX12_keep 41 = .ok (.iload_n 2, 1) := by decide +kernel
theorem dX12_keep_42 : decode cX12_keep 42 = .ok (.iconst 2, 1) := by decide +kernel
theorem dX12_keep_43 : decode cX12_keep 43 = .ok (.iadd, 1) := by decide +kernel
theorem dX12_keep_44 : decode cX12_keep 44 = .ok (.aload_n 0, 1) := by decide +kernel
theorem dX12_keep_45 : decode cX12_keep 45 = .ok (.getfield 155, 3) := by decide +kernel
theorem dX12_keep_48 : decode cX12_keep 48 = .ok (.iastore, 1) := by decide +kernel
theorem dX12_keep_49 : decode cX12_keep 49 = .ok (.iconst 0, 1) := by decide +kernel
theorem dX12_keep_50 : decode cX12_keep 50 = .ok (.istore_n 3, 1) := by decide +kernel
theorem dX12_keep_51 : decode cX12_keep 51 = .ok (.iload_n 3, 1) := by decide +kernel
theorem dX12_keep_52 : decode cX12_keep 52 = .ok (.bipush 28, 2) := by decide +kernel
theorem dX12_keep_54 : decode cX12_keep 54 = .ok (.if_icmp .ge 25, 3) := by decide +kernel
theorem dX12_keep_57 : decode cX12_keep 57 = .ok (.aload_n 0, 1) := by decide +kernel
theorem dX12_keep_58 : decode cX12_keep 58 = .ok (.getfield 55, 3) := by decide +kernel
theorem dX12_keep_61 : decode cX12_keep 61 = .ok (.iload_n 2, 1) := by decide +kernel
theorem dX12_keep_62 : decode cX12_keep 62 = .ok (.iconst 3, 1) := by decide +kernel
theorem dX12_keep_63 : decode cX12_keep 63 = .ok (.iadd, 1) := by decide +kernel
theorem dX12_keep_64 : decode cX12_keep 64 = .ok (.iload_n 3, 1) := by decide +kernel
theorem dX12_keep_65 : decode cX12_keep 65 = .ok (.iadd, 1) := by decide +kernel
theorem dX12_keep_66 : decode cX12_keep 66 = .ok (.aload_n 0, 1) := by decide +kernel
theorem dX12_keep_67 : decode cX12_keep 67 = .ok (.getfield 31, 3) := by decide +kernel
theorem dX12_keep_70 : decode cX12_keep 70 = .ok (.iload_n 3, 1) := by decide +kernel
theorem dX12_keep_71 : decode cX12_keep 71 = .ok (.iaload, 1) := by decide +kernel
theorem dX12_keep_72 : decode cX12_keep 72 = .ok (.iastore, 1) := by decide +kernel
theorem dX12_keep_73 : decode cX12_keep 73 = .ok (.iinc 3 1, 3) := by decide +kernel
theorem dX12_keep_76 : decode cX12_keep 76 = .ok (.goto (-25), 3) := by decide +kernel
theorem dX12_keep_79 : decode cX12_keep 79 = .ok (.iconst 0, 1) := by decide +kernel
theorem dX12_keep_80 : decode cX12_keep 80 = .ok (.istore_n 3, 1) := by decide +kernel
theorem dX12_keep_81 : decode cX12_keep 81 = .ok (.iload_n 3, 1) := by decide +kernel
theorem dX12_keep_82 : decode cX12_keep 82 = .ok (.sipush 290, 3) := by decide +kernel
theorem dX12_keep_85 : decode cX12_keep 85 = .ok (.if_icmp .ge 26, 3) := by decide +kernel
theorem dX12_keep_88 : decode cX12_keep 88 = .ok (.aload_n 0, 1) := by decide +kernel
theorem dX12_keep_89 : decode cX12_keep 89 = .ok (.getfield 55, 3) := by decide +kernel
theorem dX12_keep_92 : decode cX12_keep 92 = .ok (.iload_n 2, 1) := by decide +kernel
theorem dX12_keep_93 : decode cX12_keep 93 = .ok (.bipush 31, 2) := by decide +kernel
theorem dX12_keep_95 : decode cX12_keep 95 = .ok (.iadd, 1) := by decide +kernel
theorem dX12_keep_96 : decode cX12_keep 96 = .ok (.iload_n 3, 1) := by decide +kernel
theorem dX12_keep_97 : decode cX12_keep 97 = .ok (.iadd, 1) := by decide +kernel
theorem dX12_keep_98 : decode cX12_keep 98 = .ok (.aload_n 0, 1) := by decide +kernel
theorem dX12_keep_99 : decode cX12_keep 99 = .ok (.getfield 37, 3) := by decide +kernel
theorem dX12_keep_102 : decode cX12_keep 102 = .ok (.iload_n 3, 1) := by decide +kernel
theorem dX12_keep_103 : decode cX12_keep 103 = .ok (.iaload, 1) := by decide +kernel
theorem dX12_keep_104 : decode cX12_keep 104 = .ok (.iastore, 1) := by decide +kernel
theorem dX12_keep_105 : decode cX12_keep 105 = .ok (.iinc 3 1, 3) := by decide +kernel
theorem dX12_keep_108 : decode cX12_keep 108 = .ok (.goto (-27), 3) := by decide +kernel
theorem dX12_keep_111 : decode cX12_keep 111 = .ok (.aload_n 0, 1) := by decide +kernel
theorem dX12_keep_112 : decode cX12_keep 112 = .ok (.getfield 31, 3) := by decide +kernel
theorem dX12_keep_115 : decode cX12_keep 115 = .ok (.iconst 0, 1) := by decide +kernel
theorem dX12_keep_116 : decode cX12_keep 116 = .ok (.iaload, 1) := by decide +kernel
theorem dX12_keep_117 : decode cX12_keep 117 = .ok (.ireturn, 1) := by decide +kernel
theorem dX12_back_0 : decode cX12_back 0 = .ok (.iload_n 1, 1) := by decide +kernel
theorem dX12_back_1 : decode cX12_back 1 = .ok (.i2l, 1) := by decide +kernel
theorem dX12_back_2 : decode cX12_back 2 = .ok (.lconst 0, 1) := by decide +kernel
theorem dX12_back_3 : decode cX12_back 3 = .ok (.lconst 1, 1) := by decide +kernel
theorem dX12_back_4 : decode cX12_back 4 = .ok (.invokestatic 63, 3) := by decide +kernel
theorem dX12_back_7 : decode cX12_back 7 = .ok (.ifCond .ne 5, 3) := by decide +kernel
theorem dX12_back_10 : decode cX12_back 10 = .ok (.iconst (-1), 1) := by decide +kernel
theorem dX12_back_11 : decode cX12_back 11 = .ok (.ireturn, 1) := by decide +kernel
theorem dX12_back_12 : decode cX12_back 12 = .ok (.sipush 321, 3) := by decide +kernel
theorem dX12_back_15 : decode cX12_back 15 = .ok (.iload_n 1, 1) := by decide +kernel
theorem dX12_back_16 : decode cX12_back 16 = .ok (.imul, 1) := by decide +kernel
theorem dX12_back_17 : decode cX12_back 17 = .ok (.istore_n 2, 1) := by decide +kernel
theorem dX12_back_18 : decode cX12_back 18 = .ok (.aload_n 0, 1) := by decide +kernel
theorem dX12_back_19 : decode cX12_back 19 = .ok (.getfield 55, 3) := by decide +kernel
theorem dX12_back_22 : decode cX12_back 22 = .ok (.iload_n 2, 1) := by decide +kernel
theorem dX12_back_23 : decode cX12_back 23 = .ok (.iaload, 1) := by decide +kernel
theorem dX12_back_24 : decode cX12_back 24 = .ok (.ifCond .ne 6, 3) := by decide +kernel
theorem dX12_back_27 : decode cX12_back 27 = .ok (.bipush (-2), 2) := by decide +kernel
theorem dX12_back_29 : decode cX12_back 29 = .ok (.ireturn, 1) := by decide +kernel
theorem dX12_back_30 : decode cX12_back 30 = .ok (.aload_n 0, 1) := by decide +kernel
theorem dX12_back_31 : decode cX12_back 31 = .ok (.aload_n 0, 1) := by decide +kernel
theorem dX12_back_32 : decode cX12_back 32 = .ok (.getfield 55, 3) := by decide +kernel
theorem dX12_back_35 : decode cX12_back 35 = .ok (.iload_n 2, 1) := by decide +kernel
theorem dX12_back_36 : decode cX12_back 36 = .ok (.iconst 1, 1) := by decide +kernel
theorem dX12_back_37 : decode cX12_back 37 = .ok (.iadd, 1) := by decide +kernel
theorem dX12_back_38 : decode cX12_back 38 = .ok (.iaload, 1) := by decide +kernel
theorem dX12_back_39 : decode cX12_back 39 = .ok (.putfield 152, 3) := by decide +kernel
theorem dX12_back_42 : decode cX12_back 42 = .ok (.aload_n 0, 1) := by decide +kernel
theorem dX12_back_43 : decode cX12_back 43 = .ok (.aload_n 0, 1) := by decide +kernel
theorem dX12_back_44 : decode cX12_back 44 = .ok (.getfield 55, 3) := by decide +kernel
theorem dX12_back_47 : decode cX12_back 47 = .ok (.iload_n 2, 1) := by decide +kernel
theorem dX12_back_48 : decode cX12_back 48 = .ok (.iconst 2, 1) := by decide +kernel
theorem dX12_back_49 : decode cX12_back 49 = .ok (.iadd, 1) := by decide +kernel
theorem dX12_back_50 : decode cX12_back 50 = .ok (.iaload, 1) := by decide +kernel
theorem dX12_back_51 : decode cX12_back 51 = .ok (.putfield 155, 3) := by decide +kernel
theorem dX12_back_54 : decode cX12_back 54 = .ok (.iconst 0, 1) := by decide +kernel
theorem dX12_back_55 : decode cX12_back 55 = .ok (.istore_n 3, 1) := by decide +kernel
theorem dX12_back_56 : decode cX12_back 56 = .ok (.iload_n 3, 1) := by decide +kernel
theorem dX12_back_57 : decode cX12_back 57 = .ok (.bipush 28, 2) := by decide +kernel
theorem dX12_back_59 : decode cX12_back 59 = .ok (.if_icmp .ge 25, 3) := by decide +kernel
theorem dX12_back_62 : decode cX12_back 62 = .ok (.aload_n 0, 1) := by decide +kernel
theorem dX12_back_63 : decode cX12_back 63 = .ok (.getfield 31, 3) := by decide +kernel
theorem dX12_back_66 : decode cX12_back 66 = .ok (.iload_n 3, 1) := by decide +kernel
theorem dX12_back_67 : decode cX12_back 67 = .ok (.aload_n 0, 1) := by decide +kernel
theorem dX12_back_68 : decode cX12_back 68 = .ok (.getfield 55, 3) := by decide +kernel
theorem dX12_back_71 : decode cX12_back 71 = .ok (.iload_n 2, 1) := by decide +kernel
theorem dX12_back_72 : decode cX12_back 72 = .ok (.iconst 3, 1) := by decide +kernel
theorem dX12_back_73 : decode cX12_back 73 = .ok (.iadd, 1) := by decide +kernel
theorem dX12_back_74 : decode cX12_back 74 = .ok (.iload_n 3, 1) := by decide +kernel
theorem dX12_back_75 : decode cX12_back 75 = .ok (.iadd, 1) := by decide +kernel
theorem dX12_back_76 : decode cX12_back 76 = .ok (.iaload, 1) := by decide +kernel
theorem dX12_back_77 : decode cX12_back 77 = .ok (.iastore, 1) := by decide +kernel
theorem dX12_back_78 : decode cX12_back 78 = .ok (.iinc 3 1, 3) := by decide +kernel
theorem dX12_back_81 : decode cX12_back 81 = .ok (.goto (-25), 3) := by decide +kernel
theorem dX12_back_84 : decode cX12_back 84 = .ok (.iconst 0, 1) := by decide +kernel
theorem dX12_back_85 : decode cX12_back 85 = .ok (.istore_n 3, 1) := by decide +kernel
theorem dX12_back_86 : decode cX12_back 86 = .ok (.iload_n 3, 1) := by decide +kernel
theorem dX12_back_87 : decode cX12_back 87 = .ok (.sipush 290, 3) := by decide +kernel
theorem dX12_back_90 : decode cX12_back 90 = .ok (.if_icmp .ge 26, 3) := by decide +kernel
theorem dX12_back_93 : decode cX12_back 93 = .ok (.aload_n 0, 1) := by decide +kernel
theorem dX12_back_94 : decode cX12_back 94 = .ok (.getfield 37, 3) := by decide +kernel
theorem dX12_back_97 : decode cX12_back 97 = .ok (.iload_n 3, 1) := by decide +kernel
theorem dX12_back_98 : decode cX12_back 98 = .ok (.aload_n 0, 1) := by decide +kernel
theorem dX12_back_99 : decode cX12_back 99 = .ok (.getfield 55, 3) := by decide +kernel
theorem dX12_back_102 : decode cX12_back 102 = .ok (.iload_n 2, 1) := by decide +kernel
theorem dX12_back_103 : decode cX12_back 103 = .ok (.bipush 31, 2) := by decide +kernel
theorem dX12_back_105 : decode cX12_back 105 = .ok (.iadd, 1) := by decide +kernel
theorem dX12_back_106 : decode cX12_back 106 = .ok (.iload_n 3, 1) := by decide +kernel
theorem dX12_back_107 : decode cX12_back 107 = .ok (.iadd, 1) := by decide +kernel
theorem dX12_back_108 : decode cX12_back 108 = .ok (.iaload, 1) := by decide +kernel
theorem dX12_back_109 : decode cX12_back 109 = .ok (.iastore, 1) := by decide +kernel
theorem dX12_back_110 : decode cX12_back 110 = .ok (.iinc 3 1, 3) := by decide +kernel
theorem dX12_back_113 : decode cX12_back 113 = .ok (.goto (-27), 3) := by decide +kernel
theorem dX12_back_116 : decode cX12_back 116 = .ok (.aload_n 0, 1) := by decide +kernel
theorem dX12_back_117 : decode cX12_back 117 = .ok (.getfield 31, 3) := by decide +kernel
theorem dX12_back_120 : decode cX12_back 120 = .ok (.iconst 0, 1) := by decide +kernel
theorem dX12_back_121 : decode cX12_back 121 = .ok (.iaload, 1) := by decide +kernel
theorem dX12_back_122 : decode cX12_back 122 = .ok (.ireturn, 1) := by decide +kernel
theorem dX12_count_0 : decode cX12_count 0 = .ok (.iload_n 1, 1) := by decide +kernel
theorem dX12_count_1 : decode cX12_count 1 = .ok (.tableswitch 78 0 6 #[43, 48, 53, 58, 63, 68, 73], 43) := by decide +kernel
theorem dX12_count_44 : decode cX12_count 44 = .ok (.aload_n 0, 1) := by decide +kernel
theorem dX12_count_45 : decode cX12_count 45 = .ok (.getfield 137, 3) := by decide +kernel
theorem dX12_count_48 : decode cX12_count 48 = .ok (.ireturn, 1) := by decide +kernel
theorem dX12_count_49 : decode cX12_count 49 = .ok (.aload_n 0, 1) := by decide +kernel
theorem dX12_count_50 : decode cX12_count 50 = .ok (.getfield 140, 3) := by decide +kernel
theorem dX12_count_53 : decode cX12_count 53 = .ok (.ireturn, 1) := by decide +kernel
theorem dX12_count_54 : decode cX12_count 54 = .ok (.aload_n 0, 1) := by decide +kernel
theorem dX12_count_55 : decode cX12_count 55 = .ok (.getfield 143, 3) := by decide +kernel
theorem dX12_count_58 : decode cX12_count 58 = .ok (.ireturn, 1) := by decide +kernel
theorem dX12_count_59 : decode cX12_count 59 = .ok (.aload_n 0, 1) := by decide +kernel
theorem dX12_count_60 : decode cX12_count 60 = .ok (.getfield 146, 3) := by decide +kernel
theorem dX12_count_63 : decode cX12_count 63 = .ok (.ireturn, 1) := by decide +kernel
theorem dX12_count_64 : decode cX12_count 64 = .ok (.aload_n 0, 1) := by decide +kernel
theorem dX12_count_65 : decode cX12_count 65 = .ok (.getfield 158, 3) := by decide +kernel
theorem dX12_count_68 : decode cX12_count 68 = .ok (.ireturn, 1) := by decide +kernel
theorem dX12_count_69 : decode cX12_count 69 = .ok (.aload_n 0, 1) := by decide +kernel
theorem dX12_count_70 : decode cX12_count 70 = .ok (.getfield 155, 3) := by decide +kernel
theorem dX12_count_73 : decode cX12_count 73 = .ok (.ireturn, 1) := by decide +kernel
theorem dX12_count_74 : decode cX12_count 74 = .ok (.aload_n 0, 1) := by decide +kernel
theorem dX12_count_75 : decode cX12_count 75 = .ok (.getfield 67, 3) := by decide +kernel
theorem dX12_count_78 : decode cX12_count 78 = .ok (.ireturn, 1) := by decide +kernel
theorem dX12_count_79 : decode cX12_count 79 = .ok (.iconst (-1), 1) := by decide +kernel
theorem dX12_count_80 : decode cX12_count 80 = .ok (.ireturn, 1) := by decide +kernel

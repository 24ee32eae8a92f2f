theorem dX10_rank_39 : decode mX10_rank.2.1 39 = .ok (.iadd, 1) := by decide +kernel
theorem dX10_rank_40 : decode mX10_rank.2.1 40 = .ok (.laload, 1) := by decide +kernel
theorem dX10_rank_41 : decode mX10_rank.2.1 41 = .ok (.lconst 0, 1) := by decide +kernel
theorem dX10_rank_42 : decode mX10_rank.2.1 42 = .ok (.lcmp, 1) := by decide +kernel
theorem dX10_rank_43 : decode mX10_rank.2.1 43 = .ok (.ifCond .ne 9, 3) := by decide +kernel
theorem dX10_rank_46 : decode mX10_rank.2.1 46 = .ok (.iinc 6 1, 3) := by decide +kernel
theorem dX10_rank_49 : decode mX10_rank.2.1 49 = .ok (.goto (-27), 3) := by decide +kernel
theorem dX10_rank_52 : decode mX10_rank.2.1 52 = .ok (.iload 6, 2) := by decide +kernel
theorem dX10_rank_54 : decode mX10_rank.2.1 54 = .ok (.iload_n 1, 1) := by decide +kernel
theorem dX10_rank_55 : decode mX10_rank.2.1 55 = .ok (.if_icmp .ne 6, 3) := by decide +kernel
theorem dX10_rank_58 : decode mX10_rank.2.1 58 = .ok (.goto 125, 3) := by decide +kernel
theorem dX10_rank_61 : decode mX10_rank.2.1 61 = .ok (.aload_n 0, 1) := by decide +kernel
theorem dX10_rank_62 : decode mX10_rank.2.1 62 = .ok (.iload 6, 2) := by decide +kernel
theorem dX10_rank_64 : decode mX10_rank.2.1 64 = .ok (.iload_n 2, 1) := by decide +kernel
theorem dX10_rank_65 : decode mX10_rank.2.1 65 = .ok (.invokevirtual 190, 3) := by decide +kernel
theorem dX10_rank_68 : decode mX10_rank.2.1 68 = .ok (.aload_n 0, 1) := by decide +kernel
theorem dX10_rank_69 : decode mX10_rank.2.1 69 = .ok (.getfield 58, 3) := by decide +kernel
theorem dX10_rank_72 : decode mX10_rank.2.1 72 = .ok (.bipush 15, 2) := by decide +kernel
theorem dX10_rank_74 : decode mX10_rank.2.1 74 = .ok (.iload_n 2, 1) := by decide +kernel
theorem dX10_rank_75 : decode mX10_rank.2.1 75 = .ok (.imul, 1) := by decide +kernel
theorem dX10_rank_76 : decode mX10_rank.2.1 76 = .ok (.iload 5, 2) := by decide +kernel
theorem dX10_rank_78 : decode mX10_rank.2.1 78 = .ok (.iadd, 1) := by decide +kernel
theorem dX10_rank_79 : decode mX10_rank.2.1 79 = .ok (.laload, 1) := by decide +kernel
theorem dX10_rank_80 : decode mX10_rank.2.1 80 = .ok (.lstore 7, 2) := by decide +kernel
theorem dX10_rank_82 : decode mX10_rank.2.1 82 = .ok (.iload_n 2, 1) := by decide +kernel
theorem dX10_rank_83 : decode mX10_rank.2.1 83 = .ok (.iconst 1, 1) := by decide +kernel
theorem dX10_rank_84 : decode mX10_rank.2.1 84 = .ok (.iadd, 1) := by decide +kernel
theorem dX10_rank_85 : decode mX10_rank.2.1 85 = .ok (.istore 9, 2) := by decide +kernel
theorem dX10_rank_87 : decode mX10_rank.2.1 87 = .ok (.iload 9, 2) := by decide +kernel
theorem dX10_rank_89 : decode mX10_rank.2.1 89 = .ok (.iload_n 1, 1) := by decide +kernel
theorem dX10_rank_90 : decode mX10_rank.2.1 90 = .ok (.if_icmp .ge 87, 3) := by decide +kernel
theorem dX10_rank_93 : decode mX10_rank.2.1 93 = .ok (.aload_n 0, 1) := by decide +kernel
theorem dX10_rank_94 : decode mX10_rank.2.1 94 = .ok (.getfield 58, 3) := by decide +kernel
theorem dX10_rank_97 : decode mX10_rank.2.1 97 = .ok (.bipush 15, 2) := by decide +kernel
theorem dX10_rank_99 : decode mX10_rank.2.1 99 = .ok (.iload 9, 2) := by decide +kernel
theorem dX10_rank_101 : decode mX10_rank.2.1 101 = .ok (.imul, 1) := by decide +kernel
theorem dX10_rank_102 : decode mX10_rank.2.1 102 = .ok (.iload 5, 2) := by decide +kernel
theorem dX10_rank_104 : decode mX10_rank.2.1 104 = .ok (.iadd, 1) := by decide +kernel
theorem dX10_rank_105 : decode mX10_rank.2.1 105 = .ok (.laload, 1) := by decide +kernel
theorem dX10_rank_106 : decode mX10_rank.2.1 106 = .ok (.lstore 10, 2) := by decide +kernel
theorem dX10_rank_108 : decode mX10_rank.2.1 108 = .ok (.iconst 0, 1) := by decide +kernel
theorem dX10_rank_109 : decode mX10_rank.2.1 109 = .ok (.istore 12, 2) := by decide +kernel
theorem dX10_rank_111 : decode mX10_rank.2.1 111 = .ok (.iload 12, 2) := by decide +kernel
theorem dX10_rank_113 : decode mX10_rank.2.1 113 = .ok (.bipush 15, 2) := by decide +kernel
theorem dX10_rank_115 : decode mX10_rank.2.1 115 = .ok (.if_icmp .ge 56, 3) := by decide +kernel
theorem dX10_rank_118 : decode mX10_rank.2.1 118 = .ok (.aload_n 0, 1) := by decide +kernel
theorem dX10_rank_119 : decode mX10_rank.2.1 119 = .ok (.getfield 58, 3) := by decide +kernel
theorem dX10_rank_122 : decode mX10_rank.2.1 122 = .ok (.bipush 15, 2) := by decide +kernel
theorem dX10_rank_124 : decode mX10_rank.2.1 124 = .ok (.iload 9, 2) := by decide +kernel
theorem dX10_rank_126 : decode mX10_rank.2.1 126 = .ok (.imul, 1) := by decide +kernel
theorem dX10_rank_127 : decode mX10_rank.2.1 127 = .ok (.iload 12, 2) := by decide +kernel
theorem dX10_rank_129 : decode mX10_rank.2.1 129 = .ok (.iadd, 1) := by decide +kernel
theorem dX10_rank_130 : decode mX10_rank.2.1 130 = .ok (.lload 7, 2) := by decide +kernel
theorem dX10_rank_132 : decode mX10_rank.2.1 132 = .ok (.aload_n 0, 1) := by decide +kernel
theorem dX10_rank_133 : decode mX10_rank.2.1 133 = .ok (.getfield 58, 3) := by decide +kernel
theorem dX10_rank_136 : decode mX10_rank.2.1 136 = .ok (.bipush 15, 2) := by decide +kernel
theorem dX10_rank_138 : decode mX10_rank.2.1 138 = .ok (.iload 9, 2) := by decide +kernel
theorem dX10_rank_140 : decode mX10_rank.2.1 140 = .ok (.imul, 1) := by decide +kernel
theorem dX10_rank_141 : decode mX10_rank.2.1 141 = .ok (.iload 12, 2) := by decide +kernel
theorem dX10_rank_143 : decode mX10_rank.2.1 143 = .ok (.iadd, 1) := by decide +kernel
theorem dX10_rank_144 : decode mX10_rank.2.1 144 = .ok (.laload, 1) := by decide +kernel
theorem dX10_rank_145 : decode mX10_rank.2.1 145 = .ok (.lmul, 1) := by decide +kernel
theorem dX10_rank_146 : decode mX10_rank.2.1 146 = .ok (.lload 10, 2) := by decide +kernel
theorem dX10_rank_148 : decode mX10_rank.2.1 148 = .ok (.aload_n 0, 1) := by decide +kernel
theorem dX10_rank_149 : decode mX10_rank.2.1 149 = .ok (.getfield 58, 3) := by decide +kernel
theorem dX10_rank_152 : decode mX10_rank.2.1 152 = .ok (.bipush 15, 2) := by decide +kernel
theorem dX10_rank_154 : decode mX10_rank.2.1 154 = .ok (.iload_n 2, 1) := by decide +kernel
theorem dX10_rank_155 : decode mX10_rank.2.1 155 = .ok (.imul, 1) := by decide +kernel
theorem dX10_rank_156 : decode mX10_rank.2.1 156 = .ok (.iload 12, 2) := by decide +kernel
theorem dX10_rank_158 : decode mX10_rank.2.1 158 = .ok (.iadd, 1) := by decide +kernel
theorem dX10_rank_159 : decode mX10_rank.2.1 159 = .ok (.laload, 1) := by decide +kernel
theorem dX10_rank_160 : decode mX10_rank.2.1 160 = .ok (.lmul, 1) := by decide +kernel
theorem dX10_rank_161 : decode mX10_rank.2.1 161 = .ok (.lsub, 1) := by decide +kernel
theorem dX10_rank_162 : decode mX10_rank.2.1 162 = .ok (.lload_n 3, 1) := by decide +kernel
theorem dX10_rank_163 : decode mX10_rank.2.1 163 = .ok (.ldiv, 1) := by decide +kernel
theorem dX10_rank_164 : decode mX10_rank.2.1 164 = .ok (.lastore, 1) := by decide +kernel
theorem dX10_rank_165 : decode mX10_rank.2.1 165 = .ok (.iinc 12 1, 3) := by decide +kernel
theorem dX10_rank_168 : decode mX10_rank.2.1 168 = .ok (.goto (-57), 3) := by decide +kernel
theorem dX10_rank_171 : decode mX10_rank.2.1 171 = .ok (.iinc 9 1, 3) := by decide +kernel
theorem dX10_rank_174 : decode mX10_rank.2.1 174 = .ok (.goto (-87), 3) := by decide +kernel
theorem dX10_rank_177 : decode mX10_rank.2.1 177 = .ok (.lload 7, 2) := by decide +kernel
theorem dX10_rank_179 : decode mX10_rank.2.1 179 = .ok (.lstore_n 3, 1) := by decide +kernel
theorem dX10_rank_180 : decode mX10_rank.2.1 180 = .ok (.iinc 2 1, 3) := by decide +kernel
theorem dX10_rank_183 : decode mX10_rank.2.1 183 = .ok (.iinc 5 1, 3) := by decide +kernel
theorem dX10_rank_186 : decode mX10_rank.2.1 186 = .ok (.goto (-179), 3) := by decide +kernel
theorem dX10_rank_189 : decode mX10_rank.2.1 189 = .ok (.iload_n 2, 1) := by decide +kernel
theorem dX10_rank_190 : decode mX10_rank.2.1 190 = .ok (.ireturn, 1) := by decide +kernel
theorem dX10_roots_0 : decode mX10_roots.2.1 0 = .ok (.iload_n 1, 1) := by decide +kernel
theorem dX10_roots_1 : decode mX10_roots.2.1 1 = .ok (.invokestatic 176, 3) := by decide +kernel
theorem dX10_roots_4 : decode mX10_roots.2.1 4 = .ok (.ifCond .eq 15, 3) := by decide +kernel
theorem dX10_roots_7 : decode mX10_roots.2.1 7 = .ok (.iload_n 2, 1) := by decide +kernel
theorem dX10_roots_8 : decode mX10_roots.2.1 8 = .ok (.i2l, 1) := by decide +kernel
theorem dX10_roots_9 : decode mX10_roots.2.1 9 = .ok (.lconst 0, 1) := by decide +kernel
theorem dX10_roots_10 : decode mX10_roots.2.1 10 = .ok (.ldc2_w 103, 3) := by decide +kernel
theorem dX10_roots_13 : decode mX10_roots.2.1 13 = .ok (.invokestatic 77, 3) := by decide +kernel
theorem dX10_roots_16 : decode mX10_roots.2.1 16 = .ok (.ifCond .ne 5, 3) := by decide +kernel
theorem dX10_roots_19 : decode mX10_roots.2.1 19 = .ok (.iconst (-1), 1) := by decide +kernel
theorem dX10_roots_20 : decode mX10_roots.2.1 20 = .ok (.ireturn, 1) := by decide +kernel
theorem dX10_roots_21 : decode mX10_roots.2.1 21 = .ok (.aload_n 0, 1) := by decide +kernel
theorem dX10_roots_22 : decode mX10_roots.2.1 22 = .ok (.iload_n 1, 1) := by decide +kernel
theorem dX10_roots_23 : decode mX10_roots.2.1 23 = .ok (.invokevirtual 182, 3) := by decide +kernel
theorem dX10_roots_26 : decode mX10_roots.2.1 26 = .ok (.ifCond .eq 9, 3) := by decide +kernel
theorem dX10_roots_29 : decode mX10_roots.2.1 29 = .ok (.aload_n 0, 1) := by decide +kernel
theorem dX10_roots_30 : decode mX10_roots.2.1 30 = .ok (.iload_n 1, 1) := by decide +kernel
theorem dX10_roots_31 : decode mX10_roots.2.1 31 = .ok (.invokevirtual 182, 3) := by decide +kernel
theorem dX10_roots_34 : decode mX10_roots.2.1 34 = .ok (.ireturn, 1) := by decide +kernel
theorem dX10_roots_35 : decode mX10_roots.2.1 35 = .ok (.iconst 0, 1) := by decide +kernel
theorem dX10_roots_36 : decode mX10_roots.2.1 36 = .ok (.istore_n 3, 1) := by decide +kernel
theorem dX10_roots_37 : decode mX10_roots.2.1 37 = .ok (.iconst 1, 1) := by decide +kernel
theorem dX10_roots_38 : decode mX10_roots.2.1 38 = .ok (.istore 4, 2) := by decide +kernel
theorem dX10_roots_40 : decode mX10_roots.2.1 40 = .ok (.iload 4, 2) := by decide +kernel
theorem dX10_roots_42 : decode mX10_roots.2.1 42 = .ok (.aload_n 0, 1) := by decide +kernel
theorem dX10_roots_43 : decode mX10_roots.2.1 43 = .ok (.invokevirtual 85, 3) := by decide +kernel
theorem dX10_roots_46 : decode mX10_roots.2.1 46 = .ok (.if_icmp .gt 31, 3) := by decide +kernel
theorem dX10_roots_49 : decode mX10_roots.2.1 49 = .ok (.aload_n 0, 1) := by decide +kernel
theorem dX10_roots_50 : decode mX10_roots.2.1 50 = .ok (.iload 4, 2) := by decide +kernel
theorem dX10_roots_52 : decode mX10_roots.2.1 52 = .ok (.invokevirtual 194, 3) := by decide +kernel
theorem dX10_roots_55 : decode mX10_roots.2.1 55 = .ok (.ifCond .ne 6, 3) := by decide +kernel
theorem dX10_roots_58 : decode mX10_roots.2.1 58 = .ok (.goto 13, 3) := by decide +kernel
theorem dX10_roots_61 : decode mX10_roots.2.1 61 = .ok (.aload_n 0, 1) := by decide +kernel
theorem dX10_roots_62 : decode mX10_roots.2.1 62 = .ok (.iload_n 3, 1) := by decide +kernel
theorem dX10_roots_63 : decode mX10_roots.2.1 63 = .ok (.iload 4, 2) := by decide +kernel
theorem dX10_roots_65 : decode mX10_roots.2.1 65 = .ok (.invokevirtual 197, 3) := by decide +kernel
theorem dX10_roots_68 : decode mX10_roots.2.1 68 = .ok (.iinc 3 1, 3) := by decide +kernel
theorem dX10_roots_71 : decode mX10_roots.2.1 71 = .ok (.iinc 4 1, 3) := by decide +kernel
theorem dX10_roots_74 : decode mX10_roots.2.1 74 = .ok (.goto (-34), 3) := by decide +kernel
theorem dX10_roots_77 : decode mX10_roots.2.1 77 = .ok (.iload_n 2, 1) := by decide +kernel
theorem dX10_roots_78 : decode mX10_roots.2.1 78 = .ok (.ifCond .ne 5, 3) := by decide +kernel
theorem dX10_roots_81 : decode mX10_roots.2.1 81 = .ok (.iload_n 3, 1) := by decide +kernel
theorem dX10_roots_82 : decode mX10_roots.2.1 82 = .ok (.ireturn, 1) := by decide +kernel
theorem dX10_roots_83 : decode mX10_roots.2.1 83 = .ok (.aload_n 0, 1) := by decide +kernel
theorem dX10_roots_84 : decode mX10_roots.2.1 84 = .ok (.iload_n 3, 1) := by decide +kernel
theorem dX10_roots_85 : decode mX10_roots.2.1 85 = .ok (.invokevirtual 200, 3) := by decide +kernel
theorem dX10_roots_88 : decode mX10_roots.2.1 88 = .ok (.istore 4, 2) := by decide +kernel
theorem dX10_roots_90 : decode mX10_roots.2.1 90 = .ok (.iload_n 2, 1) := by decide +kernel
theorem dX10_roots_91 : decode mX10_roots.2.1 91 = .ok (.iconst 1, 1) := by decide +kernel
theorem dX10_roots_92 : decode mX10_roots.2.1 92 = .ok (.if_icmp .ne 8, 3) := by decide +kernel
theorem dX10_roots_95 : decode mX10_roots.2.1 95 = .ok (.iload 4, 2) := by decide +kernel
theorem dX10_roots_97 : decode mX10_roots.2.1 97 = .ok (.goto 22, 3) := by decide +kernel
theorem dX10_roots_100 : decode mX10_roots.2.1 100 = .ok (.iload 4, 2) := by decide +kernel
theorem dX10_roots_102 : decode mX10_roots.2.1 102 = .ok (.aload_n 0, 1) := by decide +kernel
theorem dX10_roots_103 : decode mX10_roots.2.1 103 = .ok (.getfield 9, 3) := by decide +kernel
theorem dX10_roots_106 : decode mX10_roots.2.1 106 = .ok (.invokestatic 187, 3) := by decide +kernel
theorem dX10_roots_109 : decode mX10_roots.2.1 109 = .ok (.iconst 1, 1) := by decide +kernel
theorem dX10_roots_110 : decode mX10_roots.2.1 110 = .ok (.isub, 1) := by decide +kernel
theorem dX10_roots_111 : decode mX10_roots.2.1 111 = .ok (.if_icmp .ne 7, 3) := by decide +kernel
theorem dX10_roots_114 : decode mX10_roots.2.1 114 = .ok (.iconst 1, 1) := by decide +kernel
theorem dX10_roots_115 : decode mX10_roots.2.1 115 = .ok (.goto 4, 3) := by decide +kernel
theorem dX10_roots_118 : decode mX10_roots.2.1 118 = .ok (.iconst 0, 1) := by decide +kernel
theorem dX10_roots_119 : decode mX10_roots.2.1 119 = .ok (.ireturn, 1) := by decide +kernel
theorem dX10_root_0 : decode mX10_root.2.1 0 = .ok (.iload_n 1, 1) := by decide +kernel
theorem dX10_root_1 : decode mX10_root.2.1 1 = .ok (.invokestatic 176, 3) := by decide +kernel
theorem dX10_root_4 : decode mX10_root.2.1 4 = .ok (.ifCond .eq 7, 3) := by decide +kernel
theorem dX10_root_7 : decode mX10_root.2.1 7 = .ok (.iload_n 2, 1) := by decide +kernel
theorem dX10_root_8 : decode mX10_root.2.1 8 = .ok (.ifCond .ge 5, 3) := by decide +kernel
theorem dX10_root_11 : decode mX10_root.2.1 11 = .ok (.iconst (-1), 1) := by decide +kernel
theorem dX10_root_12 : decode mX10_root.2.1 12 = .ok (.ireturn, 1) := by decide +kernel
theorem dX10_root_13 : decode mX10_root.2.1 13 = .ok (.aload_n 0, 1) := by decide +kernel
theorem dX10_root_14 : decode mX10_root.2.1 14 = .ok (.iload_n 1, 1) := by decide +kernel
theorem dX10_root_15 : decode mX10_root.2.1 15 = .ok (.invokevirtual 182, 3) := by decide +kernel
theorem dX10_root_18 : decode mX10_root.2.1 18 = .ok (.ifCond .eq 9, 3) := by decide +kernel
theorem dX10_root_21 : decode mX10_root.2.1 21 = .ok (.aload_n 0, 1) := by decide +kernel
theorem dX10_root_22 : decode mX10_root.2.1 22 = .ok (.iload_n 1, 1) := by decide +kernel
theorem dX10_root_23 : decode mX10_root.2.1 23 = .ok (.invokevirtual 182, 3) := by decide +kernel
theorem dX10_root_26 : decode mX10_root.2.1 26 = .ok (.ireturn, 1) := by decide +kernel
theorem dX10_root_27 : decode mX10_root.2.1 27 = .ok (.iload_n 2, 1) := by decide +kernel
theorem dX10_root_28 : decode mX10_root.2.1 28 = .ok (.istore_n 3, 1) := by decide +kernel
theorem dX10_root_29 : decode mX10_root.2.1 29 = .ok (.iconst 1, 1) := by decide +kernel
theorem dX10_root_30 : decode mX10_root.2.1 30 = .ok (.istore 4, 2) := by decide +kernel
theorem dX10_root_32 : decode mX10_root.2.1 32 = .ok (.iload 4, 2) := by decide +kernel
theorem dX10_root_34 : decode mX10_root.2.1 34 = .ok (.aload_n 0, 1) := by decide +kernel
theorem dX10_root_35 : decode mX10_root.2.1 35 = .ok (.invokevirtual 85, 3) := by decide +kernel
theorem dX10_root_38 : decode mX10_root.2.1 38 = .ok (.if_icmp .gt 31, 3) := by decide +kernel
theorem dX10_root_41 : decode mX10_root.2.1 41 = .ok (.aload_n 0, 1) := by decide +kernel
theorem dX10_root_42 : decode mX10_root.2.1 42 = .ok (.iload 4, 2) := by decide +kernel
theorem dX10_root_44 : decode mX10_root.2.1 44 = .ok (.invokevirtual 194, 3) := by decide +kernel
theorem dX10_root_47 : decode mX10_root.2.1 47 = .ok (.ifCond .ne 6, 3) := by decide +kernel
theorem dX10_root_50 : decode mX10_root.2.1 50 = .ok (.goto 13, 3) := by decide +kernel
theorem dX10_root_53 : decode mX10_root.2.1 53 = .ok (.iload_n 3, 1) := by decide +kernel
theorem dX10_root_54 : decode mX10_root.2.1 54 = .ok (.ifCond .ne 6, 3) := by decide +kernel
theorem dX10_root_57 : decode mX10_root.2.1 57 = .ok (.iload 4, 2) := by decide +kernel
theorem dX10_root_59 : decode mX10_root.2.1 59 = .ok (.ireturn, 1) := by decide +kernel
theorem dX10_root_60 : decode mX10_root.2.1 60 = .ok (.iinc 3 (-1), 3) := by decide +kernel
theorem dX10_root_63 : decode mX10_root.2.1 63 = .ok (.iinc 4 1, 3) := by decide +kernel
theorem dX10_root_66 : decode mX10_root.2.1 66 = .ok (.goto (-34), 3) := by decide +kernel
theorem dX10_root_69 : decode mX10_root.2.1 69 = .ok (.bipush (-2), 2) := by decide +kernel
theorem dX10_root_71 : decode mX10_root.2.1 71 = .ok (.ireturn, 1) := by decide +kernel
theorem dX10_switched_0 : decode mX10_switched.2.1 0 = .ok (.iload_n 1, 1) := by decide +kernel
theorem dX10_switched_1 : decode mX10_switched.2.1 1 = .ok (.invokestatic 176, 3) := by decide +kernel
theorem dX10_switched_4 : decode mX10_switched.2.1 4 = .ok (.ifCond .eq 11, 3) := by decide +kernel
theorem dX10_switched_7 : decode mX10_switched.2.1 7 = .ok (.aload_n 0, 1) := by decide +kernel
theorem dX10_switched_8 : decode mX10_switched.2.1 8 = .ok (.iload_n 2, 1) := by decide +kernel
theorem dX10_switched_9 : decode mX10_switched.2.1 9 = .ok (.invokevirtual 122, 3) := by decide +kernel
theorem dX10_switched_12 : decode mX10_switched.2.1 12 = .ok (.ifCond .ne 5, 3) := by decide +kernel
theorem dX10_switched_15 : decode mX10_switched.2.1 15 = .ok (.iconst (-1), 1) := by decide +kernel
theorem dX10_switched_16 : decode mX10_switched.2.1 16 = .ok (.ireturn, 1) := by decide +kernel
theorem dX10_switched_17 : decode mX10_switched.2.1 17 = .ok (.aload_n 0, 1) := by decide +kernel
theorem dX10_switched_18 : decode mX10_switched.2.1 18 = .ok (.iload_n 1, 1) := by decide +kernel
theorem dX10_switched_19 : decode mX10_switched.2.1 19 = .ok (.invokevirtual 182, 3) := by decide +kernel
theorem dX10_switched_22 : decode mX10_switched.2.1 22 = .ok (.ifCond .eq 9, 3) := by decide +kernel
theorem dX10_switched_25 : decode mX10_switched.2.1 25 = .ok (.aload_n 0, 1) := by decide +kernel
theorem dX10_switched_26 : decode mX10_switched.2.1 26 = .ok (.iload_n 1, 1) := by decide +kernel
theorem dX10_switched_27 : decode mX10_switched.2.1 27 = .ok (.invokevirtual 182, 3) := by decide +kernel
theorem dX10_switched_30 : decode mX10_switched.2.1 30 = .ok (.ireturn, 1) := by decide +kernel
theorem dX10_switched_31 : decode mX10_switched.2.1 31 = .ok (.iconst 0, 1) := by decide +kernel
theorem dX10_switched_32 : decode mX10_switched.2.1 32 = .ok (.istore_n 3, 1) := by decide +kernel
theorem dX10_switched_33 : decode mX10_switched.2.1 33 = .ok (.iconst 0, 1) := by decide +kernel
theorem dX10_switched_34 : decode mX10_switched.2.1 34 = .ok (.istore 4, 2) := by decide +kernel
theorem dX10_switched_36 : decode mX10_switched.2.1 36 = .ok (.iconst 0, 1) := by decide +kernel
theorem dX10_switched_37 : decode mX10_switched.2.1 37 = .ok (.istore 5, 2) := by decide +kernel
theorem dX10_switched_39 : decode mX10_switched.2.1 39 = .ok (.iload 5, 2) := by decide +kernel
theorem dX10_switched_41 : decode mX10_switched.2.1 41 = .ok (.aload_n 0, 1) := by decide +kernel
theorem dX10_switched_42 : decode mX10_switched.2.1 42 = .ok (.getfield 9, 3) := by decide +kernel
theorem dX10_switched_45 : decode mX10_switched.2.1 45 = .ok (.if_icmp .ge 61, 3) := by decide +kernel
theorem dX10_switched_48 : decode mX10_switched.2.1 48 = .ok (.iload_n 3, 1) := by decide +kernel
theorem dX10_switched_49 : decode mX10_switched.2.1 49 = .ok (.iload_n 2, 1) := by decide +kernel
theorem dX10_switched_50 : decode mX10_switched.2.1 50 = .ok (.iload 5, 2) := by decide +kernel
theorem dX10_switched_52 : decode mX10_switched.2.1 52 = .ok (.invokestatic 89, 3) := by decide +kernel
theorem dX10_switched_55 : decode mX10_switched.2.1 55 = .ok (.ifCond .eq 13, 3) := by decide +kernel
theorem dX10_switched_58 : decode mX10_switched.2.1 58 = .ok (.aload_n 0, 1) := by decide +kernel
theorem dX10_switched_59 : decode mX10_switched.2.1 59 = .ok (.getfield 55, 3) := by decide +kernel
theorem dX10_switched_62 : decode mX10_switched.2.1 62 = .ok (.iload 5, 2) := by decide +kernel
theorem dX10_switched_64 : decode mX10_switched.2.1 64 = .ok (.iaload, 1) := by decide +kernel
theorem dX10_switched_65 : decode mX10_switched.2.1 65 = .ok (.goto 4, 3) := by decide +kernel
theorem dX10_switched_68 : decode mX10_switched.2.1 68 = .ok (.iconst 0, 1) := by decide +kernel
theorem dX10_switched_69 : decode mX10_switched.2.1 69 = .ok (.iadd, 1) := by decide +kernel
theorem dX10_switched_70 : decode mX10_switched.2.1 70 = .ok (.istore_n 3, 1) := by decide +kernel
theorem dX10_switched_71 : decode mX10_switched.2.1 71 = .ok (.iload 4, 2) := by decide +kernel
theorem dX10_switched_73 : decode mX10_switched.2.1 73 = .ok (.iload_n 2, 1) := by decide +kernel
theorem dX10_switched_74 : decode mX10_switched.2.1 74 = .ok (.iload 5, 2) := by decide +kernel
theorem dX10_switched_76 : decode mX10_switched.2.1 76 = .ok (.invokestatic 89, 3) := by decide +kernel
theorem dX10_switched_79 : decode mX10_switched.2.1 79 = .ok (.ifCond .eq 17, 3) := by decide +kernel
theorem dX10_switched_82 : decode mX10_switched.2.1 82 = .ok (.aload_n 0, 1) := by decide +kernel
theorem dX10_switched_83 : decode mX10_switched.2.1 83 = .ok (.getfield 55, 3) := by decide +kernel
theorem dX10_switched_86 : decode mX10_switched.2.1 86 = .ok (.iload 5, 2) := by decide +kernel
theorem dX10_switched_88 : decode mX10_switched.2.1 88 = .ok (.iaload, 1) := by decide +kernel
theorem dX10_switched_89 : decode mX10_switched.2.1 89 = .ok (.ifCond .eq 7, 3) := by decide +kernel
theorem dX10_switched_92 : decode mX10_switched.2.1 92 = .ok (.iconst 1, 1) := by decide +kernel
theorem dX10_switched_93 : decode mX10_switched.2.1 93 = .ok (.goto 4, 3) := by decide +kernel
theorem dX10_switched_96 : decode mX10_switched.2.1 96 = .ok (.iconst 0, 1) := by decide +kernel
theorem dX10_switched_97 : decode mX10_switched.2.1 97 = .ok (.iadd, 1) := by decide +kernel
theorem dX10_switched_98 : decode mX10_switched.2.1 98 = .ok (.istore 4, 2) := by decide +kernel
theorem dX10_switched_100 : decode mX10_switched.2.1 100 = .ok (.iinc 5 1, 3) := by decide +kernel
theorem dX10_switched_103 : decode mX10_switched.2.1 103 = .ok (.goto (-64), 3) := by decide +kernel
theorem dX10_switched_106 : decode mX10_switched.2.1 106 = .ok (.iload_n 3, 1) := by decide +kernel
theorem dX10_switched_107 : decode mX10_switched.2.1 107 = .ok (.ifCond .eq 6, 3) := by decide +kernel
theorem dX10_switched_110 : decode mX10_switched.2.1 110 = .ok (.bipush (-5), 2) := by decide +kernel
theorem dX10_switched_112 : decode mX10_switched.2.1 112 = .ok (.ireturn, 1) := by decide +kernel
theorem dX10_switched_113 : decode mX10_switched.2.1 113 = .ok (.iconst 0, 1) := by decide +kernel
theorem dX10_switched_114 : decode mX10_switched.2.1 114 = .ok (.istore 5, 2) := by decide +kernel
theorem dX10_switched_116 : decode mX10_switched.2.1 116 = .ok (.iload 5, 2) := by decide +kernel
theorem dX10_switched_118 : decode mX10_switched.2.1 118 = .ok (.aload_n 0, 1) := by decide +kernel
theorem dX10_switched_119 : decode mX10_switched.2.1 119 = .ok (.getfield 9, 3) := by decide +kernel
theorem dX10_switched_122 : decode mX10_switched.2.1 122 = .ok (.if_icmp .ge 38, 3) := by decide +kernel
theorem dX10_switched_125 : decode mX10_switched.2.1 125 = .ok (.iload_n 2, 1) := by decide +kernel
theorem dX10_switched_126 : decode mX10_switched.2.1 126 = .ok (.iload 5, 2) := by decide +kernel
theorem dX10_switched_128 : decode mX10_switched.2.1 128 = .ok (.invokestatic 89, 3) := by decide +kernel
theorem dX10_switched_131 : decode mX10_switched.2.1 131 = .ok (.ifCond .eq 23, 3) := by decide +kernel
theorem dX10_switched_134 : decode mX10_switched.2.1 134 = .ok (.aload_n 0, 1) := by decide +kernel
theorem dX10_switched_135 : decode mX10_switched.2.1 135 = .ok (.getfield 40, 3) := by decide +kernel
theorem dX10_switched_138 : decode mX10_switched.2.1 138 = .ok (.bipush 20, 2) := by decide +kernel
theorem dX10_switched_140 : decode mX10_switched.2.1 140 = .ok (.iload_n 1, 1) := by decide +kernel
theorem dX10_switched_141 : decode mX10_switched.2.1 141 = .ok (.imul, 1) := by decide +kernel
theorem dX10_switched_142 : decode mX10_switched.2.1 142 = .ok (.iload 5, 2) := by decide +kernel
theorem dX10_switched_144 : decode mX10_switched.2.1 144 = .ok (.iadd, 1) := by decide +kernel
theorem dX10_switched_145 : decode mX10_switched.2.1 145 = .ok (.aload_n 0, 1) := by decide +kernel
theorem dX10_switched_146 : decode mX10_switched.2.1 146 = .ok (.getfield 55, 3) := by decide +kernel
theorem dX10_switched_149 : decode mX10_switched.2.1 149 = .ok (.iload 5, 2) := by decide +kernel
theorem dX10_switched_151 : decode mX10_switched.2.1 151 = .ok (.iaload, 1) := by decide +kernel
theorem dX10_switched_152 : decode mX10_switched.2.1 152 = .ok (.ineg, 1) := by decide +kernel
theorem dX10_switched_153 : decode mX10_switched.2.1 153 = .ok (.iastore, 1) := by decide +kernel
theorem dX10_switched_154 : decode mX10_switched.2.1 154 = .ok (.iinc 5 1, 3) := by decide +kernel
theorem dX10_switched_157 : decode mX10_switched.2.1 157 = .ok (.goto (-41), 3) := by decide +kernel
theorem dX10_switched_160 : decode mX10_switched.2.1 160 = .ok (.iload 4, 2) := by decide +kernel
theorem dX10_switched_162 : decode mX10_switched.2.1 162 = .ok (.ifCond .le 7, 3) := by decide +kernel
theorem dX10_switched_165 : decode mX10_switched.2.1 165 = .ok (.iconst 1, 1) := by decide +kernel
theorem dX10_switched_166 : decode mX10_switched.2.1 166 = .ok (.goto 4, 3) := by decide +kernel
theorem dX10_switched_169 : decode mX10_switched.2.1 169 = .ok (.iconst 0, 1) := by decide +kernel
theorem dX10_switched_170 : decode mX10_switched.2.1 170 = .ok (.ireturn, 1) := by decide +kernel
theorem dX10_leastLeft_0 : decode mX10_leastLeft.2.1 0 = .ok (.sipush 999, 3) := by decide +kernel
theorem dX10_leastLeft_3 : decode mX10_leastLeft.2.1 3 = .ok (.istore_n 2, 1) := by decide +kernel
theorem dX10_leastLeft_4 : decode mX10_leastLeft.2.1 4 = .ok (.iconst 0, 1) := by decide +kernel
theorem dX10_leastLeft_5 : decode mX10_leastLeft.2.1 5 = .ok (.istore_n 3, 1) := by decide +kernel
theorem dX10_leastLeft_6 : decode mX10_leastLeft.2.1 6 = .ok (.iload_n 3, 1) := by decide +kernel
theorem dX10_leastLeft_7 : decode mX10_leastLeft.2.1 7 = .ok (.aload_n 0, 1) := by decide +kernel
theorem dX10_leastLeft_8 : decode mX10_leastLeft.2.1 8 = .ok (.getfield 9, 3) := by decide +kernel
theorem dX10_leastLeft_11 : decode mX10_leastLeft.2.1 11 = .ok (.if_icmp .ge 56, 3) := by decide +kernel
theorem dX10_leastLeft_14 : decode mX10_leastLeft.2.1 14 = .ok (.iload_n 3, 1) := by decide +kernel
theorem dX10_leastLeft_15 : decode mX10_leastLeft.2.1 15 = .ok (.iconst 1, 1) := by decide +kernel
theorem dX10_leastLeft_16 : decode mX10_leastLeft.2.1 16 = .ok (.iadd, 1) := by decide +kernel
theorem dX10_leastLeft_17 : decode mX10_leastLeft.2.1 17 = .ok (.istore 4, 2) := by decide +kernel
theorem dX10_leastLeft_19 : decode mX10_leastLeft.2.1 19 = .ok (.iload 4, 2) := by decide +kernel
theorem dX10_leastLeft_21 : decode mX10_leastLeft.2.1 21 = .ok (.aload_n 0, 1) := by decide +kernel
theorem dX10_leastLeft_22 : decode mX10_leastLeft.2.1 22 = .ok (.getfield 9, 3) := by decide +kernel
theorem dX10_leastLeft_25 : decode mX10_leastLeft.2.1 25 = .ok (.if_icmp .ge 36, 3) := by decide +kernel
theorem dX10_leastLeft_28 : decode mX10_leastLeft.2.1 28 = .ok (.iload_n 1, 1) := by decide +kernel
theorem dX10_leastLeft_29 : decode mX10_leastLeft.2.1 29 = .ok (.iload_n 3, 1) := by decide +kernel
theorem dX10_leastLeft_30 : decode mX10_leastLeft.2.1 30 = .ok (.iload 4, 2) := by decide +kernel
theorem dX10_leastLeft_32 : decode mX10_leastLeft.2.1 32 = .ok (.invokestatic 129, 3) := by decide +kernel
theorem dX10_leastLeft_35 : decode mX10_leastLeft.2.1 35 = .ok (.ifCond .eq 20, 3) := by decide +kernel
theorem dX10_leastLeft_38 : decode mX10_leastLeft.2.1 38 = .ok (.iload_n 2, 1) := by decide +kernel
theorem dX10_leastLeft_39 : decode mX10_leastLeft.2.1 39 = .ok (.aload_n 0, 1) := by decide +kernel
theorem dX10_leastLeft_40 : decode mX10_leastLeft.2.1 40 = .ok (.getfield 62, 3) := by decide +kernel
theorem dX10_leastLeft_43 : decode mX10_leastLeft.2.1 43 = .ok (.bipush 6, 2) := by decide +kernel
theorem dX10_leastLeft_45 : decode mX10_leastLeft.2.1 45 = .ok (.iload_n 3, 1) := by decide +kernel
theorem dX10_leastLeft_46 : decode mX10_leastLeft.2.1 46 = .ok (.imul, 1) := by decide +kernel
theorem dX10_leastLeft_47 : decode mX10_leastLeft.2.1 47 = .ok (.iload 4, 2) := by decide +kernel
theorem dX10_leastLeft_49 : decode mX10_leastLeft.2.1 49 = .ok (.iadd, 1) := by decide +kernel
theorem dX10_leastLeft_50 : decode mX10_leastLeft.2.1 50 = .ok (.iaload, 1) := by decide +kernel
theorem dX10_leastLeft_51 : decode mX10_leastLeft.2.1 51 = .ok (.invokestatic 203, 3) := by decide +kernel
theorem dX10_leastLeft_54 : decode mX10_leastLeft.2.1 54 = .ok (.istore_n 2, 1) := by decide +kernel
theorem dX10_leastLeft_55 : decode mX10_leastLeft.2.1 55 = .ok (.iinc 4 1, 3) := by decide +kernel
theorem dX10_leastLeft_58 : decode mX10_leastLeft.2.1 58 = .ok (.goto (-39), 3) := by decide +kernel
theorem dX10_leastLeft_61 : decode mX10_leastLeft.2.1 61 = .ok (.iinc 3 1, 3) := by decide +kernel
theorem dX10_leastLeft_64 : decode mX10_leastLeft.2.1 64 = .ok (.goto (-58), 3) := by decide +kernel
theorem dX10_leastLeft_67 : decode mX10_leastLeft.2.1 67 = .ok (.iload_n 2, 1) := by decide +kernel
theorem dX10_leastLeft_68 : decode mX10_leastLeft.2.1 68 = .ok (.ireturn, 1) := by decide +kernel
theorem dX10_lessens_0 : decode mX10_lessens.2.1 0 = .ok (.iconst 0, 1) := by decide +kernel
theorem dX10_lessens_1 : decode mX10_lessens.2.1 1 = .ok (.istore_n 3, 1) := by decide +kernel
theorem dX10_lessens_2 : decode mX10_lessens.2.1 2 = .ok (.iload_n 3, 1) := by decide +kernel
theorem dX10_lessens_3 : decode mX10_lessens.2.1 3 = .ok (.aload_n 0, 1) := by decide +kernel
theorem dX10_lessens_4 : decode mX10_lessens.2.1 4 = .ok (.getfield 9, 3) := by decide +kernel
theorem dX10_lessens_7 : decode mX10_lessens.2.1 7 = .ok (.if_icmp .ge 59, 3) := by decide +kernel
theorem dX10_lessens_10 : decode mX10_lessens.2.1 10 = .ok (.iload_n 3, 1) := by decide +kernel
theorem dX10_lessens_11 : decode mX10_lessens.2.1 11 = .ok (.iconst 1, 1) := by decide +kernel
theorem dX10_lessens_12 : decode mX10_lessens.2.1 12 = .ok (.iadd, 1) := by decide +kernel
theorem dX10_lessens_13 : decode mX10_lessens.2.1 13 = .ok (.istore 4, 2) := by decide +kernel
theorem dX10_lessens_15 : decode mX10_lessens.2.1 15 = .ok (.iload 4, 2) := by decide +kernel
theorem dX10_lessens_17 : decode mX10_lessens.2.1 17 = .ok (.aload_n 0, 1) := by decide +kernel
theorem dX10_lessens_18 : decode mX10_lessens.2.1 18 = .ok (.getfield 9, 3) := by decide +kernel
theorem dX10_lessens_21 : decode mX10_lessens.2.1 21 = .ok (.if_icmp .ge 39, 3) := by decide +kernel
theorem dX10_lessens_24 : decode mX10_lessens.2.1 24 = .ok (.aload_n 0, 1) := by decide +kernel
theorem dX10_lessens_25 : decode mX10_lessens.2.1 25 = .ok (.getfield 62, 3) := by decide +kernel
theorem dX10_lessens_28 : decode mX10_lessens.2.1 28 = .ok (.bipush 6, 2) := by decide +kernel
theorem dX10_lessens_30 : decode mX10_lessens.2.1 30 = .ok (.iload_n 3, 1) := by decide +kernel
theorem dX10_lessens_31 : decode mX10_lessens.2.1 31 = .ok (.imul, 1) := by decide +kernel
theorem dX10_lessens_32 : decode mX10_lessens.2.1 32 = .ok (.iload 4, 2) := by decide +kernel
theorem dX10_lessens_34 : decode mX10_lessens.2.1 34 = .ok (.iadd, 1) := by decide +kernel
theorem dX10_lessens_35 : decode mX10_lessens.2.1 35 = .ok (.dup2, 1) := by decide +kernel
theorem dX10_lessens_36 : decode mX10_lessens.2.1 36 = .ok (.iaload, 1) := by decide +kernel
theorem dX10_lessens_37 : decode mX10_lessens.2.1 37 = .ok (.iload_n 1, 1) := by decide +kernel
theorem dX10_lessens_38 : decode mX10_lessens.2.1 38 = .ok (.iload_n 3, 1) := by decide +kernel
theorem dX10_lessens_39 : decode mX10_lessens.2.1 39 = .ok (.iload 4, 2) := by decide +kernel
theorem dX10_lessens_41 : decode mX10_lessens.2.1 41 = .ok (.invokestatic 129, 3) := by decide +kernel
theorem dX10_lessens_44 : decode mX10_lessens.2.1 44 = .ok (.ifCond .eq 7, 3) := by decide +kernel
theorem dX10_lessens_47 : decode mX10_lessens.2.1 47 = .ok (.iload_n 2, 1) := by decide +kernel
theorem dX10_lessens_48 : decode mX10_lessens.2.1 48 = .ok (.goto 4, 3) := by decide +kernel
theorem dX10_lessens_51 : decode mX10_lessens.2.1 51 = .ok (.iconst 0, 1) := by decide +kernel
theorem dX10_lessens_52 : decode mX10_lessens.2.1 52 = .ok (.isub, 1) := by decide +kernel
theorem dX10_lessens_53 : decode mX10_lessens.2.1 53 = .ok (.iastore, 1) := by decide +kernel
theorem dX10_lessens_54 : decode mX10_lessens.2.1 54 = .ok (.iinc 4 1, 3) := by decide +kernel
theorem dX10_lessens_57 : decode mX10_lessens.2.1 57 = .ok (.goto (-42), 3) := by decide +kernel
theorem dX10_lessens_60 : decode mX10_lessens.2.1 60 = .ok (.iinc 3 1, 3) := by decide +kernel
theorem dX10_lessens_63 : decode mX10_lessens.2.1 63 = .ok (.goto (-61), 3) := by decide +kernel
theorem dX10_lessens_66 : decode mX10_lessens.2.1 66 = .ok (.return_, 1) := by decide +kernel
theorem dX10_isNothing_0 : decode mX10_isNothing.2.1 0 = .ok (.iconst 0, 1) := by decide +kernel
theorem dX10_isNothing_1 : decode mX10_isNothing.2.1 1 = .ok (.istore_n 1, 1) := by decide +kernel
theorem dX10_isNothing_2 : decode mX10_isNothing.2.1 2 = .ok (.iload_n 1, 1) := by decide +kernel
theorem dX10_isNothing_3 : decode mX10_isNothing.2.1 3 = .ok (.aload_n 0, 1) := by decide +kernel
theorem dX10_isNothing_4 : decode mX10_isNothing.2.1 4 = .ok (.getfield 9, 3) := by decide +kernel
theorem dX10_isNothing_7 : decode mX10_isNothing.2.1 7 = .ok (.if_icmp .ge 43, 3) := by decide +kernel
theorem dX10_isNothing_10 : decode mX10_isNothing.2.1 10 = .ok (.iload_n 1, 1) := by decide +kernel
theorem dX10_isNothing_11 : decode mX10_isNothing.2.1 11 = .ok (.iconst 1, 1) := by decide +kernel
theorem dX10_isNothing_12 : decode mX10_isNothing.2.1 12 = .ok (.iadd, 1) := by decide +kernel
theorem dX10_isNothing_13 : decode mX10_isNothing.2.1 13 = .ok (.istore_n 2, 1) := by decide +kernel
theorem dX10_isNothing_14 : decode mX10_isNothing.2.1 14 = .ok (.iload_n 2, 1) := by decide +kernel
theorem dX10_isNothing_15 : decode mX10_isNothing.2.1 15 = .ok (.aload_n 0, 1) := by decide +kernel
theorem dX10_isNothing_16 : decode mX10_isNothing.2.1 16 = .ok (.getfield 9, 3) := by decide +kernel
theorem dX10_isNothing_19 : decode mX10_isNothing.2.1 19 = .ok (.if_icmp .ge 25, 3) := by decide +kernel
theorem dX10_isNothing_22 : decode mX10_isNothing.2.1 22 = .ok (.aload_n 0, 1) := by decide +kernel
theorem dX10_isNothing_23 : decode mX10_isNothing.2.1 23 = .ok (.getfield 62, 3) := by decide +kernel
theorem dX10_isNothing_26 : decode mX10_isNothing.2.1 26 = .ok (.bipush 6, 2) := by decide +kernel
theorem dX10_isNothing_28 : decode mX10_isNothing.2.1 28 = .ok (.iload_n 1, 1) := by decide +kernel
theorem dX10_isNothing_29 : decode mX10_isNothing.2.1 29 = .ok (.imul, 1) := by decide +kernel
theorem dX10_isNothing_30 : decode mX10_isNothing.2.1 30 = .ok (.iload_n 2, 1) := by decide +kernel
theorem dX10_isNothing_31 : decode mX10_isNothing.2.1 31 = .ok (.iadd, 1) := by decide +kernel
theorem dX10_isNothing_32 : decode mX10_isNothing.2.1 32 = .ok (.iaload, 1) := by decide +kernel
theorem dX10_isNothing_33 : decode mX10_isNothing.2.1 33 = .ok (.ifCond .eq 5, 3) := by decide +kernel
theorem dX10_isNothing_36 : decode mX10_isNothing.2.1 36 = .ok (.iconst 0, 1) := by decide +kernel
theorem dX10_isNothing_37 : decode mX10_isNothing.2.1 37 = .ok (.ireturn, 1) := by decide +kernel
theorem dX10_isNothing_38 : decode mX10_isNothing.2.1 38 = .ok (.iinc 2 1, 3) := by decide +kernel
theorem dX10_isNothing_41 : decode mX10_isNothing.2.1 41 = .ok (.goto (-27), 3) := by decide +kernel
theorem dX10_isNothing_44 : decode mX10_isNothing.2.1 44 = .ok (.iinc 1 1, 3) := by decide +kernel
theorem dX10_isNothing_47 : decode mX10_isNothing.2.1 47 = .ok (.goto (-45), 3) := by decide +kernel
theorem dX10_isNothing_50 : decode mX10_isNothing.2.1 50 = .ok (.iconst 1, 1) := by decide +kernel
theorem dX10_isNothing_51 : decode mX10_isNothing.2.1 51 = .ok (.ireturn, 1) := by decide +kernel
theorem dX10_seeks_0 : decode mX10_seeks.2.1 0 = .ok (.iload_n 1, 1) := by decide +kernel
theorem dX10_seeks_1 : decode mX10_seeks.2.1 1 = .ok (.aload_n 0, 1) := by decide +kernel
theorem dX10_seeks_2 : decode mX10_seeks.2.1 2 = .ok (.invokevirtual 85, 3) := by decide +kernel
theorem dX10_seeks_5 : decode mX10_seeks.2.1 5 = .ok (.if_icmp .le 8, 3) := by decide +kernel
theorem dX10_seeks_8 : decode mX10_seeks.2.1 8 = .ok (.aload_n 0, 1) := by decide +kernel
theorem dX10_seeks_9 : decode mX10_seeks.2.1 9 = .ok (.invokevirtual 206, 3) := by decide +kernel
theorem dX10_seeks_12 : decode mX10_seeks.2.1 12 = .ok (.ireturn, 1) := by decide +kernel
theorem dX10_seeks_13 : decode mX10_seeks.2.1 13 = .ok (.aload_n 0, 1) := by decide +kernel
theorem dX10_seeks_14 : decode mX10_seeks.2.1 14 = .ok (.iload_n 1, 1) := by decide +kernel
theorem dX10_seeks_15 : decode mX10_seeks.2.1 15 = .ok (.invokevirtual 210, 3) := by decide +kernel
theorem dX10_seeks_18 : decode mX10_seeks.2.1 18 = .ok (.istore_n 2, 1) := by decide +kernel
theorem dX10_seeks_19 : decode mX10_seeks.2.1 19 = .ok (.iload_n 2, 1) := by decide +kernel
theorem dX10_seeks_20 : decode mX10_seeks.2.1 20 = .ok (.ifCond .lt 78, 3) := by decide +kernel
theorem dX10_seeks_23 : decode mX10_seeks.2.1 23 = .ok (.aload_n 0, 1) := by decide +kernel
theorem dX10_seeks_24 : decode mX10_seeks.2.1 24 = .ok (.getfield 213, 3) := by decide +kernel
theorem dX10_seeks_27 : decode mX10_seeks.2.1 27 = .ok (.aload_n 0, 1) := by decide +kernel
theorem dX10_seeks_28 : decode mX10_seeks.2.1 28 = .ok (.getfield 216, 3) := by decide +kernel
theorem dX10_seeks_31 : decode mX10_seeks.2.1 31 = .ok (.if_icmp .ne 10, 3) := by decide +kernel
theorem dX10_seeks_34 : decode mX10_seeks.2.1 34 = .ok (.aload_n 0, 1) := by decide +kernel
theorem dX10_seeks_35 : decode mX10_seeks.2.1 35 = .ok (.iconst 1, 1) := by decide +kernel
theorem dX10_seeks_36 : decode mX10_seeks.2.1 36 = .ok (.putfield 219, 3) := by decide +kernel
theorem dX10_seeks_39 : decode mX10_seeks.2.1 39 = .ok (.iconst 0, 1) := by decide +kernel
theorem dX10_seeks_40 : decode mX10_seeks.2.1 40 = .ok (.ireturn, 1) := by decide +kernel
theorem dX10_seeks_41 : decode mX10_seeks.2.1 41 = .ok (.aload_n 0, 1) := by decide +kernel
theorem dX10_seeks_42 : decode mX10_seeks.2.1 42 = .ok (.dup, 1) := by decide +kernel
theorem dX10_seeks_43 : decode mX10_seeks.2.1 43 = .ok (.getfield 213, 3) := by decide +kernel
theorem dX10_seeks_46 : decode mX10_seeks.2.1 46 = .ok (.iconst 1, 1) := by decide +kernel
theorem dX10_seeks_47 : decode mX10_seeks.2.1 47 = .ok (.iadd, 1) := by decide +kernel
theorem dX10_seeks_48 : decode mX10_seeks.2.1 48 = .ok (.putfield 213, 3) := by decide +kernel
theorem dX10_seeks_51 : decode mX10_seeks.2.1 51 = .ok (.aload_n 0, 1) := by decide +kernel
theorem dX10_seeks_52 : decode mX10_seeks.2.1 52 = .ok (.getfield 65, 3) := by decide +kernel
theorem dX10_seeks_55 : decode mX10_seeks.2.1 55 = .ok (.iload_n 1, 1) := by decide +kernel
theorem dX10_seeks_56 : decode mX10_seeks.2.1 56 = .ok (.iload_n 2, 1) := by decide +kernel
theorem dX10_seeks_57 : decode mX10_seeks.2.1 57 = .ok (.iastore, 1) := by decide +kernel
theorem dX10_seeks_58 : decode mX10_seeks.2.1 58 = .ok (.aload_n 0, 1) := by decide +kernel
theorem dX10_seeks_59 : decode mX10_seeks.2.1 59 = .ok (.iload_n 1, 1) := by decide +kernel
theorem dX10_seeks_60 : decode mX10_seeks.2.1 60 = .ok (.iload_n 2, 1) := by decide +kernel
theorem dX10_seeks_61 : decode mX10_seeks.2.1 61 = .ok (.invokevirtual 223, 3) := by decide +kernel
theorem dX10_seeks_64 : decode mX10_seeks.2.1 64 = .ok (.aload_n 0, 1) := by decide +kernel
theorem dX10_seeks_65 : decode mX10_seeks.2.1 65 = .ok (.iload_n 1, 1) := by decide +kernel
theorem dX10_seeks_66 : decode mX10_seeks.2.1 66 = .ok (.iconst 1, 1) := by decide +kernel
theorem dX10_seeks_67 : decode mX10_seeks.2.1 67 = .ok (.iadd, 1) := by decide +kernel
theorem dX10_seeks_68 : decode mX10_seeks.2.1 68 = .ok (.invokevirtual 226, 3) := by decide +kernel
theorem dX10_seeks_71 : decode mX10_seeks.2.1 71 = .ok (.istore_n 3, 1) := by decide +kernel
theorem dX10_seeks_72 : decode mX10_seeks.2.1 72 = .ok (.aload_n 0, 1) := by decide +kernel
theorem dX10_seeks_73 : decode mX10_seeks.2.1 73 = .ok (.iload_n 1, 1) := by decide +kernel
theorem dX10_seeks_74 : decode mX10_seeks.2.1 74 = .ok (.iload_n 2, 1) := by decide +kernel
theorem dX10_seeks_75 : decode mX10_seeks.2.1 75 = .ok (.ineg, 1) := by decide +kernel
theorem dX10_seeks_76 : decode mX10_seeks.2.1 76 = .ok (.invokevirtual 223, 3) := by decide +kernel
theorem dX10_seeks_79 : decode mX10_seeks.2.1 79 = .ok (.iload_n 3, 1) := by decide +kernel
theorem dX10_seeks_80 : decode mX10_seeks.2.1 80 = .ok (.ifCond .ne 10, 3) := by decide +kernel
theorem dX10_seeks_83 : decode mX10_seeks.2.1 83 = .ok (.aload_n 0, 1) := by decide +kernel
theorem dX10_seeks_84 : decode mX10_seeks.2.1 84 = .ok (.getfield 219, 3) := by decide +kernel
theorem dX10_seeks_87 : decode mX10_seeks.2.1 87 = .ok (.ifCond .eq 5, 3) := by decide +kernel
theorem dX10_seeks_90 : decode mX10_seeks.2.1 90 = .ok (.iload_n 3, 1) := by decide +kernel
theorem dX10_seeks_91 : decode mX10_seeks.2.1 91 = .ok (.ireturn, 1) := by decide +kernel
theorem dX10_seeks_92 : decode mX10_seeks.2.1 92 = .ok (.iinc 2 (-1), 3) := by decide +kernel
theorem dX10_seeks_95 : decode mX10_seeks.2.1 95 = .ok (.goto (-76), 3) := by decide +kernel
theorem dX10_seeks_98 : decode mX10_seeks.2.1 98 = .ok (.iconst 0, 1) := by decide +kernel
theorem dX10_seeks_99 : decode mX10_seeks.2.1 99 = .ok (.ireturn, 1) := by decide +kernel
theorem dX10_sum_0 : decode mX10_sum.2.1 0 = .ok (.iload_n 1, 1) := by decide +kernel
theorem dX10_sum_1 : decode mX10_sum.2.1 1 = .ok (.i2l, 1) := by decide +kernel
theorem dX10_sum_2 : decode mX10_sum.2.1 2 = .ok (.lconst 1, 1) := by decide +kernel
theorem dX10_sum_3 : decode mX10_sum.2.1 3 = .ok (.ldc2_w 229, 3) := by decide +kernel
theorem dX10_sum_6 : decode mX10_sum.2.1 6 = .ok (.invokestatic 77, 3) := by decide +kernel
theorem dX10_sum_9 : decode mX10_sum.2.1 9 = .ok (.ifCond .eq 19, 3) := by decide +kernel
theorem dX10_sum_12 : decode mX10_sum.2.1 12 = .ok (.iload_n 2, 1) := by decide +kernel
theorem dX10_sum_13 : decode mX10_sum.2.1 13 = .ok (.i2l, 1) := by decide +kernel
theorem dX10_sum_14 : decode mX10_sum.2.1 14 = .ok (.ldc2_w 231, 3) := by decide +kernel
theorem dX10_sum_17 : decode mX10_sum.2.1 17 = .ok (.aload_n 0, 1) := by decide +kernel
theorem dX10_sum_18 : decode mX10_sum.2.1 18 = .ok (.invokevirtual 85, 3) := by decide +kernel
theorem dX10_sum_21 : decode mX10_sum.2.1 21 = .ok (.i2l, 1) := by decide +kernel
theorem dX10_sum_22 : decode mX10_sum.2.1 22 = .ok (.invokestatic 77, 3) := by decide +kernel
theorem dX10_sum_25 : decode mX10_sum.2.1 25 = .ok (.ifCond .ne 5, 3) := by decide +kernel
theorem dX10_sum_28 : decode mX10_sum.2.1 28 = .ok (.iconst (-1), 1) := by decide +kernel
theorem dX10_sum_29 : decode mX10_sum.2.1 29 = .ok (.ireturn, 1) := by decide +kernel
theorem dX10_sum_30 : decode mX10_sum.2.1 30 = .ok (.aload_n 0, 1) := by decide +kernel
theorem dX10_sum_31 : decode mX10_sum.2.1 31 = .ok (.getfield 15, 3) := by decide +kernel
theorem dX10_sum_34 : decode mX10_sum.2.1 34 = .ok (.aload_n 0, 1) := by decide +kernel
theorem dX10_sum_35 : decode mX10_sum.2.1 35 = .ok (.getfield 62, 3) := by decide +kernel
theorem dX10_sum_38 : decode mX10_sum.2.1 38 = .ok (.invokestatic 96, 3) := by decide +kernel
theorem dX10_sum_41 : decode mX10_sum.2.1 41 = .ok (.aload_n 0, 1) := by decide +kernel
theorem dX10_sum_42 : decode mX10_sum.2.1 42 = .ok (.iconst 0, 1) := by decide +kernel
theorem dX10_sum_43 : decode mX10_sum.2.1 43 = .ok (.putfield 213, 3) := by decide +kernel
theorem dX10_sum_46 : decode mX10_sum.2.1 46 = .ok (.aload_n 0, 1) := by decide +kernel
theorem dX10_sum_47 : decode mX10_sum.2.1 47 = .ok (.iload_n 1, 1) := by decide +kernel
theorem dX10_sum_48 : decode mX10_sum.2.1 48 = .ok (.putfield 216, 3) := by decide +kernel
theorem dX10_sum_51 : decode mX10_sum.2.1 51 = .ok (.aload_n 0, 1) := by decide +kernel
theorem dX10_sum_52 : decode mX10_sum.2.1 52 = .ok (.iconst 0, 1) := by decide +kernel
theorem dX10_sum_53 : decode mX10_sum.2.1 53 = .ok (.putfield 219, 3) := by decide +kernel
theorem dX10_sum_56 : decode mX10_sum.2.1 56 = .ok (.aload_n 0, 1) := by decide +kernel
theorem dX10_sum_57 : decode mX10_sum.2.1 57 = .ok (.iconst 1, 1) := by decide +kernel
theorem dX10_sum_58 : decode mX10_sum.2.1 58 = .ok (.invokevirtual 226, 3) := by decide +kernel
theorem dX10_sum_61 : decode mX10_sum.2.1 61 = .ok (.istore_n 3, 1) := by decide +kernel
theorem dX10_sum_62 : decode mX10_sum.2.1 62 = .ok (.aload_n 0, 1) := by decide +kernel
theorem dX10_sum_63 : decode mX10_sum.2.1 63 = .ok (.getfield 219, 3) := by decide +kernel
theorem dX10_sum_66 : decode mX10_sum.2.1 66 = .ok (.ifCond .eq 6, 3) := by decide +kernel
theorem dX10_sum_69 : decode mX10_sum.2.1 69 = .ok (.bipush (-7), 2) := by decide +kernel
theorem dX10_sum_71 : decode mX10_sum.2.1 71 = .ok (.ireturn, 1) := by decide +kernel
theorem dX10_sum_72 : decode mX10_sum.2.1 72 = .ok (.iload_n 3, 1) := by decide +kernel
theorem dX10_sum_73 : decode mX10_sum.2.1 73 = .ok (.ifCond .ne 6, 3) := by decide +kernel
theorem dX10_sum_76 : decode mX10_sum.2.1 76 = .ok (.bipush (-2), 2) := by decide +kernel
theorem dX10_sum_78 : decode mX10_sum.2.1 78 = .ok (.ireturn, 1) := by decide +kernel
theorem dX10_sum_79 : decode mX10_sum.2.1 79 = .ok (.iload_n 2, 1) := by decide +kernel
theorem dX10_sum_80 : decode mX10_sum.2.1 80 = .ok (.ifCond .eq 21, 3) := by decide +kernel
theorem dX10_sum_83 : decode mX10_sum.2.1 83 = .ok (.iload_n 2, 1) := by decide +kernel
theorem dX10_sum_84 : decode mX10_sum.2.1 84 = .ok (.ifCond .ge 10, 3) := by decide +kernel
theorem dX10_sum_87 : decode mX10_sum.2.1 87 = .ok (.aload_n 0, 1) := by decide +kernel
theorem dX10_sum_88 : decode mX10_sum.2.1 88 = .ok (.getfield 213, 3) := by decide +kernel
theorem dX10_sum_91 : decode mX10_sum.2.1 91 = .ok (.goto 9, 3) := by decide +kernel
theorem dX10_sum_94 : decode mX10_sum.2.1 94 = .ok (.aload_n 0, 1) := by decide +kernel
theorem dX10_sum_95 : decode mX10_sum.2.1 95 = .ok (.getfield 65, 3) := by decide +kernel
theorem dX10_sum_98 : decode mX10_sum.2.1 98 = .ok (.iload_n 2, 1) := by decide +kernel
theorem dX10_sum_99 : decode mX10_sum.2.1 99 = .ok (.iaload, 1) := by decide +kernel
theorem dX10_sum_100 : decode mX10_sum.2.1 100 = .ok (.ireturn, 1) := by decide +kernel
theorem dX10_sum_101 : decode mX10_sum.2.1 101 = .ok (.iconst 0, 1) := by decide +kernel
theorem dX10_sum_102 : decode mX10_sum.2.1 102 = .ok (.istore 4, 2) := by decide +kernel
theorem dX10_sum_104 : decode mX10_sum.2.1 104 = .ok (.iconst 1, 1) := by decide +kernel
theorem dX10_sum_105 : decode mX10_sum.2.1 105 = .ok (.istore 5, 2) := by decide +kernel
theorem dX10_sum_107 : decode mX10_sum.2.1 107 = .ok (.iload 5, 2) := by decide +kernel
theorem dX10_sum_109 : decode mX10_sum.2.1 109 = .ok (.aload_n 0, 1) := by decide +kernel
theorem dX10_sum_110 : decode mX10_sum.2.1 110 = .ok (.invokevirtual 85, 3) := by decide +kernel
theorem dX10_sum_113 : decode mX10_sum.2.1 113 = .ok (.if_icmp .gt 21, 3) := by decide +kernel
theorem dX10_sum_116 : decode mX10_sum.2.1 116 = .ok (.iload 4, 2) := by decide +kernel
theorem dX10_sum_118 : decode mX10_sum.2.1 118 = .ok (.aload_n 0, 1) := by decide +kernel
theorem dX10_sum_119 : decode mX10_sum.2.1 119 = .ok (.getfield 65, 3) := by decide +kernel
theorem dX10_sum_122 : decode mX10_sum.2.1 122 = .ok (.iload 5, 2) := by decide +kernel
theorem dX10_sum_124 : decode mX10_sum.2.1 124 = .ok (.iaload, 1) := by decide +kernel
theorem dX10_sum_125 : decode mX10_sum.2.1 125 = .ok (.iadd, 1) := by decide +kernel
theorem dX10_sum_126 : decode mX10_sum.2.1 126 = .ok (.istore 4, 2) := by decide +kernel
theorem dX10_sum_128 : decode mX10_sum.2.1 128 = .ok (.iinc 5 1, 3) := by decide +kernel
theorem dX10_sum_131 : decode mX10_sum.2.1 131 = .ok (.goto (-24), 3) := by decide +kernel
theorem dX10_sum_134 : decode mX10_sum.2.1 134 = .ok (.iload 4, 2) := by decide +kernel
theorem dX10_sum_136 : decode mX10_sum.2.1 136 = .ok (.ireturn, 1) := by decide +kernel
theorem dX10_gauge_0 : decode mX10_gauge.2.1 0 = .ok (.iload_n 1, 1) := by decide +kernel
theorem dX10_gauge_1 : decode mX10_gauge.2.1 1 = .ok (.i2l, 1) := by decide +kernel
theorem dX10_gauge_2 : decode mX10_gauge.2.1 2 = .ok (.lconst 0, 1) := by decide +kernel
theorem dX10_gauge_3 : decode mX10_gauge.2.1 3 = .ok (.ldc2_w 153, 3) := by decide +kernel
theorem dX10_gauge_6 : decode mX10_gauge.2.1 6 = .ok (.invokestatic 77, 3) := by decide +kernel
theorem dX10_gauge_9 : decode mX10_gauge.2.1 9 = .ok (.ifCond .eq 21, 3) := by decide +kernel
theorem dX10_gauge_12 : decode mX10_gauge.2.1 12 = .ok (.iload_n 2, 1) := by decide +kernel
theorem dX10_gauge_13 : decode mX10_gauge.2.1 13 = .ok (.i2l, 1) := by decide +kernel
theorem dX10_gauge_14 : decode mX10_gauge.2.1 14 = .ok (.lconst 0, 1) := by decide +kernel
theorem dX10_gauge_15 : decode mX10_gauge.2.1 15 = .ok (.iconst 1, 1) := by decide +kernel
theorem dX10_gauge_16 : decode mX10_gauge.2.1 16 = .ok (.aload_n 0, 1) := by decide +kernel
theorem dX10_gauge_17 : decode mX10_gauge.2.1 17 = .ok (.getfield 9, 3) := by decide +kernel
theorem dX10_gauge_20 : decode mX10_gauge.2.1 20 = .ok (.ishl, 1) := by decide +kernel
theorem dX10_gauge_21 : decode mX10_gauge.2.1 21 = .ok (.iconst 1, 1) := by decide +kernel
theorem dX10_gauge_22 : decode mX10_gauge.2.1 22 = .ok (.isub, 1) := by decide +kernel
theorem dX10_gauge_23 : decode mX10_gauge.2.1 23 = .ok (.i2l, 1) := by decide +kernel
theorem dX10_gauge_24 : decode mX10_gauge.2.1 24 = .ok (.invokestatic 77, 3) := by decide +kernel
theorem dX10_gauge_27 : decode mX10_gauge.2.1 27 = .ok (.ifCond .ne 7, 3) := by decide +kernel
theorem dX10_gauge_30 : decode mX10_gauge.2.1 30 = .ok (.ldc2_w 185, 3) := by decide +kernel
theorem dX10_gauge_33 : decode mX10_gauge.2.1 33 = .ok (.lreturn, 1) := by decide +kernel
theorem dX10_gauge_34 : decode mX10_gauge.2.1 34 = .ok (.lconst 0, 1) := by decide +kernel
theorem dX10_gauge_35 : decode mX10_gauge.2.1 35 = .ok (.lstore_n 3, 1) := by decide +kernel
theorem dX10_gauge_36 : decode mX10_gauge.2.1 36 = .ok (.lconst 0, 1) := by decide +kernel
theorem dX10_gauge_37 : decode mX10_gauge.2.1 37 = .ok (.lstore 5, 2) := by decide +kernel
theorem dX10_gauge_39 : decode mX10_gauge.2.1 39 = .ok (.lconst 0, 1) := by decide +kernel
theorem dX10_gauge_40 : decode mX10_gauge.2.1 40 = .ok (.lstore 7, 2) := by decide +kernel
theorem dX10_gauge_42 : decode mX10_gauge.2.1 42 = .ok (.iconst 0, 1) := by decide +kernel
theorem dX10_gauge_43 : decode mX10_gauge.2.1 43 = .ok (.istore 9, 2) := by decide +kernel
theorem dX10_gauge_45 : decode mX10_gauge.2.1 45 = .ok (.iload 9, 2) := by decide +kernel
theorem dX10_gauge_47 : decode mX10_gauge.2.1 47 = .ok (.aload_n 0, 1) := by decide +kernel
theorem dX10_gauge_48 : decode mX10_gauge.2.1 48 = .ok (.getfield 9, 3) := by decide +kernel
theorem dX10_gauge_51 : decode mX10_gauge.2.1 51 = .ok (.if_icmp .ge 133, 3) := by decide +kernel
theorem dX10_gauge_54 : decode mX10_gauge.2.1 54 = .ok (.iload 9, 2) := by decide +kernel
theorem dX10_gauge_56 : decode mX10_gauge.2.1 56 = .ok (.iconst 1, 1) := by decide +kernel
theorem dX10_gauge_57 : decode mX10_gauge.2.1 57 = .ok (.iadd, 1) := by decide +kernel
theorem dX10_gauge_58 : decode mX10_gauge.2.1 58 = .ok (.istore 10, 2) := by decide +kernel
theorem dX10_gauge_60 : decode mX10_gauge.2.1 60 = .ok (.iload 10, 2) := by decide +kernel
theorem dX10_gauge_62 : decode mX10_gauge.2.1 62 = .ok (.aload_n 0, 1) := by decide +kernel
theorem dX10_gauge_63 : decode mX10_gauge.2.1 63 = .ok (.getfield 9, 3) := by decide +kernel
theorem dX10_gauge_66 : decode mX10_gauge.2.1 66 = .ok (.if_icmp .ge 112, 3) := by decide +kernel
theorem dX10_gauge_69 : decode mX10_gauge.2.1 69 = .ok (.iload_n 2, 1) := by decide +kernel
theorem dX10_gauge_70 : decode mX10_gauge.2.1 70 = .ok (.iload 9, 2) := by decide +kernel
theorem dX10_gauge_72 : decode mX10_gauge.2.1 72 = .ok (.ishr, 1) := by decide +kernel
theorem dX10_gauge_73 : decode mX10_gauge.2.1 73 = .ok (.iconst 1, 1) := by decide +kernel
theorem dX10_gauge_74 : decode mX10_gauge.2.1 74 = .ok (.iand, 1) := by decide +kernel
theorem dX10_gauge_75 : decode mX10_gauge.2.1 75 = .ok (.iload_n 2, 1) := by decide +kernel
theorem dX10_gauge_76 : decode mX10_gauge.2.1 76 = .ok (.iload 10, 2) := by decide +kernel
theorem dX10_gauge_78 : decode mX10_gauge.2.1 78 = .ok (.ishr, 1) := by decide +kernel
theorem dX10_gauge_79 : decode mX10_gauge.2.1 79 = .ok (.iconst 1, 1) := by decide +kernel
theorem dX10_gauge_80 : decode mX10_gauge.2.1 80 = .ok (.iand, 1) := by decide +kernel
theorem dX10_gauge_81 : decode mX10_gauge.2.1 81 = .ok (.iadd, 1) := by decide +kernel
theorem dX10_gauge_82 : decode mX10_gauge.2.1 82 = .ok (.istore 11, 2) := by decide +kernel
theorem dX10_gauge_84 : decode mX10_gauge.2.1 84 = .ok (.lload_n 3, 1) := by decide +kernel
theorem dX10_gauge_85 : decode mX10_gauge.2.1 85 = .ok (.iload 11, 2) := by decide +kernel
theorem dX10_gauge_87 : decode mX10_gauge.2.1 87 = .ok (.iconst 2, 1) := by decide +kernel
theorem dX10_gauge_88 : decode mX10_gauge.2.1 88 = .ok (.if_icmp .ne 20, 3) := by decide +kernel
theorem dX10_gauge_91 : decode mX10_gauge.2.1 91 = .ok (.aload_n 0, 1) := by decide +kernel
theorem dX10_gauge_92 : decode mX10_gauge.2.1 92 = .ok (.getfield 15, 3) := by decide +kernel
theorem dX10_gauge_95 : decode mX10_gauge.2.1 95 = .ok (.bipush 6, 2) := by decide +kernel
theorem dX10_gauge_97 : decode mX10_gauge.2.1 97 = .ok (.iload 9, 2) := by decide +kernel
theorem dX10_gauge_99 : decode mX10_gauge.2.1 99 = .ok (.imul, 1) := by decide +kernel
theorem dX10_gauge_100 : decode mX10_gauge.2.1 100 = .ok (.iload 10, 2) := by decide +kernel
theorem dX10_gauge_102 : decode mX10_gauge.2.1 102 = .ok (.iadd, 1) := by decide +kernel
theorem dX10_gauge_103 : decode mX10_gauge.2.1 103 = .ok (.iaload, 1) := by decide +kernel
theorem dX10_gauge_104 : decode mX10_gauge.2.1 104 = .ok (.i2l, 1) := by decide +kernel
theorem dX10_gauge_105 : decode mX10_gauge.2.1 105 = .ok (.goto 4, 3) := by decide +kernel
theorem dX10_gauge_108 : decode mX10_gauge.2.1 108 = .ok (.lconst 0, 1) := by decide +kernel
theorem dX10_gauge_109 : decode mX10_gauge.2.1 109 = .ok (.ladd, 1) := by decide +kernel
theorem dX10_gauge_110 : decode mX10_gauge.2.1 110 = .ok (.lstore_n 3, 1) := by decide +kernel
theorem dX10_gauge_111 : decode mX10_gauge.2.1 111 = .ok (.lload 5, 2) := by decide +kernel
theorem dX10_gauge_113 : decode mX10_gauge.2.1 113 = .ok (.iload 11, 2) := by decide +kernel
theorem dX10_gauge_115 : decode mX10_gauge.2.1 115 = .ok (.iconst 1, 1) := by decide +kernel
theorem dX10_gauge_116 : decode mX10_gauge.2.1 116 = .ok (.if_icmp .ne 20, 3) := by decide +kernel
theorem dX10_gauge_119 : decode mX10_gauge.2.1 119 = .ok (.aload_n 0, 1) := by decide +kernel
theorem dX10_gauge_120 : decode mX10_gauge.2.1 120 = .ok (.getfield 15, 3) := by decide +kernel
theorem dX10_gauge_123 : decode mX10_gauge.2.1 123 = .ok (.bipush 6, 2) := by decide +kernel
theorem dX10_gauge_125 : decode mX10_gauge.2.1 125 = .ok (.iload 9, 2) := by decide +kernel
theorem dX10_gauge_127 : decode mX10_gauge.2.1 127 = .ok (.imul, 1) := by decide +kernel
theorem dX10_gauge_128 : decode mX10_gauge.2.1 128 = .ok (.iload 10, 2) := by decide +kernel
theorem dX10_gauge_130 : decode mX10_gauge.2.1 130 = .ok (.iadd, 1) := by decide +kernel
theorem dX10_gauge_131 : decode mX10_gauge.2.1 131 = .ok (.iaload, 1) := by decide +kernel
theorem dX10_gauge_132 : decode mX10_gauge.2.1 132 = .ok (.i2l, 1) := by decide +kernel
theorem dX10_gauge_133 : decode mX10_gauge.2.1 133 = .ok (.goto 4, 3) := by decide +kernel
theorem dX10_gauge_136 : decode mX10_gauge.2.1 136 = .ok (.lconst 0, 1) := by decide +kernel
theorem dX10_gauge_137 : decode mX10_gauge.2.1 137 = .ok (.ladd, 1) := by decide +kernel
theorem dX10_gauge_138 : decode mX10_gauge.2.1 138 = .ok (.lstore 5, 2) := by decide +kernel
theorem dX10_gauge_140 : decode mX10_gauge.2.1 140 = .ok (.iload 11, 2) := by decide +kernel
theorem dX10_gauge_142 : decode mX10_gauge.2.1 142 = .ok (.iconst 2, 1) := by decide +kernel
theorem dX10_gauge_143 : decode mX10_gauge.2.1 143 = .ok (.if_icmp .ne 25, 3) := by decide +kernel
theorem dX10_gauge_146 : decode mX10_gauge.2.1 146 = .ok (.lload 7, 2) := by decide +kernel
theorem dX10_gauge_148 : decode mX10_gauge.2.1 148 = .ok (.aload_n 0, 1) := by decide +kernel
theorem dX10_gauge_149 : decode mX10_gauge.2.1 149 = .ok (.getfield 15, 3) := by decide +kernel
theorem dX10_gauge_152 : decode mX10_gauge.2.1 152 = .ok (.bipush 6, 2) := by decide +kernel
theorem dX10_gauge_154 : decode mX10_gauge.2.1 154 = .ok (.iload 9, 2) := by decide +kernel
theorem dX10_gauge_156 : decode mX10_gauge.2.1 156 = .ok (.imul, 1) := by decide +kernel
theorem dX10_gauge_157 : decode mX10_gauge.2.1 157 = .ok (.iload 10, 2) := by decide +kernel
theorem dX10_gauge_159 : decode mX10_gauge.2.1 159 = .ok (.iadd, 1) := by decide +kernel
theorem dX10_gauge_160 : decode mX10_gauge.2.1 160 = .ok (.iaload, 1) := by decide +kernel
theorem dX10_gauge_161 : decode mX10_gauge.2.1 161 = .ok (.i2l, 1) := by decide +kernel
theorem dX10_gauge_162 : decode mX10_gauge.2.1 162 = .ok (.invokestatic 233, 3) := by decide +kernel
theorem dX10_gauge_165 : decode mX10_gauge.2.1 165 = .ok (.goto 5, 3) := by decide +kernel
theorem dX10_gauge_168 : decode mX10_gauge.2.1 168 = .ok (.lload 7, 2) := by decide +kernel
theorem dX10_gauge_170 : decode mX10_gauge.2.1 170 = .ok (.lstore 7, 2) := by decide +kernel
theorem dX10_gauge_172 : decode mX10_gauge.2.1 172 = .ok (.iinc 10 1, 3) := by decide +kernel
theorem dX10_gauge_175 : decode mX10_gauge.2.1 175 = .ok (.goto (-115), 3) := by decide +kernel
theorem dX10_gauge_178 : decode mX10_gauge.2.1 178 = .ok (.iinc 9 1, 3) := by decide +kernel
theorem dX10_gauge_181 : decode mX10_gauge.2.1 181 = .ok (.goto (-136), 3) := by decide +kernel
theorem dX10_gauge_184 : decode mX10_gauge.2.1 184 = .ok (.iload_n 1, 1) := by decide +kernel
theorem dX10_gauge_185 : decode mX10_gauge.2.1 185 = .ok (.tableswitch 51 0 3 #[31, 33, 39, 48], 31) := by decide +kernel
theorem dX10_gauge_216 : decode mX10_gauge.2.1 216 = .ok (.lload_n 3, 1) := by decide +kernel
theorem dX10_gauge_217 : decode mX10_gauge.2.1 217 = .ok (.lreturn, 1) := by decide +kernel
theorem dX10_gauge_218 : decode mX10_gauge.2.1 218 = .ok (.ldc2_w 103, 3) := by decide +kernel
theorem dX10_gauge_221 : decode mX10_gauge.2.1 221 = .ok (.lload_n 3, 1) := by decide +kernel
theorem dX10_gauge_222 : decode mX10_gauge.2.1 222 = .ok (.lmul, 1) := by decide +kernel
theorem dX10_gauge_223 : decode mX10_gauge.2.1 223 = .ok (.lreturn, 1) := by decide +kernel
theorem dX10_gauge_224 : decode mX10_gauge.2.1 224 = .ok (.lload 5, 2) := by decide +kernel
theorem dX10_gauge_226 : decode mX10_gauge.2.1 226 = .ok (.ldc2_w 103, 3) := by decide +kernel
theorem dX10_gauge_229 : decode mX10_gauge.2.1 229 = .ok (.lload_n 3, 1) := by decide +kernel
theorem dX10_gauge_230 : decode mX10_gauge.2.1 230 = .ok (.lmul, 1) := by decide +kernel
theorem dX10_gauge_231 : decode mX10_gauge.2.1 231 = .ok (.lsub, 1) := by decide +kernel
theorem dX10_gauge_232 : decode mX10_gauge.2.1 232 = .ok (.lreturn, 1) := by decide +kernel
theorem dX10_gauge_233 : decode mX10_gauge.2.1 233 = .ok (.lload 7, 2) := by decide +kernel
theorem dX10_gauge_235 : decode mX10_gauge.2.1 235 = .ok (.lreturn, 1) := by decide +kernel
theorem dX10_gauge_236 : decode mX10_gauge.2.1 236 = .ok (.lload_n 3, 1) := by decide +kernel
theorem dX10_gauge_237 : decode mX10_gauge.2.1 237 = .ok (.lload 7, 2) := by decide +kernel
theorem dX10_gauge_239 : decode mX10_gauge.2.1 239 = .ok (.lsub, 1) := by decide +kernel
theorem dX10_gauge_240 : decode mX10_gauge.2.1 240 = .ok (.lreturn, 1) := by decide +kernel
theorem dX10_feed_0 : decode mX10_feed.2.1 0 = .ok (.iload_n 2, 1) := by decide +kernel
theorem dX10_feed_1 : decode mX10_feed.2.1 1 = .ok (.i2l, 1) := by decide +kernel
theorem dX10_feed_2 : decode mX10_feed.2.1 2 = .ok (.lconst 1, 1) := by decide +kernel
theorem dX10_feed_3 : decode mX10_feed.2.1 3 = .ok (.ldc2_w 153, 3) := by decide +kernel
theorem dX10_feed_6 : decode mX10_feed.2.1 6 = .ok (.invokestatic 77, 3) := by decide +kernel
theorem dX10_feed_9 : decode mX10_feed.2.1 9 = .ok (.ifCond .ne 5, 3) := by decide +kernel
theorem dX10_feed_12 : decode mX10_feed.2.1 12 = .ok (.iconst (-1), 1) := by decide +kernel
theorem dX10_feed_13 : decode mX10_feed.2.1 13 = .ok (.ireturn, 1) := by decide +kernel
theorem dX10_feed_14 : decode mX10_feed.2.1 14 = .ok (.aload_n 0, 1) := by decide +kernel
theorem dX10_feed_15 : decode mX10_feed.2.1 15 = .ok (.getfield 74, 3) := by decide +kernel
theorem dX10_feed_18 : decode mX10_feed.2.1 18 = .ok (.iload_n 2, 1) := by decide +kernel
theorem dX10_feed_19 : decode mX10_feed.2.1 19 = .ok (.iadd, 1) := by decide +kernel
theorem dX10_feed_20 : decode mX10_feed.2.1 20 = .ok (.bipush 80, 2) := by decide +kernel
theorem dX10_feed_22 : decode mX10_feed.2.1 22 = .ok (.if_icmp .le 6, 3) := by decide +kernel
theorem dX10_feed_25 : decode mX10_feed.2.1 25 = .ok (.bipush (-3), 2) := by decide +kernel
theorem dX10_feed_27 : decode mX10_feed.2.1 27 = .ok (.ireturn, 1) := by decide +kernel
theorem dX10_feed_28 : decode mX10_feed.2.1 28 = .ok (.iload_n 2, 1) := by decide +kernel
theorem dX10_feed_29 : decode mX10_feed.2.1 29 = .ok (.iconst 1, 1) := by decide +kernel
theorem dX10_feed_30 : decode mX10_feed.2.1 30 = .ok (.isub, 1) := by decide +kernel
theorem dX10_feed_31 : decode mX10_feed.2.1 31 = .ok (.istore_n 3, 1) := by decide +kernel
theorem dX10_feed_32 : decode mX10_feed.2.1 32 = .ok (.iload_n 3, 1) := by decide +kernel
theorem dX10_feed_33 : decode mX10_feed.2.1 33 = .ok (.ifCond .lt 38, 3) := by decide +kernel
theorem dX10_feed_36 : decode mX10_feed.2.1 36 = .ok (.aload_n 0, 1) := by decide +kernel
theorem dX10_feed_37 : decode mX10_feed.2.1 37 = .ok (.getfield 31, 3) := by decide +kernel
theorem dX10_feed_40 : decode mX10_feed.2.1 40 = .ok (.aload_n 0, 1) := by decide +kernel
theorem dX10_feed_41 : decode mX10_feed.2.1 41 = .ok (.getfield 74, 3) := by decide +kernel
theorem dX10_feed_44 : decode mX10_feed.2.1 44 = .ok (.iload_n 1, 1) := by decide +kernel
theorem dX10_feed_45 : decode mX10_feed.2.1 45 = .ok (.bipush 8, 2) := by decide +kernel
theorem dX10_feed_47 : decode mX10_feed.2.1 47 = .ok (.iload_n 3, 1) := by decide +kernel
theorem dX10_feed_48 : decode mX10_feed.2.1 48 = .ok (.imul, 1) := by decide +kernel
theorem dX10_feed_49 : decode mX10_feed.2.1 49 = .ok (.ishr, 1) := by decide +kernel
theorem dX10_feed_50 : decode mX10_feed.2.1 50 = .ok (.sipush 255, 3) := by decide +kernel
theorem dX10_feed_53 : decode mX10_feed.2.1 53 = .ok (.iand, 1) := by decide +kernel
theorem dX10_feed_54 : decode mX10_feed.2.1 54 = .ok (.iastore, 1) := by decide +kernel
theorem dX10_feed_55 : decode mX10_feed.2.1 55 = .ok (.aload_n 0, 1) := by decide +kernel
theorem dX10_feed_56 : decode mX10_feed.2.1 56 = .ok (.dup, 1) := by decide +kernel
theorem dX10_feed_57 : decode mX10_feed.2.1 57 = .ok (.getfield 74, 3) := by decide +kernel
theorem dX10_feed_60 : decode mX10_feed.2.1 60 = .ok (.iconst 1, 1) := by decide +kernel
theorem dX10_feed_61 : decode mX10_feed.2.1 61 = .ok (.iadd, 1) := by decide +kernel
theorem dX10_feed_62 : decode mX10_feed.2.1 62 = .ok (.putfield 74, 3) := by decide +kernel
theorem dX10_feed_65 : decode mX10_feed.2.1 65 = .ok (.iinc 3 (-1), 3) := by decide +kernel
theorem dX10_feed_68 : decode mX10_feed.2.1 68 = .ok (.goto (-36), 3) := by decide +kernel
theorem dX10_feed_71 : decode mX10_feed.2.1 71 = .ok (.aload_n 0, 1) := by decide +kernel
theorem dX10_feed_72 : decode mX10_feed.2.1 72 = .ok (.getfield 74, 3) := by decide +kernel
theorem dX10_feed_75 : decode mX10_feed.2.1 75 = .ok (.ireturn, 1) := by decide +kernel
theorem dX10_wipe_0 : decode mX10_wipe.2.1 0 = .ok (.aload_n 0, 1) := by decide +kernel
theorem dX10_wipe_1 : decode mX10_wipe.2.1 1 = .ok (.getfield 74, 3) := by decide +kernel
theorem dX10_wipe_4 : decode mX10_wipe.2.1 4 = .ok (.istore_n 1, 1) := by decide +kernel
theorem dX10_wipe_5 : decode mX10_wipe.2.1 5 = .ok (.aload_n 0, 1) := by decide +kernel
theorem dX10_wipe_6 : decode mX10_wipe.2.1 6 = .ok (.iconst 0, 1) := by decide +kernel
theorem dX10_wipe_7 : decode mX10_wipe.2.1 7 = .ok (.putfield 74, 3) := by decide +kernel
theorem dX10_wipe_10 : decode mX10_wipe.2.1 10 = .ok (.iload_n 1, 1) := by decide +kernel
theorem dX10_wipe_11 : decode mX10_wipe.2.1 11 = .ok (.ireturn, 1) := by decide +kernel
theorem dX10_here_0 : decode mX10_here.2.1 0 = .ok (.aload_n 0, 1) := by decide +kernel
theorem dX10_here_1 : decode mX10_here.2.1 1 = .ok (.getfield 236, 3) := by decide +kernel
theorem dX10_here_4 : decode mX10_here.2.1 4 = .ok (.aload_n 0, 1) := by decide +kernel
theorem dX10_here_5 : decode mX10_here.2.1 5 = .ok (.getfield 239, 3) := by decide +kernel
theorem dX10_here_8 : decode mX10_here.2.1 8 = .ok (.if_icmp .ge 15, 3) := by decide +kernel
theorem dX10_here_11 : decode mX10_here.2.1 11 = .ok (.aload_n 0, 1) := by decide +kernel
theorem dX10_here_12 : decode mX10_here.2.1 12 = .ok (.getfield 31, 3) := by decide +kernel
theorem dX10_here_15 : decode mX10_here.2.1 15 = .ok (.aload_n 0, 1) := by decide +kernel
theorem dX10_here_16 : decode mX10_here.2.1 16 = .ok (.getfield 236, 3) := by decide +kernel
theorem dX10_here_19 : decode mX10_here.2.1 19 = .ok (.iaload, 1) := by decide +kernel
theorem dX10_here_20 : decode mX10_here.2.1 20 = .ok (.goto 4, 3) := by decide +kernel
theorem dX10_here_23 : decode mX10_here.2.1 23 = .ok (.iconst (-1), 1) := by decide +kernel
theorem dX10_here_24 : decode mX10_here.2.1 24 = .ok (.ireturn, 1) := by decide +kernel
theorem dX10_must_0 : decode mX10_must.2.1 0 = .ok (.aload_n 0, 1) := by decide +kernel
theorem dX10_must_1 : decode mX10_must.2.1 1 = .ok (.aload_n 0, 1) := by decide +kernel
theorem dX10_must_2 : decode mX10_must.2.1 2 = .ok (.getfield 242, 3) := by decide +kernel
theorem dX10_must_5 : decode mX10_must.2.1 5 = .ok (.ifCond .ne 11, 3) := by decide +kernel
theorem dX10_must_8 : decode mX10_must.2.1 8 = .ok (.aload_n 0, 1) := by decide +kernel
theorem dX10_must_9 : decode mX10_must.2.1 9 = .ok (.invokevirtual 245, 3) := by decide +kernel
theorem dX10_must_12 : decode mX10_must.2.1 12 = .ok (.iload_n 1, 1) := by decide +kernel
theorem dX10_must_13 : decode mX10_must.2.1 13 = .ok (.if_icmp .eq 7, 3) := by decide +kernel
theorem dX10_must_16 : decode mX10_must.2.1 16 = .ok (.iconst 1, 1) := by decide +kernel
theorem dX10_must_17 : decode mX10_must.2.1 17 = .ok (.goto 4, 3) := by decide +kernel
theorem dX10_must_20 : decode mX10_must.2.1 20 = .ok (.iconst 0, 1) := by decide +kernel
theorem dX10_must_21 : decode mX10_must.2.1 21 = .ok (.putfield 242, 3) := by decide +kernel
theorem dX10_must_24 : decode mX10_must.2.1 24 = .ok (.aload_n 0, 1) := by decide +kernel
theorem dX10_must_25 : decode mX10_must.2.1 25 = .ok (.dup, 1) := by decide +kernel
theorem dX10_must_26 : decode mX10_must.2.1 26 = .ok (.getfield 236, 3) := by decide +kernel
theorem dX10_must_29 : decode mX10_must.2.1 29 = .ok (.aload_n 0, 1) := by decide +kernel
theorem dX10_must_30 : decode mX10_must.2.1 30 = .ok (.getfield 242, 3) := by decide +kernel
theorem dX10_must_33 : decode mX10_must.2.1 33 = .ok (.ifCond .eq 7, 3) := by decide +kernel
theorem dX10_must_36 : decode mX10_must.2.1 36 = .ok (.iconst 0, 1) := by decide +kernel
theorem dX10_must_37 : decode mX10_must.2.1 37 = .ok (.goto 4, 3) := by decide +kernel
theorem dX10_must_40 : decode mX10_must.2.1 40 = .ok (.iconst 1, 1) := by decide +kernel
theorem dX10_must_41 : decode mX10_must.2.1 41 = .ok (.iadd, 1) := by decide +kernel
theorem dX10_must_42 : decode mX10_must.2.1 42 = .ok (.putfield 236, 3) := by decide +kernel
theorem dX10_must_45 : decode mX10_must.2.1 45 = .ok (.return_, 1) := by decide +kernel
theorem dX10_figures_0 : decode mX10_figures.2.1 0 = .ok (.aload_n 0, 1) := by decide +kernel
theorem dX10_figures_1 : decode mX10_figures.2.1 1 = .ok (.aload_n 0, 1) := by decide +kernel
theorem dX10_figures_2 : decode mX10_figures.2.1 2 = .ok (.getfield 242, 3) := by decide +kernel
theorem dX10_figures_5 : decode mX10_figures.2.1 5 = .ok (.ifCond .ne 20, 3) := by decide +kernel
theorem dX10_figures_8 : decode mX10_figures.2.1 8 = .ok (.aload_n 0, 1) := by decide +kernel
theorem dX10_figures_9 : decode mX10_figures.2.1 9 = .ok (.invokevirtual 245, 3) := by decide +kernel
theorem dX10_figures_12 : decode mX10_figures.2.1 12 = .ok (.i2l, 1) := by decide +kernel
theorem dX10_figures_13 : decode mX10_figures.2.1 13 = .ok (.ldc2_w 248, 3) := by decide +kernel
theorem dX10_figures_16 : decode mX10_figures.2.1 16 = .ok (.ldc2_w 250, 3) := by decide +kernel
theorem dX10_figures_19 : decode mX10_figures.2.1 19 = .ok (.invokestatic 77, 3) := by decide +kernel
theorem dX10_figures_22 : decode mX10_figures.2.1 22 = .ok (.ifCond .ne 7, 3) := by decide +kernel
theorem dX10_figures_25 : decode mX10_figures.2.1 25 = .ok (.iconst 1, 1) := by decide +kernel
theorem dX10_figures_26 : decode mX10_figures.2.1 26 = .ok (.goto 4, 3) := by decide +kernel
theorem dX10_figures_29 : decode mX10_figures.2.1 29 = .ok (.iconst 0, 1) := by decide +kernel
theorem dX10_figures_30 : decode mX10_figures.2.1 30 = .ok (.putfield 242, 3) := by decide +kernel
theorem dX10_figures_33 : decode mX10_figures.2.1 33 = .ok (.iconst 0, 1) := by decide +kernel
theorem dX10_figures_34 : decode mX10_figures.2.1 34 = .ok (.istore_n 1, 1) := by decide +kernel
theorem dX10_figures_35 : decode mX10_figures.2.1 35 = .ok (.iconst 0, 1) := by decide +kernel
theorem dX10_figures_36 : decode mX10_figures.2.1 36 = .ok (.istore_n 2, 1) := by decide +kernel
theorem dX10_figures_37 : decode mX10_figures.2.1 37 = .ok (.iload_n 2, 1) := by decide +kernel
theorem dX10_figures_38 : decode mX10_figures.2.1 38 = .ok (.iconst 3, 1) := by decide +kernel
theorem dX10_figures_39 : decode mX10_figures.2.1 39 = .ok (.if_icmp .ge 56, 3) := by decide +kernel
theorem dX10_figures_42 : decode mX10_figures.2.1 42 = .ok (.aload_n 0, 1) := by decide +kernel
theorem dX10_figures_43 : decode mX10_figures.2.1 43 = .ok (.getfield 242, 3) := by decide +kernel
theorem dX10_figures_46 : decode mX10_figures.2.1 46 = .ok (.ifCond .ne 49, 3) := by decide +kernel
theorem dX10_figures_49 : decode mX10_figures.2.1 49 = .ok (.aload_n 0, 1) := by decide +kernel
theorem dX10_figures_50 : decode mX10_figures.2.1 50 = .ok (.invokevirtual 245, 3) := by decide +kernel
theorem dX10_figures_53 : decode mX10_figures.2.1 53 = .ok (.i2l, 1) := by decide +kernel
theorem dX10_figures_54 : decode mX10_figures.2.1 54 = .ok (.ldc2_w 248, 3) := by decide +kernel
theorem dX10_figures_57 : decode mX10_figures.2.1 57 = .ok (.ldc2_w 250, 3) := by decide +kernel
theorem dX10_figures_60 : decode mX10_figures.2.1 60 = .ok (.invokestatic 77, 3) := by decide +kernel
theorem dX10_figures_63 : decode mX10_figures.2.1 63 = .ok (.ifCond .eq 32, 3) := by decide +kernel
theorem dX10_figures_66 : decode mX10_figures.2.1 66 = .ok (.bipush 10, 2) := by decide +kernel
theorem dX10_figures_68 : decode mX10_figures.2.1 68 = .ok (.iload_n 1, 1) := by decide +kernel
theorem dX10_figures_69 : decode mX10_figures.2.1 69 = .ok (.imul, 1) := by decide +kernel
theorem dX10_figures_70 : decode mX10_figures.2.1 70 = .ok (.aload_n 0, 1) := by decide +kernel
theorem dX10_figures_71 : decode mX10_figures.2.1 71 = .ok (.invokevirtual 245, 3) := by decide +kernel
theorem dX10_figures_74 : decode mX10_figures.2.1 74 = .ok (.iadd, 1) := by decide +kernel
theorem dX10_figures_75 : decode mX10_figures.2.1 75 = .ok (.bipush 48, 2) := by decide +kernel
theorem dX10_figures_77 : decode mX10_figures.2.1 77 = .ok (.isub, 1) := by decide +kernel
theorem dX10_figures_78 : decode mX10_figures.2.1 78 = .ok (.istore_n 1, 1) := by decide +kernel
theorem dX10_figures_79 : decode mX10_figures.2.1 79 = .ok (.aload_n 0, 1) := by decide +kernel
theorem dX10_figures_80 : decode mX10_figures.2.1 80 = .ok (.dup, 1) := by decide +kernel
theorem dX10_figures_81 : decode mX10_figures.2.1 81 = .ok (.getfield 236, 3) := by decide +kernel
theorem dX10_figures_84 : decode mX10_figures.2.1 84 = .ok (.iconst 1, 1) := by decide +kernel
theorem dX10_figures_85 : decode mX10_figures.2.1 85 = .ok (.iadd, 1) := by decide +kernel
theorem dX10_figures_86 : decode mX10_figures.2.1 86 = .ok (.putfield 236, 3) := by decide +kernel
theorem dX10_figures_89 : decode mX10_figures.2.1 89 = .ok (.iinc 2 1, 3) := by decide +kernel
theorem dX10_figures_92 : decode mX10_figures.2.1 92 = .ok (.goto (-55), 3) := by decide +kernel
theorem dX10_figures_95 : decode mX10_figures.2.1 95 = .ok (.iload_n 1, 1) := by decide +kernel
theorem dX10_figures_96 : decode mX10_figures.2.1 96 = .ok (.ireturn, 1) := by decide +kernel
theorem dX10_read_0 : decode mX10_read.2.1 0 = .ok (.aload_n 0, 1) := by decide +kernel
theorem dX10_read_1 : decode mX10_read.2.1 1 = .ok (.aload_n 0, 1) := by decide +kernel
theorem dX10_read_2 : decode mX10_read.2.1 2 = .ok (.getfield 74, 3) := by decide +kernel
theorem dX10_read_5 : decode mX10_read.2.1 5 = .ok (.putfield 239, 3) := by decide +kernel
theorem dX10_read_8 : decode mX10_read.2.1 8 = .ok (.aload_n 0, 1) := by decide +kernel
theorem dX10_read_9 : decode mX10_read.2.1 9 = .ok (.iconst 0, 1) := by decide +kernel
theorem dX10_read_10 : decode mX10_read.2.1 10 = .ok (.putfield 74, 3) := by decide +kernel
theorem dX10_read_13 : decode mX10_read.2.1 13 = .ok (.aload_n 0, 1) := by decide +kernel
theorem dX10_read_14 : decode mX10_read.2.1 14 = .ok (.iconst 0, 1) := by decide +kernel
theorem dX10_read_15 : decode mX10_read.2.1 15 = .ok (.putfield 236, 3) := by decide +kernel
theorem dX10_read_18 : decode mX10_read.2.1 18 = .ok (.aload_n 0, 1) := by decide +kernel
theorem dX10_read_19 : decode mX10_read.2.1 19 = .ok (.aload_n 0, 1) := by decide +kernel
theorem dX10_read_20 : decode mX10_read.2.1 20 = .ok (.invokevirtual 245, 3) := by decide +kernel
theorem dX10_read_23 : decode mX10_read.2.1 23 = .ok (.i2l, 1) := by decide +kernel
theorem dX10_read_24 : decode mX10_read.2.1 24 = .ok (.ldc2_w 252, 3) := by decide +kernel
theorem dX10_read_27 : decode mX10_read.2.1 27 = .ok (.ldc2_w 254, 3) := by decide +kernel
theorem dX10_read_30 : decode mX10_read.2.1 30 = .ok (.invokestatic 77, 3) := by decide +kernel
theorem dX10_read_33 : decode mX10_read.2.1 33 = .ok (.ifCond .ne 7, 3) := by decide +kernel
theorem dX10_read_36 : decode mX10_read.2.1 36 = .ok (.iconst 1, 1) := by decide +kernel
theorem dX10_read_37 : decode mX10_read.2.1 37 = .ok (.goto 4, 3) := by decide +kernel
theorem dX10_read_40 : decode mX10_read.2.1 40 = .ok (.iconst 0, 1) := by decide +kernel
theorem dX10_read_41 : decode mX10_read.2.1 41 = .ok (.putfield 242, 3) := by decide +kernel
theorem dX10_read_44 : decode mX10_read.2.1 44 = .ok (.aload_n 0, 1) := by decide +kernel
theorem dX10_read_45 : decode mX10_read.2.1 45 = .ok (.getfield 242, 3) := by decide +kernel
theorem dX10_read_48 : decode mX10_read.2.1 48 = .ok (.ifCond .eq 7, 3) := by decide +kernel
theorem dX10_read_51 : decode mX10_read.2.1 51 = .ok (.iconst 0, 1) := by decide +kernel
theorem dX10_read_52 : decode mX10_read.2.1 52 = .ok (.goto 10, 3) := by decide +kernel
theorem dX10_read_55 : decode mX10_read.2.1 55 = .ok (.aload_n 0, 1) := by decide +kernel
theorem dX10_read_56 : decode mX10_read.2.1 56 = .ok (.invokevirtual 245, 3) := by decide +kernel
theorem dX10_read_59 : decode mX10_read.2.1 59 = .ok (.bipush 48, 2) := by decide +kernel
theorem dX10_read_61 : decode mX10_read.2.1 61 = .ok (.isub, 1) := by decide +kernel
theorem dX10_read_62 : decode mX10_read.2.1 62 = .ok (.istore_n 1, 1) := by decide +kernel
theorem dX10_read_63 : decode mX10_read.2.1 63 = .ok (.aload_n 0, 1) := by decide +kernel
theorem dX10_read_64 : decode mX10_read.2.1 64 = .ok (.dup, 1) := by decide +kernel
theorem dX10_read_65 : decode mX10_read.2.1 65 = .ok (.getfield 236, 3) := by decide +kernel
theorem dX10_read_68 : decode mX10_read.2.1 68 = .ok (.aload_n 0, 1) := by decide +kernel
theorem dX10_read_69 : decode mX10_read.2.1 69 = .ok (.getfield 242, 3) := by decide +kernel
theorem dX10_read_72 : decode mX10_read.2.1 72 = .ok (.ifCond .eq 7, 3) := by decide +kernel
theorem dX10_read_75 : decode mX10_read.2.1 75 = .ok (.iconst 0, 1) := by decide +kernel
theorem dX10_read_76 : decode mX10_read.2.1 76 = .ok (.goto 4, 3) := by decide +kernel
theorem dX10_read_79 : decode mX10_read.2.1 79 = .ok (.iconst 1, 1) := by decide +kernel
theorem dX10_read_80 : decode mX10_read.2.1 80 = .ok (.iadd, 1) := by decide +kernel
theorem dX10_read_81 : decode mX10_read.2.1 81 = .ok (.putfield 236, 3) := by decide +kernel
theorem dX10_read_84 : decode mX10_read.2.1 84 = .ok (.iconst 0, 1) := by decide +kernel
theorem dX10_read_85 : decode mX10_read.2.1 85 = .ok (.istore_n 2, 1) := by decide +kernel
theorem dX10_read_86 : decode mX10_read.2.1 86 = .ok (.iload_n 2, 1) := by decide +kernel
theorem dX10_read_87 : decode mX10_read.2.1 87 = .ok (.bipush 36, 2) := by decide +kernel
theorem dX10_read_89 : decode mX10_read.2.1 89 = .ok (.if_icmp .ge 16, 3) := by decide +kernel
theorem dX10_read_92 : decode mX10_read.2.1 92 = .ok (.aload_n 0, 1) := by decide +kernel
theorem dX10_read_93 : decode mX10_read.2.1 93 = .ok (.getfield 68, 3) := by decide +kernel
theorem dX10_read_96 : decode mX10_read.2.1 96 = .ok (.iload_n 2, 1) := by decide +kernel
theorem dX10_read_97 : decode mX10_read.2.1 97 = .ok (.iconst 0, 1) := by decide +kernel
theorem dX10_read_98 : decode mX10_read.2.1 98 = .ok (.iastore, 1) := by decide +kernel
theorem dX10_read_99 : decode mX10_read.2.1 99 = .ok (.iinc 2 1, 3) := by decide +kernel
theorem dX10_read_102 : decode mX10_read.2.1 102 = .ok (.goto (-16), 3) := by decide +kernel
theorem dX10_read_105 : decode mX10_read.2.1 105 = .ok (.iconst 1, 1) := by decide +kernel
theorem dX10_read_106 : decode mX10_read.2.1 106 = .ok (.istore_n 2, 1) := by decide +kernel
theorem dX10_read_107 : decode mX10_read.2.1 107 = .ok (.iload_n 2, 1) := by decide +kernel
theorem dX10_read_108 : decode mX10_read.2.1 108 = .ok (.iload_n 1, 1) := by decide +kernel
theorem dX10_read_109 : decode mX10_read.2.1 109 = .ok (.if_icmp .ge 83, 3) := by decide +kernel
theorem dX10_read_112 : decode mX10_read.2.1 112 = .ok (.aload_n 0, 1) := by decide +kernel
theorem dX10_read_113 : decode mX10_read.2.1 113 = .ok (.getfield 242, 3) := by decide +kernel
theorem dX10_read_116 : decode mX10_read.2.1 116 = .ok (.ifCond .ne 76, 3) := by decide +kernel
theorem dX10_read_119 : decode mX10_read.2.1 119 = .ok (.iconst 0, 1) := by decide +kernel
theorem dX10_read_120 : decode mX10_read.2.1 120 = .ok (.istore_n 3, 1) := by decide +kernel
theorem dX10_read_121 : decode mX10_read.2.1 121 = .ok (.iload_n 3, 1) := by decide +kernel
theorem dX10_read_122 : decode mX10_read.2.1 122 = .ok (.iload_n 2, 1) := by decide +kernel
theorem dX10_read_123 : decode mX10_read.2.1 123 = .ok (.if_icmp .ge 63, 3) := by decide +kernel
theorem dX10_read_126 : decode mX10_read.2.1 126 = .ok (.aload_n 0, 1) := by decide +kernel
theorem dX10_read_127 : decode mX10_read.2.1 127 = .ok (.getfield 242, 3) := by decide +kernel
theorem dX10_read_130 : decode mX10_read.2.1 130 = .ok (.ifCond .ne 56, 3) := by decide +kernel
theorem dX10_read_133 : decode mX10_read.2.1 133 = .ok (.aload_n 0, 1) := by decide +kernel
theorem dX10_read_134 : decode mX10_read.2.1 134 = .ok (.iload_n 3, 1) := by decide +kernel
theorem dX10_read_135 : decode mX10_read.2.1 135 = .ok (.ifCond .ne 8, 3) := by decide +kernel
theorem dX10_read_138 : decode mX10_read.2.1 138 = .ok (.bipush 59, 2) := by decide +kernel
theorem dX10_read_140 : decode mX10_read.2.1 140 = .ok (.goto 5, 3) := by decide +kernel
theorem dX10_read_143 : decode mX10_read.2.1 143 = .ok (.bipush 44, 2) := by decide +kernel
theorem dX10_read_145 : decode mX10_read.2.1 145 = .ok (.invokevirtual 256, 3) := by decide +kernel
theorem dX10_read_148 : decode mX10_read.2.1 148 = .ok (.aload_n 0, 1) := by decide +kernel
theorem dX10_read_149 : decode mX10_read.2.1 149 = .ok (.invokevirtual 259, 3) := by decide +kernel
theorem dX10_read_152 : decode mX10_read.2.1 152 = .ok (.istore 4, 2) := by decide +kernel
theorem dX10_read_154 : decode mX10_read.2.1 154 = .ok (.aload_n 0, 1) := by decide +kernel
theorem dX10_read_155 : decode mX10_read.2.1 155 = .ok (.getfield 68, 3) := by decide +kernel
theorem dX10_read_158 : decode mX10_read.2.1 158 = .ok (.bipush 6, 2) := by decide +kernel
theorem dX10_read_160 : decode mX10_read.2.1 160 = .ok (.iload_n 2, 1) := by decide +kernel
theorem dX10_read_161 : decode mX10_read.2.1 161 = .ok (.imul, 1) := by decide +kernel
theorem dX10_read_162 : decode mX10_read.2.1 162 = .ok (.iload_n 3, 1) := by decide +kernel
theorem dX10_read_163 : decode mX10_read.2.1 163 = .ok (.iadd, 1) := by decide +kernel
theorem dX10_read_164 : decode mX10_read.2.1 164 = .ok (.iload 4, 2) := by decide +kernel
theorem dX10_read_166 : decode mX10_read.2.1 166 = .ok (.iastore, 1) := by decide +kernel
theorem dX10_read_167 : decode mX10_read.2.1 167 = .ok (.aload_n 0, 1) := by decide +kernel
theorem dX10_read_168 : decode mX10_read.2.1 168 = .ok (.getfield 68, 3) := by decide +kernel
theorem dX10_read_171 : decode mX10_read.2.1 171 = .ok (.bipush 6, 2) := by decide +kernel
theorem dX10_read_173 : decode mX10_read.2.1 173 = .ok (.iload_n 3, 1) := by decide +kernel
theorem dX10_read_174 : decode mX10_read.2.1 174 = .ok (.imul, 1) := by decide +kernel
theorem dX10_read_175 : decode mX10_read.2.1 175 = .ok (.iload_n 2, 1) := by decide +kernel
theorem dX10_read_176 : decode mX10_read.2.1 176 = .ok (.iadd, 1) := by decide +kernel
theorem dX10_read_177 : decode mX10_read.2.1 177 = .ok (.iload 4, 2) := by decide +kernel
theorem dX10_read_179 : decode mX10_read.2.1 179 = .ok (.iastore, 1) := by decide +kernel
theorem dX10_read_180 : decode mX10_read.2.1 180 = .ok (.iinc 3 1, 3) := by decide +kernel
theorem dX10_read_183 : decode mX10_read.2.1 183 = .ok (.goto (-62), 3) := by decide +kernel
theorem dX10_read_186 : decode mX10_read.2.1 186 = .ok (.iinc 2 1, 3) := by decide +kernel
theorem dX10_read_189 : decode mX10_read.2.1 189 = .ok (.goto (-82), 3) := by decide +kernel
theorem dX10_read_192 : decode mX10_read.2.1 192 = .ok (.aload_n 0, 1) := by decide +kernel
theorem dX10_read_193 : decode mX10_read.2.1 193 = .ok (.getfield 242, 3) := by decide +kernel
theorem dX10_read_196 : decode mX10_read.2.1 196 = .ok (.ifCond .ne 14, 3) := by decide +kernel
theorem dX10_read_199 : decode mX10_read.2.1 199 = .ok (.aload_n 0, 1) := by decide +kernel
theorem dX10_read_200 : decode mX10_read.2.1 200 = .ok (.getfield 236, 3) := by decide +kernel
theorem dX10_read_203 : decode mX10_read.2.1 203 = .ok (.aload_n 0, 1) := by decide +kernel
theorem dX10_read_204 : decode mX10_read.2.1 204 = .ok (.getfield 239, 3) := by decide +kernel
theorem dX10_read_207 : decode mX10_read.2.1 207 = .ok (.if_icmp .eq 12, 3) := by decide +kernel
theorem dX10_read_210 : decode mX10_read.2.1 210 = .ok (.sipush (-1000), 3) := by decide +kernel
theorem dX10_read_213 : decode mX10_read.2.1 213 = .ok (.aload_n 0, 1) := by decide +kernel
theorem dX10_read_214 : decode mX10_read.2.1 214 = .ok (.getfield 236, 3) := by decide +kernel
theorem dX10_read_217 : decode mX10_read.2.1 217 = .ok (.isub, 1) := by decide +kernel
theorem dX10_read_218 : decode mX10_read.2.1 218 = .ok (.ireturn, 1) := by decide +kernel
theorem dX10_read_219 : decode mX10_read.2.1 219 = .ok (.aload_n 0, 1) := by decide +kernel
theorem dX10_read_220 : decode mX10_read.2.1 220 = .ok (.invokevirtual 112, 3) := by decide +kernel
theorem dX10_read_223 : decode mX10_read.2.1 223 = .ok (.aload_n 0, 1) := by decide +kernel
theorem dX10_read_224 : decode mX10_read.2.1 224 = .ok (.iload_n 1, 1) := by decide +kernel
theorem dX10_read_225 : decode mX10_read.2.1 225 = .ok (.invokevirtual 140, 3) := by decide +kernel
theorem dX10_read_228 : decode mX10_read.2.1 228 = .ok (.aload_n 0, 1) := by decide +kernel
theorem dX10_read_229 : decode mX10_read.2.1 229 = .ok (.getfield 68, 3) := by decide +kernel
theorem dX10_read_232 : decode mX10_read.2.1 232 = .ok (.aload_n 0, 1) := by decide +kernel
theorem dX10_read_233 : decode mX10_read.2.1 233 = .ok (.getfield 15, 3) := by decide +kernel
theorem dX10_read_236 : decode mX10_read.2.1 236 = .ok (.invokestatic 96, 3) := by decide +kernel
theorem dX10_read_239 : decode mX10_read.2.1 239 = .ok (.aload_n 0, 1) := by decide +kernel
theorem dX10_read_240 : decode mX10_read.2.1 240 = .ok (.invokevirtual 119, 3) := by decide +kernel
theorem dX10_read_243 : decode mX10_read.2.1 243 = .ok (.pop, 1) := by decide +kernel
theorem dX10_read_244 : decode mX10_read.2.1 244 = .ok (.aload_n 0, 1) := by decide +kernel
theorem dX10_read_245 : decode mX10_read.2.1 245 = .ok (.getfield 9, 3) := by decide +kernel
theorem dX10_read_248 : decode mX10_read.2.1 248 = .ok (.ireturn, 1) := by decide +kernel
theorem dX10_spells_0 : decode mX10_spells.2.1 0 = .ok (.aload_n 0, 1) := by decide +kernel
theorem dX10_spells_1 : decode mX10_spells.2.1 1 = .ok (.getfield 71, 3) := by decide +kernel
theorem dX10_spells_4 : decode mX10_spells.2.1 4 = .ok (.aload_n 0, 1) := by decide +kernel
theorem dX10_spells_5 : decode mX10_spells.2.1 5 = .ok (.getfield 262, 3) := by decide +kernel
theorem dX10_spells_8 : decode mX10_spells.2.1 8 = .ok (.iload_n 1, 1) := by decide +kernel
theorem dX10_spells_9 : decode mX10_spells.2.1 9 = .ok (.iastore, 1) := by decide +kernel
theorem dX10_spells_10 : decode mX10_spells.2.1 10 = .ok (.aload_n 0, 1) := by decide +kernel
theorem dX10_spells_11 : decode mX10_spells.2.1 11 = .ok (.dup, 1) := by decide +kernel
theorem dX10_spells_12 : decode mX10_spells.2.1 12 = .ok (.getfield 262, 3) := by decide +kernel
theorem dX10_spells_15 : decode mX10_spells.2.1 15 = .ok (.iconst 1, 1) := by decide +kernel
theorem dX10_spells_16 : decode mX10_spells.2.1 16 = .ok (.iadd, 1) := by decide +kernel
theorem dX10_spells_17 : decode mX10_spells.2.1 17 = .ok (.putfield 262, 3) := by decide +kernel
theorem dX10_spells_20 : decode mX10_spells.2.1 20 = .ok (.return_, 1) := by decide +kernel
theorem dX10_spellsNumber_0 : decode mX10_spellsNumber.2.1 0 = .ok (.iload_n 1, 1) := by decide +kernel
theorem dX10_spellsNumber_1 : decode mX10_spellsNumber.2.1 1 = .ok (.bipush 99, 2) := by decide +kernel
theorem dX10_spellsNumber_3 : decode mX10_spellsNumber.2.1 3 = .ok (.if_icmp .le 14, 3) := by decide +kernel
theorem dX10_spellsNumber_6 : decode mX10_spellsNumber.2.1 6 = .ok (.aload_n 0, 1) := by decide +kernel
theorem dX10_spellsNumber_7 : decode mX10_spellsNumber.2.1 7 = .ok (.bipush 48, 2) := by decide +kernel
theorem dX10_spellsNumber_9 : decode mX10_spellsNumber.2.1 9 = .ok (.iload_n 1, 1) := by decide +kernel
theorem dX10_spellsNumber_10 : decode mX10_spellsNumber.2.1 10 = .ok (.bipush 100, 2) := by decide +kernel
theorem dX10_spellsNumber_12 : decode mX10_spellsNumber.2.1 12 = .ok (.idiv, 1) := by decide +kernel
theorem dX10_spellsNumber_13 : decode mX10_spellsNumber.2.1 13 = .ok (.iadd, 1) := by decide +kernel
theorem dX10_spellsNumber_14 : decode mX10_spellsNumber.2.1 14 = .ok (.invokevirtual 265, 3) := by decide +kernel
theorem dX10_spellsNumber_17 : decode mX10_spellsNumber.2.1 17 = .ok (.iload_n 1, 1) := by decide +kernel
theorem dX10_spellsNumber_18 : decode mX10_spellsNumber.2.1 18 = .ok (.bipush 9, 2) := by decide +kernel
theorem dX10_spellsNumber_20 : decode mX10_spellsNumber.2.1 20 = .ok (.if_icmp .le 17, 3) := by decide +kernel
theorem dX10_spellsNumber_23 : decode mX10_spellsNumber.2.1 23 = .ok (.aload_n 0, 1) := by decide +kernel
theorem dX10_spellsNumber_24 : decode mX10_spellsNumber.2.1 24 = .ok (.bipush 48, 2) := by decide +kernel
theorem dX10_spellsNumber_26 : decode mX10_spellsNumber.2.1 26 = .ok (.iload_n 1, 1) := by decide +kernel
theorem dX10_spellsNumber_27 : decode mX10_spellsNumber.2.1 27 = .ok (.bipush 10, 2) := by decide +kernel
theorem dX10_spellsNumber_29 : decode mX10_spellsNumber.2.1 29 = .ok (.idiv, 1) := by decide +kernel
theorem dX10_spellsNumber_30 : decode mX10_spellsNumber.2.1 30 = .ok (.bipush 10, 2) := by decide +kernel
theorem dX10_spellsNumber_32 : decode mX10_spellsNumber.2.1 32 = .ok (.irem, 1) := by decide +kernel
theorem dX10_spellsNumber_33 : decode mX10_spellsNumber.2.1 33 = .ok (.iadd, 1) := by decide +kernel
theorem dX10_spellsNumber_34 : decode mX10_spellsNumber.2.1 34 = .ok (.invokevirtual 265, 3) := by decide +kernel
theorem dX10_spellsNumber_37 : decode mX10_spellsNumber.2.1 37 = .ok (.aload_n 0, 1) := by decide +kernel
theorem dX10_spellsNumber_38 : decode mX10_spellsNumber.2.1 38 = .ok (.bipush 48, 2) := by decide +kernel
theorem dX10_spellsNumber_40 : decode mX10_spellsNumber.2.1 40 = .ok (.iload_n 1, 1) := by decide +kernel
theorem dX10_spellsNumber_41 : decode mX10_spellsNumber.2.1 41 = .ok (.bipush 10, 2) := by decide +kernel
theorem dX10_spellsNumber_43 : decode mX10_spellsNumber.2.1 43 = .ok (.irem, 1) := by decide +kernel
theorem dX10_spellsNumber_44 : decode mX10_spellsNumber.2.1 44 = .ok (.iadd, 1) := by decide +kernel
theorem dX10_spellsNumber_45 : decode mX10_spellsNumber.2.1 45 = .ok (.invokevirtual 265, 3) := by decide +kernel
theorem dX10_spellsNumber_48 : decode mX10_spellsNumber.2.1 48 = .ok (.return_, 1) := by decide +kernel
theorem dX10_spell_0 : decode mX10_spell.2.1 0 = .ok (.iload_n 1, 1) := by decide +kernel
theorem dX10_spell_1 : decode mX10_spell.2.1 1 = .ok (.iconst (-1), 1) := by decide +kernel
theorem dX10_spell_2 : decode mX10_spell.2.1 2 = .ok (.if_icmp .ge 5, 3) := by decide +kernel
theorem dX10_spell_5 : decode mX10_spell.2.1 5 = .ok (.iconst (-1), 1) := by decide +kernel
theorem dX10_spell_6 : decode mX10_spell.2.1 6 = .ok (.ireturn, 1) := by decide +kernel
theorem dX10_spell_7 : decode mX10_spell.2.1 7 = .ok (.aload_n 0, 1) := by decide +kernel
theorem dX10_spell_8 : decode mX10_spell.2.1 8 = .ok (.iconst 0, 1) := by decide +kernel
theorem dX10_spell_9 : decode mX10_spell.2.1 9 = .ok (.putfield 262, 3) := by decide +kernel
theorem dX10_spell_12 : decode mX10_spell.2.1 12 = .ok (.aload_n 0, 1) := by decide +kernel
theorem dX10_spell_13 : decode mX10_spell.2.1 13 = .ok (.bipush 48, 2) := by decide +kernel
theorem dX10_spell_15 : decode mX10_spell.2.1 15 = .ok (.aload_n 0, 1) := by decide +kernel
theorem dX10_spell_16 : decode mX10_spell.2.1 16 = .ok (.getfield 9, 3) := by decide +kernel
theorem dX10_spell_19 : decode mX10_spell.2.1 19 = .ok (.iadd, 1) := by decide +kernel
theorem dX10_spell_20 : decode mX10_spell.2.1 20 = .ok (.invokevirtual 265, 3) := by decide +kernel
theorem dX10_spell_23 : decode mX10_spell.2.1 23 = .ok (.iconst 1, 1) := by decide +kernel
theorem dX10_spell_24 : decode mX10_spell.2.1 24 = .ok (.istore_n 2, 1) := by decide +kernel
theorem dX10_spell_25 : decode mX10_spell.2.1 25 = .ok (.iload_n 2, 1) := by decide +kernel
theorem dX10_spell_26 : decode mX10_spell.2.1 26 = .ok (.aload_n 0, 1) := by decide +kernel
theorem dX10_spell_27 : decode mX10_spell.2.1 27 = .ok (.getfield 9, 3) := by decide +kernel
theorem dX10_spell_30 : decode mX10_spell.2.1 30 = .ok (.if_icmp .ge 52, 3) := by decide +kernel
theorem dX10_spell_33 : decode mX10_spell.2.1 33 = .ok (.iconst 0, 1) := by decide +kernel
theorem dX10_spell_34 : decode mX10_spell.2.1 34 = .ok (.istore_n 3, 1) := by decide +kernel
theorem dX10_spell_35 : decode mX10_spell.2.1 35 = .ok (.iload_n 3, 1) := by decide +kernel
theorem dX10_spell_36 : decode mX10_spell.2.1 36 = .ok (.iload_n 2, 1) := by decide +kernel
theorem dX10_spell_37 : decode mX10_spell.2.1 37 = .ok (.if_icmp .ge 39, 3) := by decide +kernel
theorem dX10_spell_40 : decode mX10_spell.2.1 40 = .ok (.aload_n 0, 1) := by decide +kernel
theorem dX10_spell_41 : decode mX10_spell.2.1 41 = .ok (.iload_n 3, 1) := by decide +kernel
theorem dX10_spell_42 : decode mX10_spell.2.1 42 = .ok (.ifCond .ne 8, 3) := by decide +kernel
theorem dX10_spell_45 : decode mX10_spell.2.1 45 = .ok (.bipush 59, 2) := by decide +kernel
theorem dX10_spell_47 : decode mX10_spell.2.1 47 = .ok (.goto 5, 3) := by decide +kernel
theorem dX10_spell_50 : decode mX10_spell.2.1 50 = .ok (.bipush 44, 2) := by decide +kernel
theorem dX10_spell_52 : decode mX10_spell.2.1 52 = .ok (.invokevirtual 265, 3) := by decide +kernel
theorem dX10_spell_55 : decode mX10_spell.2.1 55 = .ok (.aload_n 0, 1) := by decide +kernel
theorem dX10_spell_56 : decode mX10_spell.2.1 56 = .ok (.aload_n 0, 1) := by decide +kernel
theorem dX10_spell_57 : decode mX10_spell.2.1 57 = .ok (.getfield 15, 3) := by decide +kernel
theorem dX10_spell_60 : decode mX10_spell.2.1 60 = .ok (.bipush 6, 2) := by decide +kernel
theorem dX10_spell_62 : decode mX10_spell.2.1 62 = .ok (.iload_n 2, 1) := by decide +kernel
theorem dX10_spell_63 : decode mX10_spell.2.1 63 = .ok (.imul, 1) := by decide +kernel
theorem dX10_spell_64 : decode mX10_spell.2.1 64 = .ok (.iload_n 3, 1) := by decide +kernel
theorem dX10_spell_65 : decode mX10_spell.2.1 65 = .ok (.iadd, 1) := by decide +kernel
theorem dX10_spell_66 : decode mX10_spell.2.1 66 = .ok (.iaload, 1) := by decide +kernel
theorem dX10_spell_67 : decode mX10_spell.2.1 67 = .ok (.invokevirtual 268, 3) := by decide +kernel
theorem dX10_spell_70 : decode mX10_spell.2.1 70 = .ok (.iinc 3 1, 3) := by decide +kernel
theorem dX10_spell_73 : decode mX10_spell.2.1 73 = .ok (.goto (-38), 3) := by decide +kernel
theorem dX10_spell_76 : decode mX10_spell.2.1 76 = .ok (.iinc 2 1, 3) := by decide +kernel
theorem dX10_spell_79 : decode mX10_spell.2.1 79 = .ok (.goto (-54), 3) := by decide +kernel
theorem dX10_spell_82 : decode mX10_spell.2.1 82 = .ok (.iload_n 1, 1) := by decide +kernel
theorem dX10_spell_83 : decode mX10_spell.2.1 83 = .ok (.ifCond .ge 8, 3) := by decide +kernel
theorem dX10_spell_86 : decode mX10_spell.2.1 86 = .ok (.aload_n 0, 1) := by decide +kernel
theorem dX10_spell_87 : decode mX10_spell.2.1 87 = .ok (.getfield 262, 3) := by decide +kernel
theorem dX10_spell_90 : decode mX10_spell.2.1 90 = .ok (.ireturn, 1) := by decide +kernel
theorem dX10_spell_91 : decode mX10_spell.2.1 91 = .ok (.iload_n 1, 1) := by decide +kernel
theorem dX10_spell_92 : decode mX10_spell.2.1 92 = .ok (.aload_n 0, 1) := by decide +kernel
theorem dX10_spell_93 : decode mX10_spell.2.1 93 = .ok (.getfield 262, 3) := by decide +kernel
theorem dX10_spell_96 : decode mX10_spell.2.1 96 = .ok (.if_icmp .ge 12, 3) := by decide +kernel
theorem dX10_spell_99 : decode mX10_spell.2.1 99 = .ok (.aload_n 0, 1) := by decide +kernel
theorem dX10_spell_100 : decode mX10_spell.2.1 100 = .ok (.getfield 71, 3) := by decide +kernel
theorem dX10_spell_103 : decode mX10_spell.2.1 103 = .ok (.iload_n 1, 1) := by decide +kernel
theorem dX10_spell_104 : decode mX10_spell.2.1 104 = .ok (.iaload, 1) := by decide +kernel
theorem dX10_spell_105 : decode mX10_spell.2.1 105 = .ok (.goto 5, 3) := by decide +kernel
theorem dX10_spell_108 : decode mX10_spell.2.1 108 = .ok (.bipush (-2), 2) := by decide +kernel
theorem dX10_spell_110 : decode mX10_spell.2.1 110 = .ok (.ireturn, 1) := by decide +kernel
theorem dX10_hold_0 : decode mX10_hold.2.1 0 = .ok (.iload_n 1, 1) := by decide +kernel
theorem dX10_hold_1 : decode mX10_hold.2.1 1 = .ok (.invokestatic 176, 3) := by decide +kernel
theorem dX10_hold_4 : decode mX10_hold.2.1 4 = .ok (.ifCond .ne 5, 3) := by decide +kernel
theorem dX10_hold_7 : decode mX10_hold.2.1 7 = .ok (.iconst (-1), 1) := by decide +kernel
theorem dX10_hold_8 : decode mX10_hold.2.1 8 = .ok (.ireturn, 1) := by decide +kernel
theorem dX10_hold_9 : decode mX10_hold.2.1 9 = .ok (.aload_n 0, 1) := by decide +kernel
theorem dX10_hold_10 : decode mX10_hold.2.1 10 = .ok (.getfield 34, 3) := by decide +kernel
theorem dX10_hold_13 : decode mX10_hold.2.1 13 = .ok (.iload_n 1, 1) := by decide +kernel
theorem dX10_hold_14 : decode mX10_hold.2.1 14 = .ok (.iconst 1, 1) := by decide +kernel
theorem dX10_hold_15 : decode mX10_hold.2.1 15 = .ok (.iastore, 1) := by decide +kernel
theorem dX10_hold_16 : decode mX10_hold.2.1 16 = .ok (.aload_n 0, 1) := by decide +kernel
theorem dX10_hold_17 : decode mX10_hold.2.1 17 = .ok (.getfield 37, 3) := by decide +kernel
theorem dX10_hold_20 : decode mX10_hold.2.1 20 = .ok (.iload_n 1, 1) := by decide +kernel
theorem dX10_hold_21 : decode mX10_hold.2.1 21 = .ok (.aload_n 0, 1) := by decide +kernel
theorem dX10_hold_22 : decode mX10_hold.2.1 22 = .ok (.getfield 9, 3) := by decide +kernel
theorem dX10_hold_25 : decode mX10_hold.2.1 25 = .ok (.iastore, 1) := by decide +kernel
theorem dX10_hold_26 : decode mX10_hold.2.1 26 = .ok (.iconst 0, 1) := by decide +kernel
theorem dX10_hold_27 : decode mX10_hold.2.1 27 = .ok (.istore_n 2, 1) := by decide +kernel
theorem dX10_hold_28 : decode mX10_hold.2.1 28 = .ok (.iconst 0, 1) := by decide +kernel
theorem dX10_hold_29 : decode mX10_hold.2.1 29 = .ok (.istore_n 3, 1) := by decide +kernel
theorem dX10_hold_30 : decode mX10_hold.2.1 30 = .ok (.iload_n 3, 1) := by decide +kernel
theorem dX10_hold_31 : decode mX10_hold.2.1 31 = .ok (.aload_n 0, 1) := by decide +kernel
theorem dX10_hold_32 : decode mX10_hold.2.1 32 = .ok (.getfield 9, 3) := by decide +kernel
theorem dX10_hold_35 : decode mX10_hold.2.1 35 = .ok (.if_icmp .ge 55, 3) := by decide +kernel
theorem dX10_hold_38 : decode mX10_hold.2.1 38 = .ok (.iload_n 3, 1) := by decide +kernel
theorem dX10_hold_39 : decode mX10_hold.2.1 39 = .ok (.iconst 1, 1) := by decide +kernel
theorem dX10_hold_40 : decode mX10_hold.2.1 40 = .ok (.iadd, 1) := by decide +kernel
theorem dX10_hold_41 : decode mX10_hold.2.1 41 = .ok (.istore 4, 2) := by decide +kernel
theorem dX10_hold_43 : decode mX10_hold.2.1 43 = .ok (.iload 4, 2) := by decide +kernel
theorem dX10_hold_45 : decode mX10_hold.2.1 45 = .ok (.aload_n 0, 1) := by decide +kernel
theorem dX10_hold_46 : decode mX10_hold.2.1 46 = .ok (.getfield 9, 3) := by decide +kernel
theorem dX10_hold_49 : decode mX10_hold.2.1 49 = .ok (.if_icmp .ge 35, 3) := by decide +kernel
theorem dX10_hold_52 : decode mX10_hold.2.1 52 = .ok (.aload_n 0, 1) := by decide +kernel
theorem dX10_hold_53 : decode mX10_hold.2.1 53 = .ok (.getfield 40, 3) := by decide +kernel
theorem dX10_hold_56 : decode mX10_hold.2.1 56 = .ok (.bipush 20, 2) := by decide +kernel
theorem dX10_hold_58 : decode mX10_hold.2.1 58 = .ok (.iload_n 1, 1) := by decide +kernel
theorem dX10_hold_59 : decode mX10_hold.2.1 59 = .ok (.imul, 1) := by decide +kernel
theorem dX10_hold_60 : decode mX10_hold.2.1 60 = .ok (.iload_n 2, 1) := by decide +kernel
theorem dX10_hold_61 : decode mX10_hold.2.1 61 = .ok (.iadd, 1) := by decide +kernel
theorem dX10_hold_62 : decode mX10_hold.2.1 62 = .ok (.aload_n 0, 1) := by decide +kernel
theorem dX10_hold_63 : decode mX10_hold.2.1 63 = .ok (.getfield 15, 3) := by decide +kernel
theorem dX10_hold_66 : decode mX10_hold.2.1 66 = .ok (.bipush 6, 2) := by decide +kernel
theorem dX10_hold_68 : decode mX10_hold.2.1 68 = .ok (.iload_n 3, 1) := by decide +kernel
theorem dX10_hold_69 : decode mX10_hold.2.1 69 = .ok (.imul, 1) := by decide +kernel
theorem dX10_hold_70 : decode mX10_hold.2.1 70 = .ok (.iload 4, 2) := by decide +kernel
theorem dX10_hold_72 : decode mX10_hold.2.1 72 = .ok (.iadd, 1) := by decide +kernel
theorem dX10_hold_73 : decode mX10_hold.2.1 73 = .ok (.iaload, 1) := by decide +kernel
theorem dX10_hold_74 : decode mX10_hold.2.1 74 = .ok (.iastore, 1) := by decide +kernel
theorem dX10_hold_75 : decode mX10_hold.2.1 75 = .ok (.iinc 2 1, 3) := by decide +kernel
theorem dX10_hold_78 : decode mX10_hold.2.1 78 = .ok (.iinc 4 1, 3) := by decide +kernel
theorem dX10_hold_81 : decode mX10_hold.2.1 81 = .ok (.goto (-38), 3) := by decide +kernel
theorem dX10_hold_84 : decode mX10_hold.2.1 84 = .ok (.iinc 3 1, 3) := by decide +kernel
theorem dX10_hold_87 : decode mX10_hold.2.1 87 = .ok (.goto (-57), 3) := by decide +kernel
theorem dX10_hold_90 : decode mX10_hold.2.1 90 = .ok (.aload_n 0, 1) := by decide +kernel
theorem dX10_hold_91 : decode mX10_hold.2.1 91 = .ok (.getfield 9, 3) := by decide +kernel
theorem dX10_hold_94 : decode mX10_hold.2.1 94 = .ok (.ireturn, 1) := by decide +kernel
theorem dX10_lose_0 : decode mX10_lose.2.1 0 = .ok (.iload_n 1, 1) := by decide +kernel
theorem dX10_lose_1 : decode mX10_lose.2.1 1 = .ok (.invokestatic 176, 3) := by decide +kernel
theorem dX10_lose_4 : decode mX10_lose.2.1 4 = .ok (.ifCond .ne 5, 3) := by decide +kernel
theorem dX10_lose_7 : decode mX10_lose.2.1 7 = .ok (.iconst (-1), 1) := by decide +kernel
theorem dX10_lose_8 : decode mX10_lose.2.1 8 = .ok (.ireturn, 1) := by decide +kernel
theorem dX10_lose_9 : decode mX10_lose.2.1 9 = .ok (.aload_n 0, 1) := by decide +kernel
theorem dX10_lose_10 : decode mX10_lose.2.1 10 = .ok (.getfield 34, 3) := by decide +kernel
theorem dX10_lose_13 : decode mX10_lose.2.1 13 = .ok (.iload_n 1, 1) := by decide +kernel
theorem dX10_lose_14 : decode mX10_lose.2.1 14 = .ok (.iaload, 1) := by decide +kernel
theorem dX10_lose_15 : decode mX10_lose.2.1 15 = .ok (.istore_n 2, 1) := by decide +kernel
theorem dX10_lose_16 : decode mX10_lose.2.1 16 = .ok (.aload_n 0, 1) := by decide +kernel
theorem dX10_lose_17 : decode mX10_lose.2.1 17 = .ok (.getfield 34, 3) := by decide +kernel
theorem dX10_lose_20 : decode mX10_lose.2.1 20 = .ok (.iload_n 1, 1) := by decide +kernel
theorem dX10_lose_21 : decode mX10_lose.2.1 21 = .ok (.iconst 0, 1) := by decide +kernel
theorem dX10_lose_22 : decode mX10_lose.2.1 22 = .ok (.iastore, 1) := by decide +kernel
theorem dX10_lose_23 : decode mX10_lose.2.1 23 = .ok (.iload_n 2, 1) := by decide +kernel
theorem dX10_lose_24 : decode mX10_lose.2.1 24 = .ok (.ireturn, 1) := by decide +kernel
theorem dX10_taken_0 : decode mX10_taken.2.1 0 = .ok (.iload_n 1, 1) := by decide +kernel
theorem dX10_taken_1 : decode mX10_taken.2.1 1 = .ok (.invokestatic 176, 3) := by decide +kernel
theorem dX10_taken_4 : decode mX10_taken.2.1 4 = .ok (.ifCond .eq 15, 3) := by decide +kernel
theorem dX10_taken_7 : decode mX10_taken.2.1 7 = .ok (.iload_n 2, 1) := by decide +kernel
theorem dX10_taken_8 : decode mX10_taken.2.1 8 = .ok (.i2l, 1) := by decide +kernel
theorem dX10_taken_9 : decode mX10_taken.2.1 9 = .ok (.lconst 0, 1) := by decide +kernel
theorem dX10_taken_10 : decode mX10_taken.2.1 10 = .ok (.ldc2_w 103, 3) := by decide +kernel
theorem dX10_taken_13 : decode mX10_taken.2.1 13 = .ok (.invokestatic 77, 3) := by decide +kernel
theorem dX10_taken_16 : decode mX10_taken.2.1 16 = .ok (.ifCond .ne 5, 3) := by decide +kernel
theorem dX10_taken_19 : decode mX10_taken.2.1 19 = .ok (.iconst (-1), 1) := by decide +kernel
theorem dX10_taken_20 : decode mX10_taken.2.1 20 = .ok (.ireturn, 1) := by decide +kernel
theorem dX10_taken_21 : decode mX10_taken.2.1 21 = .ok (.aload_n 0, 1) := by decide +kernel
theorem dX10_taken_22 : decode mX10_taken.2.1 22 = .ok (.getfield 34, 3) := by decide +kernel
theorem dX10_taken_25 : decode mX10_taken.2.1 25 = .ok (.iload_n 1, 1) := by decide +kernel
theorem dX10_taken_26 : decode mX10_taken.2.1 26 = .ok (.iaload, 1) := by decide +kernel
theorem dX10_taken_27 : decode mX10_taken.2.1 27 = .ok (.ifCond .ne 6, 3) := by decide +kernel
theorem dX10_taken_30 : decode mX10_taken.2.1 30 = .ok (.bipush (-11), 2) := by decide +kernel
theorem dX10_taken_32 : decode mX10_taken.2.1 32 = .ok (.ireturn, 1) := by decide +kernel
theorem dX10_taken_33 : decode mX10_taken.2.1 33 = .ok (.aload_n 0, 1) := by decide +kernel
theorem dX10_taken_34 : decode mX10_taken.2.1 34 = .ok (.getfield 34, 3) := by decide +kernel
theorem dX10_taken_37 : decode mX10_taken.2.1 37 = .ok (.iload_n 1, 1) := by decide +kernel
theorem dX10_taken_38 : decode mX10_taken.2.1 38 = .ok (.iaload, 1) := by decide +kernel
theorem dX10_taken_39 : decode mX10_taken.2.1 39 = .ok (.iconst 3, 1) := by decide +kernel
theorem dX10_taken_40 : decode mX10_taken.2.1 40 = .ok (.if_icmp .eq 20, 3) := by decide +kernel
theorem dX10_taken_43 : decode mX10_taken.2.1 43 = .ok (.iload_n 2, 1) := by decide +kernel
theorem dX10_taken_44 : decode mX10_taken.2.1 44 = .ok (.iconst 2, 1) := by decide +kernel
theorem dX10_taken_45 : decode mX10_taken.2.1 45 = .ok (.if_icmp .ge 18, 3) := by decide +kernel
theorem dX10_taken_48 : decode mX10_taken.2.1 48 = .ok (.aload_n 0, 1) := by decide +kernel
theorem dX10_taken_49 : decode mX10_taken.2.1 49 = .ok (.getfield 34, 3) := by decide +kernel
theorem dX10_taken_52 : decode mX10_taken.2.1 52 = .ok (.iload_n 1, 1) := by decide +kernel
theorem dX10_taken_53 : decode mX10_taken.2.1 53 = .ok (.iaload, 1) := by decide +kernel
theorem dX10_taken_54 : decode mX10_taken.2.1 54 = .ok (.iload_n 2, 1) := by decide +kernel
theorem dX10_taken_55 : decode mX10_taken.2.1 55 = .ok (.iconst 1, 1) := by decide +kernel
theorem dX10_taken_56 : decode mX10_taken.2.1 56 = .ok (.iadd, 1) := by decide +kernel
theorem dX10_taken_57 : decode mX10_taken.2.1 57 = .ok (.if_icmp .eq 6, 3) := by decide +kernel
theorem dX10_taken_60 : decode mX10_taken.2.1 60 = .ok (.bipush (-12), 2) := by decide +kernel
theorem dX10_taken_62 : decode mX10_taken.2.1 62 = .ok (.ireturn, 1) := by decide +kernel
theorem dX10_taken_63 : decode mX10_taken.2.1 63 = .ok (.iload_n 2, 1) := by decide +kernel
theorem dX10_taken_64 : decode mX10_taken.2.1 64 = .ok (.iconst 2, 1) := by decide +kernel
theorem dX10_taken_65 : decode mX10_taken.2.1 65 = .ok (.if_icmp .ne 10, 3) := by decide +kernel
theorem dX10_taken_68 : decode mX10_taken.2.1 68 = .ok (.aload_n 0, 1) := by decide +kernel
theorem dX10_taken_69 : decode mX10_taken.2.1 69 = .ok (.getfield 37, 3) := by decide +kernel
theorem dX10_taken_72 : decode mX10_taken.2.1 72 = .ok (.iload_n 1, 1) := by decide +kernel
theorem dX10_taken_73 : decode mX10_taken.2.1 73 = .ok (.iaload, 1) := by decide +kernel
theorem dX10_taken_74 : decode mX10_taken.2.1 74 = .ok (.ireturn, 1) := by decide +kernel
theorem dX10_taken_75 : decode mX10_taken.2.1 75 = .ok (.iconst 0, 1) := by decide +kernel
theorem dX10_taken_76 : decode mX10_taken.2.1 76 = .ok (.istore_n 3, 1) := by decide +kernel
theorem dX10_taken_77 : decode mX10_taken.2.1 77 = .ok (.iconst 0, 1) := by decide +kernel
theorem dX10_taken_78 : decode mX10_taken.2.1 78 = .ok (.istore 4, 2) := by decide +kernel
theorem dX10_taken_80 : decode mX10_taken.2.1 80 = .ok (.iload_n 2, 1) := by decide +kernel
theorem dX10_taken_81 : decode mX10_taken.2.1 81 = .ok (.ifCond .ne 15, 3) := by decide +kernel
theorem dX10_taken_84 : decode mX10_taken.2.1 84 = .ok (.aload_n 0, 1) := by decide +kernel
theorem dX10_taken_85 : decode mX10_taken.2.1 85 = .ok (.getfield 37, 3) := by decide +kernel
theorem dX10_taken_88 : decode mX10_taken.2.1 88 = .ok (.iload_n 1, 1) := by decide +kernel
theorem dX10_taken_89 : decode mX10_taken.2.1 89 = .ok (.iaload, 1) := by decide +kernel
theorem dX10_taken_90 : decode mX10_taken.2.1 90 = .ok (.invokestatic 187, 3) := by decide +kernel
theorem dX10_taken_93 : decode mX10_taken.2.1 93 = .ok (.goto 9, 3) := by decide +kernel
theorem dX10_taken_96 : decode mX10_taken.2.1 96 = .ok (.aload_n 0, 1) := by decide +kernel
theorem dX10_taken_97 : decode mX10_taken.2.1 97 = .ok (.getfield 37, 3) := by decide +kernel
theorem dX10_taken_100 : decode mX10_taken.2.1 100 = .ok (.iload_n 1, 1) := by decide +kernel
theorem dX10_taken_101 : decode mX10_taken.2.1 101 = .ok (.iaload, 1) := by decide +kernel
theorem dX10_taken_102 : decode mX10_taken.2.1 102 = .ok (.istore 5, 2) := by decide +kernel
theorem dX10_taken_104 : decode mX10_taken.2.1 104 = .ok (.iconst 0, 1) := by decide +kernel
theorem dX10_taken_105 : decode mX10_taken.2.1 105 = .ok (.istore 6, 2) := by decide +kernel
theorem dX10_taken_107 : decode mX10_taken.2.1 107 = .ok (.iload 6, 2) := by decide +kernel
theorem dX10_taken_109 : decode mX10_taken.2.1 109 = .ok (.iload 5, 2) := by decide +kernel
theorem dX10_taken_111 : decode mX10_taken.2.1 111 = .ok (.if_icmp .ge 47, 3) := by decide +kernel
theorem dX10_taken_114 : decode mX10_taken.2.1 114 = .ok (.iload_n 3, 1) := by decide +kernel
theorem dX10_taken_115 : decode mX10_taken.2.1 115 = .ok (.aload_n 0, 1) := by decide +kernel
theorem dX10_taken_116 : decode mX10_taken.2.1 116 = .ok (.getfield 40, 3) := by decide +kernel
theorem dX10_taken_119 : decode mX10_taken.2.1 119 = .ok (.bipush 20, 2) := by decide +kernel
theorem dX10_taken_121 : decode mX10_taken.2.1 121 = .ok (.iload_n 1, 1) := by decide +kernel
theorem dX10_taken_122 : decode mX10_taken.2.1 122 = .ok (.imul, 1) := by decide +kernel
theorem dX10_taken_123 : decode mX10_taken.2.1 123 = .ok (.iload 6, 2) := by decide +kernel
theorem dX10_taken_125 : decode mX10_taken.2.1 125 = .ok (.iadd, 1) := by decide +kernel
theorem dX10_taken_126 : decode mX10_taken.2.1 126 = .ok (.iaload, 1) := by decide +kernel
theorem dX10_taken_127 : decode mX10_taken.2.1 127 = .ok (.iadd, 1) := by decide +kernel
theorem dX10_taken_128 : decode mX10_taken.2.1 128 = .ok (.istore_n 3, 1) := by decide +kernel
theorem dX10_taken_129 : decode mX10_taken.2.1 129 = .ok (.iload 4, 2) := by decide +kernel
theorem dX10_taken_131 : decode mX10_taken.2.1 131 = .ok (.aload_n 0, 1) := by decide +kernel
theorem dX10_taken_132 : decode mX10_taken.2.1 132 = .ok (.getfield 40, 3) := by decide +kernel
theorem dX10_taken_135 : decode mX10_taken.2.1 135 = .ok (.bipush 20, 2) := by decide +kernel
theorem dX10_taken_137 : decode mX10_taken.2.1 137 = .ok (.iload_n 1, 1) := by decide +kernel
theorem dX10_taken_138 : decode mX10_taken.2.1 138 = .ok (.imul, 1) := by decide +kernel
theorem dX10_taken_139 : decode mX10_taken.2.1 139 = .ok (.iload 6, 2) := by decide +kernel
theorem dX10_taken_141 : decode mX10_taken.2.1 141 = .ok (.iadd, 1) := by decide +kernel
theorem dX10_taken_142 : decode mX10_taken.2.1 142 = .ok (.iaload, 1) := by decide +kernel
theorem dX10_taken_143 : decode mX10_taken.2.1 143 = .ok (.iconst 0, 1) := by decide +kernel
theorem dX10_taken_144 : decode mX10_taken.2.1 144 = .ok (.invokestatic 136, 3) := by decide +kernel
theorem dX10_taken_147 : decode mX10_taken.2.1 147 = .ok (.invokestatic 148, 3) := by decide +kernel
theorem dX10_taken_150 : decode mX10_taken.2.1 150 = .ok (.istore 4, 2) := by decide +kernel
theorem dX10_taken_152 : decode mX10_taken.2.1 152 = .ok (.iinc 6 1, 3) := by decide +kernel
theorem dX10_taken_155 : decode mX10_taken.2.1 155 = .ok (.goto (-48), 3) := by decide +kernel
theorem dX10_taken_158 : decode mX10_taken.2.1 158 = .ok (.iload_n 2, 1) := by decide +kernel
theorem dX10_taken_159 : decode mX10_taken.2.1 159 = .ok (.ifCond .ne 7, 3) := by decide +kernel
theorem dX10_taken_162 : decode mX10_taken.2.1 162 = .ok (.iload_n 3, 1) := by decide +kernel
theorem dX10_taken_163 : decode mX10_taken.2.1 163 = .ok (.goto 5, 3) := by decide +kernel
theorem dX10_taken_166 : decode mX10_taken.2.1 166 = .ok (.iload 4, 2) := by decide +kernel
theorem dX10_taken_168 : decode mX10_taken.2.1 168 = .ok (.ireturn, 1) := by decide +kernel
theorem dX10_number_0 : decode mX10_number.2.1 0 = .ok (.iload_n 1, 1) := by decide +kernel
theorem dX10_number_1 : decode mX10_number.2.1 1 = .ok (.invokestatic 176, 3) := by decide +kernel
theorem dX10_number_4 : decode mX10_number.2.1 4 = .ok (.ifCond .eq 12, 3) := by decide +kernel
theorem dX10_number_7 : decode mX10_number.2.1 7 = .ok (.aload_n 0, 1) := by decide +kernel
theorem dX10_number_8 : decode mX10_number.2.1 8 = .ok (.getfield 34, 3) := by decide +kernel
theorem dX10_number_11 : decode mX10_number.2.1 11 = .ok (.iload_n 1, 1) := by decide +kernel
theorem dX10_number_12 : decode mX10_number.2.1 12 = .ok (.iaload, 1) := by decide +kernel
theorem dX10_number_13 : decode mX10_number.2.1 13 = .ok (.ifCond .ne 7, 3) := by decide +kernel
theorem dX10_number_16 : decode mX10_number.2.1 16 = .ok (.ldc2_w 185, 3) := by decide +kernel
theorem dX10_number_19 : decode mX10_number.2.1 19 = .ok (.lreturn, 1) := by decide +kernel
theorem dX10_number_20 : decode mX10_number.2.1 20 = .ok (.aload_n 0, 1) := by decide +kernel
theorem dX10_number_21 : decode mX10_number.2.1 21 = .ok (.getfield 34, 3) := by decide +kernel
theorem dX10_number_24 : decode mX10_number.2.1 24 = .ok (.iload_n 1, 1) := by decide +kernel
theorem dX10_number_25 : decode mX10_number.2.1 25 = .ok (.iaload, 1) := by decide +kernel
theorem dX10_number_26 : decode mX10_number.2.1 26 = .ok (.iconst 1, 1) := by decide +kernel
theorem dX10_number_27 : decode mX10_number.2.1 27 = .ok (.if_icmp .ne 15, 3) := by decide +kernel
theorem dX10_number_30 : decode mX10_number.2.1 30 = .ok (.aload_n 0, 1) := by decide +kernel
theorem dX10_number_31 : decode mX10_number.2.1 31 = .ok (.getfield 37, 3) := by decide +kernel
theorem dX10_number_34 : decode mX10_number.2.1 34 = .ok (.iload_n 1, 1) := by decide +kernel
theorem dX10_number_35 : decode mX10_number.2.1 35 = .ok (.iaload, 1) := by decide +kernel
theorem dX10_number_36 : decode mX10_number.2.1 36 = .ok (.invokestatic 187, 3) := by decide +kernel
theorem dX10_number_39 : decode mX10_number.2.1 39 = .ok (.goto 9, 3) := by decide +kernel
theorem dX10_number_42 : decode mX10_number.2.1 42 = .ok (.aload_n 0, 1) := by decide +kernel
theorem dX10_number_43 : decode mX10_number.2.1 43 = .ok (.getfield 37, 3) := by decide +kernel
theorem dX10_number_46 : decode mX10_number.2.1 46 = .ok (.iload_n 1, 1) := by decide +kernel
theorem dX10_number_47 : decode mX10_number.2.1 47 = .ok (.iaload, 1) := by decide +kernel
theorem dX10_number_48 : decode mX10_number.2.1 48 = .ok (.istore_n 3, 1) := by decide +kernel
theorem dX10_number_49 : decode mX10_number.2.1 49 = .ok (.iload_n 2, 1) := by decide +kernel
theorem dX10_number_50 : decode mX10_number.2.1 50 = .ok (.i2l, 1) := by decide +kernel
theorem dX10_number_51 : decode mX10_number.2.1 51 = .ok (.lconst 0, 1) := by decide +kernel
theorem dX10_number_52 : decode mX10_number.2.1 52 = .ok (.iload_n 3, 1) := by decide +kernel
theorem dX10_number_53 : decode mX10_number.2.1 53 = .ok (.iconst 1, 1) := by decide +kernel
theorem dX10_number_54 : decode mX10_number.2.1 54 = .ok (.isub, 1) := by decide +kernel
theorem dX10_number_55 : decode mX10_number.2.1 55 = .ok (.i2l, 1) := by decide +kernel
theorem dX10_number_56 : decode mX10_number.2.1 56 = .ok (.invokestatic 77, 3) := by decide +kernel
theorem dX10_number_59 : decode mX10_number.2.1 59 = .ok (.ifCond .eq 18, 3) := by decide +kernel
theorem dX10_number_62 : decode mX10_number.2.1 62 = .ok (.aload_n 0, 1) := by decide +kernel
theorem dX10_number_63 : decode mX10_number.2.1 63 = .ok (.getfield 40, 3) := by decide +kernel
theorem dX10_number_66 : decode mX10_number.2.1 66 = .ok (.bipush 20, 2) := by decide +kernel
theorem dX10_number_68 : decode mX10_number.2.1 68 = .ok (.iload_n 1, 1) := by decide +kernel
theorem dX10_number_69 : decode mX10_number.2.1 69 = .ok (.imul, 1) := by decide +kernel
theorem dX10_number_70 : decode mX10_number.2.1 70 = .ok (.iload_n 2, 1) := by decide +kernel
theorem dX10_number_71 : decode mX10_number.2.1 71 = .ok (.iadd, 1) := by decide +kernel
theorem dX10_number_72 : decode mX10_number.2.1 72 = .ok (.iaload, 1) := by decide +kernel
theorem dX10_number_73 : decode mX10_number.2.1 73 = .ok (.i2l, 1) := by decide +kernel
theorem dX10_number_74 : decode mX10_number.2.1 74 = .ok (.goto 6, 3) := by decide +kernel
theorem dX10_number_77 : decode mX10_number.2.1 77 = .ok (.ldc2_w 185, 3) := by decide +kernel
theorem dX10_number_80 : decode mX10_number.2.1 80 = .ok (.lreturn, 1) := by decide +kernel
theorem dX10_row_0 : decode mX10_row.2.1 0 = .ok (.iload_n 1, 1) := by decide +kernel
theorem dX10_row_1 : decode mX10_row.2.1 1 = .ok (.invokestatic 176, 3) := by decide +kernel
theorem dX10_row_4 : decode mX10_row.2.1 4 = .ok (.ifCond .eq 9, 3) := by decide +kernel
theorem dX10_row_7 : decode mX10_row.2.1 7 = .ok (.iload_n 2, 1) := by decide +kernel
theorem dX10_row_8 : decode mX10_row.2.1 8 = .ok (.bipush 20, 2) := by decide +kernel
theorem dX10_row_10 : decode mX10_row.2.1 10 = .ok (.if_icmp .le 5, 3) := by decide +kernel
theorem dX10_row_13 : decode mX10_row.2.1 13 = .ok (.iconst (-1), 1) := by decide +kernel
theorem dX10_row_14 : decode mX10_row.2.1 14 = .ok (.ireturn, 1) := by decide +kernel
theorem dX10_row_15 : decode mX10_row.2.1 15 = .ok (.iload_n 2, 1) := by decide +kernel
theorem dX10_row_16 : decode mX10_row.2.1 16 = .ok (.ifCond .ge 6, 3) := by decide +kernel
theorem dX10_row_19 : decode mX10_row.2.1 19 = .ok (.bipush (-14), 2) := by decide +kernel
theorem dX10_row_21 : decode mX10_row.2.1 21 = .ok (.ireturn, 1) := by decide +kernel
theorem dX10_row_22 : decode mX10_row.2.1 22 = .ok (.aload_n 0, 1) := by decide +kernel
theorem dX10_row_23 : decode mX10_row.2.1 23 = .ok (.getfield 34, 3) := by decide +kernel
theorem dX10_row_26 : decode mX10_row.2.1 26 = .ok (.iload_n 1, 1) := by decide +kernel
theorem dX10_row_27 : decode mX10_row.2.1 27 = .ok (.iconst 3, 1) := by decide +kernel
theorem dX10_row_28 : decode mX10_row.2.1 28 = .ok (.iastore, 1) := by decide +kernel
theorem dX10_row_29 : decode mX10_row.2.1 29 = .ok (.aload_n 0, 1) := by decide +kernel
theorem dX10_row_30 : decode mX10_row.2.1 30 = .ok (.getfield 37, 3) := by decide +kernel
theorem dX10_row_33 : decode mX10_row.2.1 33 = .ok (.iload_n 1, 1) := by decide +kernel
theorem dX10_row_34 : decode mX10_row.2.1 34 = .ok (.iload_n 2, 1) := by decide +kernel
theorem dX10_row_35 : decode mX10_row.2.1 35 = .ok (.iastore, 1) := by decide +kernel
theorem dX10_row_36 : decode mX10_row.2.1 36 = .ok (.iconst 0, 1) := by decide +kernel
theorem dX10_row_37 : decode mX10_row.2.1 37 = .ok (.istore_n 3, 1) := by decide +kernel
theorem dX10_row_38 : decode mX10_row.2.1 38 = .ok (.iload_n 3, 1) := by decide +kernel
theorem dX10_row_39 : decode mX10_row.2.1 39 = .ok (.bipush 20, 2) := by decide +kernel
theorem dX10_row_41 : decode mX10_row.2.1 41 = .ok (.if_icmp .ge 21, 3) := by decide +kernel
theorem dX10_row_44 : decode mX10_row.2.1 44 = .ok (.aload_n 0, 1) := by decide +kernel
theorem dX10_row_45 : decode mX10_row.2.1 45 = .ok (.getfield 40, 3) := by decide +kernel
theorem dX10_row_48 : decode mX10_row.2.1 48 = .ok (.bipush 20, 2) := by decide +kernel
theorem dX10_row_50 : decode mX10_row.2.1 50 = .ok (.iload_n 1, 1) := by decide +kernel
theorem dX10_row_51 : decode mX10_row.2.1 51 = .ok (.imul, 1) := by decide +kernel
theorem dX10_row_52 : decode mX10_row.2.1 52 = .ok (.iload_n 3, 1) := by decide +kernel
theorem dX10_row_53 : decode mX10_row.2.1 53 = .ok (.iadd, 1) := by decide +kernel
theorem dX10_row_54 : decode mX10_row.2.1 54 = .ok (.iconst 0, 1) := by decide +kernel
theorem dX10_row_55 : decode mX10_row.2.1 55 = .ok (.iastore, 1) := by decide +kernel
theorem dX10_row_56 : decode mX10_row.2.1 56 = .ok (.iinc 3 1, 3) := by decide +kernel
theorem dX10_row_59 : decode mX10_row.2.1 59 = .ok (.goto (-21), 3) := by decide +kernel
theorem dX10_row_62 : decode mX10_row.2.1 62 = .ok (.iload_n 2, 1) := by decide +kernel
theorem dX10_row_63 : decode mX10_row.2.1 63 = .ok (.ireturn, 1) := by decide +kernel
theorem dX10_noRow_0 : decode mX10_noRow.2.1 0 = .ok (.aload_n 0, 1) := by decide +kernel
theorem dX10_noRow_1 : decode mX10_noRow.2.1 1 = .ok (.getfield 34, 3) := by decide +kernel
theorem dX10_noRow_4 : decode mX10_noRow.2.1 4 = .ok (.iload_n 1, 1) := by decide +kernel
theorem dX10_noRow_5 : decode mX10_noRow.2.1 5 = .ok (.iaload, 1) := by decide +kernel
theorem dX10_noRow_6 : decode mX10_noRow.2.1 6 = .ok (.ifCond .ne 8, 3) := by decide +kernel
theorem dX10_noRow_9 : decode mX10_noRow.2.1 9 = .ok (.bipush (-11), 2) := by decide +kernel
theorem dX10_noRow_11 : decode mX10_noRow.2.1 11 = .ok (.goto 19, 3) := by decide +kernel
theorem dX10_noRow_14 : decode mX10_noRow.2.1 14 = .ok (.aload_n 0, 1) := by decide +kernel
theorem dX10_noRow_15 : decode mX10_noRow.2.1 15 = .ok (.getfield 34, 3) := by decide +kernel
theorem dX10_noRow_18 : decode mX10_noRow.2.1 18 = .ok (.iload_n 1, 1) := by decide +kernel
theorem dX10_noRow_19 : decode mX10_noRow.2.1 19 = .ok (.iaload, 1) := by decide +kernel
theorem dX10_noRow_20 : decode mX10_noRow.2.1 20 = .ok (.iconst 3, 1) := by decide +kernel
theorem dX10_noRow_21 : decode mX10_noRow.2.1 21 = .ok (.if_icmp .eq 8, 3) := by decide +kernel
theorem dX10_noRow_24 : decode mX10_noRow.2.1 24 = .ok (.bipush (-12), 2) := by decide +kernel
theorem dX10_noRow_26 : decode mX10_noRow.2.1 26 = .ok (.goto 4, 3) := by decide +kernel
theorem dX10_noRow_29 : decode mX10_noRow.2.1 29 = .ok (.iconst 0, 1) := by decide +kernel
theorem dX10_noRow_30 : decode mX10_noRow.2.1 30 = .ok (.ireturn, 1) := by decide +kernel
theorem dX10_set_0 : decode mX10_set.2.1 0 = .ok (.iload_n 1, 1) := by decide +kernel
theorem dX10_set_1 : decode mX10_set.2.1 1 = .ok (.invokestatic 176, 3) := by decide +kernel
theorem dX10_set_4 : decode mX10_set.2.1 4 = .ok (.ifCond .ne 5, 3) := by decide +kernel
theorem dX10_set_7 : decode mX10_set.2.1 7 = .ok (.iconst (-1), 1) := by decide +kernel
theorem dX10_set_8 : decode mX10_set.2.1 8 = .ok (.ireturn, 1) := by decide +kernel
theorem dX10_set_9 : decode mX10_set.2.1 9 = .ok (.aload_n 0, 1) := by decide +kernel
theorem dX10_set_10 : decode mX10_set.2.1 10 = .ok (.iload_n 1, 1) := by decide +kernel
theorem dX10_set_11 : decode mX10_set.2.1 11 = .ok (.invokevirtual 271, 3) := by decide +kernel
theorem dX10_set_14 : decode mX10_set.2.1 14 = .ok (.ifCond .eq 9, 3) := by decide +kernel
theorem dX10_set_17 : decode mX10_set.2.1 17 = .ok (.aload_n 0, 1) := by decide +kernel
theorem dX10_set_18 : decode mX10_set.2.1 18 = .ok (.iload_n 1, 1) := by decide +kernel
theorem dX10_set_19 : decode mX10_set.2.1 19 = .ok (.invokevirtual 271, 3) := by decide +kernel
theorem dX10_set_22 : decode mX10_set.2.1 22 = .ok (.ireturn, 1) := by decide +kernel
theorem dX10_set_23 : decode mX10_set.2.1 23 = .ok (.iload_n 2, 1) := by decide +kernel
theorem dX10_set_24 : decode mX10_set.2.1 24 = .ok (.i2l, 1) := by decide +kernel
theorem dX10_set_25 : decode mX10_set.2.1 25 = .ok (.lconst 0, 1) := by decide +kernel
theorem dX10_set_26 : decode mX10_set.2.1 26 = .ok (.aload_n 0, 1) := by decide +kernel
theorem dX10_set_27 : decode mX10_set.2.1 27 = .ok (.getfield 37, 3) := by decide +kernel
theorem dX10_set_30 : decode mX10_set.2.1 30 = .ok (.iload_n 1, 1) := by decide +kernel
theorem dX10_set_31 : decode mX10_set.2.1 31 = .ok (.iaload, 1) := by decide +kernel
theorem dX10_set_32 : decode mX10_set.2.1 32 = .ok (.iconst 1, 1) := by decide +kernel
theorem dX10_set_33 : decode mX10_set.2.1 33 = .ok (.isub, 1) := by decide +kernel
theorem dX10_set_34 : decode mX10_set.2.1 34 = .ok (.i2l, 1) := by decide +kernel
theorem dX10_set_35 : decode mX10_set.2.1 35 = .ok (.invokestatic 77, 3) := by decide +kernel
theorem dX10_set_38 : decode mX10_set.2.1 38 = .ok (.ifCond .ne 6, 3) := by decide +kernel
theorem dX10_set_41 : decode mX10_set.2.1 41 = .ok (.bipush (-13), 2) := by decide +kernel
theorem dX10_set_43 : decode mX10_set.2.1 43 = .ok (.ireturn, 1) := by decide +kernel
theorem dX10_set_44 : decode mX10_set.2.1 44 = .ok (.aload_n 0, 1) := by decide +kernel
theorem dX10_set_45 : decode mX10_set.2.1 45 = .ok (.getfield 40, 3) := by decide +kernel
theorem dX10_set_48 : decode mX10_set.2.1 48 = .ok (.bipush 20, 2) := by decide +kernel
theorem dX10_set_50 : decode mX10_set.2.1 50 = .ok (.iload_n 1, 1) := by decide +kernel
theorem dX10_set_51 : decode mX10_set.2.1 51 = .ok (.imul, 1) := by decide +kernel
theorem dX10_set_52 : decode mX10_set.2.1 52 = .ok (.iload_n 2, 1) := by decide +kernel
theorem dX10_set_53 : decode mX10_set.2.1 53 = .ok (.iadd, 1) := by decide +kernel
theorem dX10_set_54 : decode mX10_set.2.1 54 = .ok (.iload_n 3, 1) := by decide +kernel
theorem dX10_set_55 : decode mX10_set.2.1 55 = .ok (.iastore, 1) := by decide +kernel
theorem dX10_set_56 : decode mX10_set.2.1 56 = .ok (.iconst 1, 1) := by decide +kernel
theorem dX10_set_57 : decode mX10_set.2.1 57 = .ok (.ireturn, 1) := by decide +kernel
theorem dX10_judge_0 : decode mX10_judge.2.1 0 = .ok (.iload_n 1, 1) := by decide +kernel
theorem dX10_judge_1 : decode mX10_judge.2.1 1 = .ok (.invokestatic 176, 3) := by decide +kernel
theorem dX10_judge_4 : decode mX10_judge.2.1 4 = .ok (.ifCond .ne 5, 3) := by decide +kernel
theorem dX10_judge_7 : decode mX10_judge.2.1 7 = .ok (.iconst (-1), 1) := by decide +kernel
theorem dX10_judge_8 : decode mX10_judge.2.1 8 = .ok (.ireturn, 1) := by decide +kernel
theorem dX10_judge_9 : decode mX10_judge.2.1 9 = .ok (.aload_n 0, 1) := by decide +kernel
theorem dX10_judge_10 : decode mX10_judge.2.1 10 = .ok (.iload_n 1, 1) := by decide +kernel
theorem dX10_judge_11 : decode mX10_judge.2.1 11 = .ok (.invokevirtual 271, 3) := by decide +kernel
theorem dX10_judge_14 : decode mX10_judge.2.1 14 = .ok (.ifCond .eq 9, 3) := by decide +kernel
theorem dX10_judge_17 : decode mX10_judge.2.1 17 = .ok (.aload_n 0, 1) := by decide +kernel
theorem dX10_judge_18 : decode mX10_judge.2.1 18 = .ok (.iload_n 1, 1) := by decide +kernel
theorem dX10_judge_19 : decode mX10_judge.2.1 19 = .ok (.invokevirtual 271, 3) := by decide +kernel
theorem dX10_judge_22 : decode mX10_judge.2.1 22 = .ok (.ireturn, 1) := by decide +kernel
theorem dX10_judge_23 : decode mX10_judge.2.1 23 = .ok (.iconst 0, 1) := by decide +kernel
theorem dX10_judge_24 : decode mX10_judge.2.1 24 = .ok (.istore_n 2, 1) := by decide +kernel
theorem dX10_judge_25 : decode mX10_judge.2.1 25 = .ok (.iconst 0, 1) := by decide +kernel
theorem dX10_judge_26 : decode mX10_judge.2.1 26 = .ok (.istore_n 3, 1) := by decide +kernel
theorem dX10_judge_27 : decode mX10_judge.2.1 27 = .ok (.iload_n 3, 1) := by decide +kernel
theorem dX10_judge_28 : decode mX10_judge.2.1 28 = .ok (.aload_n 0, 1) := by decide +kernel
theorem dX10_judge_29 : decode mX10_judge.2.1 29 = .ok (.getfield 9, 3) := by decide +kernel
theorem dX10_judge_32 : decode mX10_judge.2.1 32 = .ok (.if_icmp .ge 70, 3) := by decide +kernel
theorem dX10_judge_35 : decode mX10_judge.2.1 35 = .ok (.iload_n 3, 1) := by decide +kernel
theorem dX10_judge_36 : decode mX10_judge.2.1 36 = .ok (.iconst 1, 1) := by decide +kernel
theorem dX10_judge_37 : decode mX10_judge.2.1 37 = .ok (.iadd, 1) := by decide +kernel
theorem dX10_judge_38 : decode mX10_judge.2.1 38 = .ok (.istore 4, 2) := by decide +kernel
theorem dX10_judge_40 : decode mX10_judge.2.1 40 = .ok (.iload 4, 2) := by decide +kernel
theorem dX10_judge_42 : decode mX10_judge.2.1 42 = .ok (.aload_n 0, 1) := by decide +kernel
theorem dX10_judge_43 : decode mX10_judge.2.1 43 = .ok (.getfield 9, 3) := by decide +kernel
theorem dX10_judge_46 : decode mX10_judge.2.1 46 = .ok (.if_icmp .ge 50, 3) := by decide +kernel
theorem dX10_judge_49 : decode mX10_judge.2.1 49 = .ok (.iload_n 2, 1) := by decide +kernel
theorem dX10_judge_50 : decode mX10_judge.2.1 50 = .ok (.aload_n 0, 1) := by decide +kernel
theorem dX10_judge_51 : decode mX10_judge.2.1 51 = .ok (.getfield 37, 3) := by decide +kernel
theorem dX10_judge_54 : decode mX10_judge.2.1 54 = .ok (.iload_n 1, 1) := by decide +kernel
theorem dX10_judge_55 : decode mX10_judge.2.1 55 = .ok (.iaload, 1) := by decide +kernel
theorem dX10_judge_56 : decode mX10_judge.2.1 56 = .ok (.if_icmp .ge 29, 3) := by decide +kernel
theorem dX10_judge_59 : decode mX10_judge.2.1 59 = .ok (.aload_n 0, 1) := by decide +kernel
theorem dX10_judge_60 : decode mX10_judge.2.1 60 = .ok (.getfield 40, 3) := by decide +kernel
theorem dX10_judge_63 : decode mX10_judge.2.1 63 = .ok (.bipush 20, 2) := by decide +kernel
theorem dX10_judge_65 : decode mX10_judge.2.1 65 = .ok (.iload_n 1, 1) := by decide +kernel
theorem dX10_judge_66 : decode mX10_judge.2.1 66 = .ok (.imul, 1) := by decide +kernel
theorem dX10_judge_67 : decode mX10_judge.2.1 67 = .ok (.iload_n 2, 1) := by decide +kernel
theorem dX10_judge_68 : decode mX10_judge.2.1 68 = .ok (.iadd, 1) := by decide +kernel
theorem dX10_judge_69 : decode mX10_judge.2.1 69 = .ok (.iaload, 1) := by decide +kernel
theorem dX10_judge_70 : decode mX10_judge.2.1 70 = .ok (.aload_n 0, 1) := by decide +kernel
theorem dX10_judge_71 : decode mX10_judge.2.1 71 = .ok (.getfield 15, 3) := by decide +kernel
theorem dX10_judge_74 : decode mX10_judge.2.1 74 = .ok (.bipush 6, 2) := by decide +kernel
theorem dX10_judge_76 : decode mX10_judge.2.1 76 = .ok (.iload_n 3, 1) := by decide +kernel
theorem dX10_judge_77 : decode mX10_judge.2.1 77 = .ok (.imul, 1) := by decide +kernel
theorem dX10_judge_78 : decode mX10_judge.2.1 78 = .ok (.iload 4, 2) := by decide +kernel
theorem dX10_judge_80 : decode mX10_judge.2.1 80 = .ok (.iadd, 1) := by decide +kernel
theorem dX10_judge_81 : decode mX10_judge.2.1 81 = .ok (.iaload, 1) := by decide +kernel
theorem dX10_judge_82 : decode mX10_judge.2.1 82 = .ok (.if_icmp .eq 5, 3) := by decide +kernel
theorem dX10_judge_85 : decode mX10_judge.2.1 85 = .ok (.iload_n 2, 1) := by decide +kernel
theorem dX10_judge_86 : decode mX10_judge.2.1 86 = .ok (.ireturn, 1) := by decide +kernel
theorem dX10_judge_87 : decode mX10_judge.2.1 87 = .ok (.iinc 2 1, 3) := by decide +kernel
theorem dX10_judge_90 : decode mX10_judge.2.1 90 = .ok (.iinc 4 1, 3) := by decide +kernel
theorem dX10_judge_93 : decode mX10_judge.2.1 93 = .ok (.goto (-53), 3) := by decide +kernel
theorem dX10_judge_96 : decode mX10_judge.2.1 96 = .ok (.iinc 3 1, 3) := by decide +kernel
theorem dX10_judge_99 : decode mX10_judge.2.1 99 = .ok (.goto (-72), 3) := by decide +kernel
theorem dX10_judge_102 : decode mX10_judge.2.1 102 = .ok (.aload_n 0, 1) := by decide +kernel
theorem dX10_judge_103 : decode mX10_judge.2.1 103 = .ok (.getfield 37, 3) := by decide +kernel
theorem dX10_judge_106 : decode mX10_judge.2.1 106 = .ok (.iload_n 1, 1) := by decide +kernel
theorem dX10_judge_107 : decode mX10_judge.2.1 107 = .ok (.iaload, 1) := by decide +kernel
theorem dX10_judge_108 : decode mX10_judge.2.1 108 = .ok (.iload_n 2, 1) := by decide +kernel
theorem dX10_judge_109 : decode mX10_judge.2.1 109 = .ok (.if_icmp .le 7, 3) := by decide +kernel
theorem dX10_judge_112 : decode mX10_judge.2.1 112 = .ok (.iload_n 2, 1) := by decide +kernel
theorem dX10_judge_113 : decode mX10_judge.2.1 113 = .ok (.goto 5, 3) := by decide +kernel
theorem dX10_judge_116 : decode mX10_judge.2.1 116 = .ok (.bipush (-2), 2) := by decide +kernel
theorem dX10_judge_118 : decode mX10_judge.2.1 118 = .ok (.ireturn, 1) := by decide +kernel
theorem dX10_image_0 : decode mX10_image.2.1 0 = .ok (.aload_n 0, 1) := by decide +kernel
theorem dX10_image_1 : decode mX10_image.2.1 1 = .ok (.iconst 1, 1) := by decide +kernel
theorem dX10_image_2 : decode mX10_image.2.1 2 = .ok (.putfield 274, 3) := by decide +kernel
theorem dX10_image_5 : decode mX10_image.2.1 5 = .ok (.aload_n 0, 1) := by decide +kernel
theorem dX10_image_6 : decode mX10_image.2.1 6 = .ok (.aload_n 0, 1) := by decide +kernel
theorem dX10_image_7 : decode mX10_image.2.1 7 = .ok (.getfield 9, 3) := by decide +kernel
theorem dX10_image_10 : decode mX10_image.2.1 10 = .ok (.putfield 277, 3) := by decide +kernel
theorem dX10_image_13 : decode mX10_image.2.1 13 = .ok (.aload_n 0, 1) := by decide +kernel
theorem dX10_image_14 : decode mX10_image.2.1 14 = .ok (.getfield 15, 3) := by decide +kernel
theorem dX10_image_17 : decode mX10_image.2.1 17 = .ok (.aload_n 0, 1) := by decide +kernel
theorem dX10_image_18 : decode mX10_image.2.1 18 = .ok (.getfield 43, 3) := by decide +kernel
theorem dX10_image_21 : decode mX10_image.2.1 21 = .ok (.invokestatic 96, 3) := by decide +kernel
theorem dX10_image_24 : decode mX10_image.2.1 24 = .ok (.aload_n 0, 1) := by decide +kernel
theorem dX10_image_25 : decode mX10_image.2.1 25 = .ok (.getfield 19, 3) := by decide +kernel
theorem dX10_image_28 : decode mX10_image.2.1 28 = .ok (.aload_n 0, 1) := by decide +kernel
theorem dX10_image_29 : decode mX10_image.2.1 29 = .ok (.getfield 46, 3) := by decide +kernel
theorem dX10_image_32 : decode mX10_image.2.1 32 = .ok (.invokestatic 96, 3) := by decide +kernel
theorem dX10_image_35 : decode mX10_image.2.1 35 = .ok (.aload_n 0, 1) := by decide +kernel
theorem dX10_image_36 : decode mX10_image.2.1 36 = .ok (.getfield 22, 3) := by decide +kernel
theorem dX10_image_39 : decode mX10_image.2.1 39 = .ok (.aload_n 0, 1) := by decide +kernel
theorem dX10_image_40 : decode mX10_image.2.1 40 = .ok (.getfield 49, 3) := by decide +kernel
theorem dX10_image_43 : decode mX10_image.2.1 43 = .ok (.invokestatic 96, 3) := by decide +kernel
theorem dX10_image_46 : decode mX10_image.2.1 46 = .ok (.aload_n 0, 1) := by decide +kernel
theorem dX10_image_47 : decode mX10_image.2.1 47 = .ok (.getfield 9, 3) := by decide +kernel
theorem dX10_image_50 : decode mX10_image.2.1 50 = .ok (.ireturn, 1) := by decide +kernel
theorem dX10_undo_0 : decode mX10_undo.2.1 0 = .ok (.aload_n 0, 1) := by decide +kernel
theorem dX10_undo_1 : decode mX10_undo.2.1 1 = .ok (.getfield 274, 3) := by decide +kernel
theorem dX10_undo_4 : decode mX10_undo.2.1 4 = .ok (.ifCond .ne 6, 3) := by decide +kernel
theorem dX10_undo_7 : decode mX10_undo.2.1 7 = .ok (.bipush (-5), 2) := by decide +kernel
theorem dX10_undo_9 : decode mX10_undo.2.1 9 = .ok (.ireturn, 1) := by decide +kernel
theorem dX10_undo_10 : decode mX10_undo.2.1 10 = .ok (.aload_n 0, 1) := by decide +kernel
theorem dX10_undo_11 : decode mX10_undo.2.1 11 = .ok (.aload_n 0, 1) := by decide +kernel
theorem dX10_undo_12 : decode mX10_undo.2.1 12 = .ok (.getfield 277, 3) := by decide +kernel
theorem dX10_undo_15 : decode mX10_undo.2.1 15 = .ok (.putfield 9, 3) := by decide +kernel
theorem dX10_undo_18 : decode mX10_undo.2.1 18 = .ok (.aload_n 0, 1) := by decide +kernel
theorem dX10_undo_19 : decode mX10_undo.2.1 19 = .ok (.getfield 43, 3) := by decide +kernel
theorem dX10_undo_22 : decode mX10_undo.2.1 22 = .ok (.aload_n 0, 1) := by decide +kernel
theorem dX10_undo_23 : decode mX10_undo.2.1 23 = .ok (.getfield 15, 3) := by decide +kernel
theorem dX10_undo_26 : decode mX10_undo.2.1 26 = .ok (.invokestatic 96, 3) := by decide +kernel
theorem dX10_undo_29 : decode mX10_undo.2.1 29 = .ok (.aload_n 0, 1) := by decide +kernel
theorem dX10_undo_30 : decode mX10_undo.2.1 30 = .ok (.getfield 46, 3) := by decide +kernel
theorem dX10_undo_33 : decode mX10_undo.2.1 33 = .ok (.aload_n 0, 1) := by decide +kernel
theorem dX10_undo_34 : decode mX10_undo.2.1 34 = .ok (.getfield 19, 3) := by decide +kernel
theorem dX10_undo_37 : decode mX10_undo.2.1 37 = .ok (.invokestatic 96, 3) := by decide +kernel
theorem dX10_undo_40 : decode mX10_undo.2.1 40 = .ok (.aload_n 0, 1) := by decide +kernel
theorem dX10_undo_41 : decode mX10_undo.2.1 41 = .ok (.getfield 49, 3) := by decide +kernel
theorem dX10_undo_44 : decode mX10_undo.2.1 44 = .ok (.aload_n 0, 1) := by decide +kernel
theorem dX10_undo_45 : decode mX10_undo.2.1 45 = .ok (.getfield 22, 3) := by decide +kernel
theorem dX10_undo_48 : decode mX10_undo.2.1 48 = .ok (.invokestatic 96, 3) := by decide +kernel
theorem dX10_undo_51 : decode mX10_undo.2.1 51 = .ok (.aload_n 0, 1) := by decide +kernel
theorem dX10_undo_52 : decode mX10_undo.2.1 52 = .ok (.iconst 0, 1) := by decide +kernel
theorem dX10_undo_53 : decode mX10_undo.2.1 53 = .ok (.putfield 100, 3) := by decide +kernel
theorem dX10_undo_56 : decode mX10_undo.2.1 56 = .ok (.aload_n 0, 1) := by decide +kernel
theorem dX10_undo_57 : decode mX10_undo.2.1 57 = .ok (.getfield 9, 3) := by decide +kernel
theorem dX10_undo_60 : decode mX10_undo.2.1 60 = .ok (.ireturn, 1) := by decide +kernel
theorem dX10_count_0 : decode mX10_count.2.1 0 = .ok (.iload_n 1, 1) := by decide +kernel
theorem dX10_count_1 : decode mX10_count.2.1 1 = .ok (.tableswitch 63 0 4 #[35, 40, 48, 53, 58], 35) := by decide +kernel
theorem dX10_count_36 : decode mX10_count.2.1 36 = .ok (.aload_n 0, 1) := by decide +kernel
theorem dX10_count_37 : decode mX10_count.2.1 37 = .ok (.getfield 9, 3) := by decide +kernel
theorem dX10_count_40 : decode mX10_count.2.1 40 = .ok (.ireturn, 1) := by decide +kernel
theorem dX10_count_41 : decode mX10_count.2.1 41 = .ok (.aload_n 0, 1) := by decide +kernel
theorem dX10_count_42 : decode mX10_count.2.1 42 = .ok (.getfield 9, 3) := by decide +kernel
theorem dX10_count_45 : decode mX10_count.2.1 45 = .ok (.invokestatic 187, 3) := by decide +kernel
theorem dX10_count_48 : decode mX10_count.2.1 48 = .ok (.ireturn, 1) := by decide +kernel
theorem dX10_count_49 : decode mX10_count.2.1 49 = .ok (.aload_n 0, 1) := by decide +kernel
theorem dX10_count_50 : decode mX10_count.2.1 50 = .ok (.invokevirtual 133, 3) := by decide +kernel
theorem dX10_count_53 : decode mX10_count.2.1 53 = .ok (.ireturn, 1) := by decide +kernel
theorem dX10_count_54 : decode mX10_count.2.1 54 = .ok (.aload_n 0, 1) := by decide +kernel
theorem dX10_count_55 : decode mX10_count.2.1 55 = .ok (.getfield 100, 3) := by decide +kernel
theorem dX10_count_58 : decode mX10_count.2.1 58 = .ok (.ireturn, 1) := by decide +kernel
theorem dX10_count_59 : decode mX10_count.2.1 59 = .ok (.aload_n 0, 1) := by decide +kernel
theorem dX10_count_60 : decode mX10_count.2.1 60 = .ok (.getfield 74, 3) := by decide +kernel
theorem dX10_count_63 : decode mX10_count.2.1 63 = .ok (.ireturn, 1) := by decide +kernel
theorem dX10_count_64 : decode mX10_count.2.1 64 = .ok (.iconst (-1), 1) := by decide +kernel
theorem dX10_count_65 : decode mX10_count.2.1 65 = .ok (.ireturn, 1) := by decide +kernel
theorem dJ9_floorMod_f86c9_0 : decode mJ9_floorMod_f86c9.2.1 0 = .ok (.lload_n 0, 1) := by decide +kernel
theorem dJ9_floorMod_f86c9_1 : decode mJ9_floorMod_f86c9.2.1 1 = .ok (.lload_n 2, 1) := by decide +kernel
theorem dJ9_floorMod_f86c9_2 : decode mJ9_floorMod_f86c9.2.1 2 = .ok (.lrem, 1) := by decide +kernel
theorem dJ9_floorMod_f86c9_3 : decode mJ9_floorMod_f86c9.2.1 3 = .ok (.lstore 4, 2) := by decide +kernel
theorem dJ9_floorMod_f86c9_5 : decode mJ9_floorMod_f86c9.2.1 5 = .ok (.lload_n 0, 1) := by decide +kernel
theorem dJ9_floorMod_f86c9_6 : decode mJ9_floorMod_f86c9.2.1 6 = .ok (.lload_n 2, 1) := by decide +kernel
theorem dJ9_floorMod_f86c9_7 : decode mJ9_floorMod_f86c9.2.1 7 = .ok (.lxor, 1) := by decide +kernel
theorem dJ9_floorMod_f86c9_8 : decode mJ9_floorMod_f86c9.2.1 8 = .ok (.lconst 0, 1) := by decide +kernel
theorem dJ9_floorMod_f86c9_9 : decode mJ9_floorMod_f86c9.2.1 9 = .ok (.lcmp, 1) := by decide +kernel
theorem dJ9_floorMod_f86c9_10 : decode mJ9_floorMod_f86c9.2.1 10 = .ok (.ifCond .ge 15, 3) := by decide +kernel
theorem dJ9_floorMod_f86c9_13 : decode mJ9_floorMod_f86c9.2.1 13 = .ok (.lload 4, 2) := by decide +kernel
theorem dJ9_floorMod_f86c9_15 : decode mJ9_floorMod_f86c9.2.1 15 = .ok (.lconst 0, 1) := by decide +kernel
theorem dJ9_floorMod_f86c9_16 : decode mJ9_floorMod_f86c9.2.1 16 = .ok (.lcmp, 1) := by decide +kernel
theorem dJ9_floorMod_f86c9_17 : decode mJ9_floorMod_f86c9.2.1 17 = .ok (.ifCond .eq 8, 3) := by decide +kernel
theorem dJ9_floorMod_f86c9_20 : decode mJ9_floorMod_f86c9.2.1 20 = .ok (.lload 4, 2) := by decide +kernel
theorem dJ9_floorMod_f86c9_22 : decode mJ9_floorMod_f86c9.2.1 22 = .ok (.lload_n 2, 1) := by decide +kernel
theorem dJ9_floorMod_f86c9_23 : decode mJ9_floorMod_f86c9.2.1 23 = .ok (.ladd, 1) := by decide +kernel
theorem dJ9_floorMod_f86c9_24 : decode mJ9_floorMod_f86c9.2.1 24 = .ok (.lreturn, 1) := by decide +kernel
theorem dJ9_floorMod_f86c9_25 : decode mJ9_floorMod_f86c9.2.1 25 = .ok (.lload 4, 2) := by decide +kernel
theorem dJ9_floorMod_f86c9_27 : decode mJ9_floorMod_f86c9.2.1 27 = .ok (.lreturn, 1) := by decide +kernel
theorem dL_law_0 : decode cL_law 0 = .ok (.new 7, 3) := by decide +kernel
theorem dL_law_3 : decode cL_law 3 = .ok (.dup, 1) := by decide +kernel
theorem dL_law_4 : decode cL_law 4 = .ok (.invokespecial 9, 3) := by decide +kernel
theorem dL_law_7 : decode cL_law 7 = .ok (.astore_n 1, 1) := by decide +kernel
theorem dL_law_8 : decode cL_law 8 = .ok (.new 10, 3) := by decide +kernel
theorem dL_law_11 : decode cL_law 11 = .ok (.dup, 1) := by decide +kernel
theorem dL_law_12 : decode cL_law 12 = .ok (.invokespecial 12, 3) := by decide +kernel
theorem dL_law_15 : decode cL_law 15 = .ok (.astore_n 2, 1) := by decide +kernel
theorem dL_law_16 : decode cL_law 16 = .ok (.iconst 0, 1) := by decide +kernel
theorem dL_law_17 : decode cL_law 17 = .ok (.istore_n 3, 1) := by decide +kernel
theorem dL_law_18 : decode cL_law 18 = .ok (.iload_n 3, 1) := by decide +kernel
theorem dL_law_19 : decode cL_law 19 = .ok (.aload_n 0, 1) := by decide +kernel
theorem dL_law_20 : decode cL_law 20 = .ok (.arraylength, 1) := by decide +kernel
theorem dL_law_21 : decode cL_law 21 = .ok (.iconst 4, 1) := by decide +kernel
theorem dL_law_22 : decode cL_law 22 = .ok (.isub, 1) := by decide +kernel
theorem dL_law_23 : decode cL_law 23 = .ok (.if_icmp .gt 1139, 3) := by decide +kernel
theorem dL_law_26 : decode cL_law 26 = .ok (.aload_n 0, 1) := by decide +kernel
theorem dL_law_27 : decode cL_law 27 = .ok (.iload_n 3, 1) := by decide +kernel
theorem dL_law_28 : decode cL_law 28 = .ok (.iaload, 1) := by decide +kernel
theorem dL_law_29 : decode cL_law 29 = .ok (.bipush 63, 2) := by decide +kernel
theorem dL_law_31 : decode cL_law 31 = .ok (.iand, 1) := by decide +kernel
theorem dL_law_32 : decode cL_law 32 = .ok (.tableswitch 1124 0 34 #[156, 179, 222, 255, 288, 301, 344, 357, 380, 393, 416, 439, 472, 515, 558, 591, 615, 648, 681, 714, 747, 781, 814, 827, 840, 863, 886, 909, 942, 976, 1009, 1052, 1075, 1088, 1101], 156) := by decide +kernel
theorem dL_law_188 : decode cL_law 188 = .ok (.aload_n 1, 1) := by decide +kernel
theorem dL_law_189 : decode cL_law 189 = .ok (.aload_n 0, 1) := by decide +kernel
theorem dL_law_190 : decode cL_law 190 = .ok (.iload_n 3, 1) := by decide +kernel
theorem dL_law_191 : decode cL_law 191 = .ok (.iconst 1, 1) := by decide +kernel
theorem dL_law_192 : decode cL_law 192 = .ok (.iadd, 1) := by decide +kernel
theorem dL_law_193 : decode cL_law 193 = .ok (.iaload, 1) := by decide +kernel
theorem dL_law_194 : decode cL_law 194 = .ok (.invokevirtual 13, 3) := by decide +kernel
theorem dL_law_197 : decode cL_law 197 = .ok (.aload_n 2, 1) := by decide +kernel
theorem dL_law_198 : decode cL_law 198 = .ok (.aload_n 0, 1) := by decide +kernel
theorem dL_law_199 : decode cL_law 199 = .ok (.iload_n 3, 1) := by decide +kernel
theorem dL_law_200 : decode cL_law 200 = .ok (.iconst 1, 1) := by decide +kernel
theorem dL_law_201 : decode cL_law 201 = .ok (.iadd, 1) := by decide +kernel
theorem dL_law_202 : decode cL_law 202 = .ok (.iaload, 1) := by decide +kernel
theorem dL_law_203 : decode cL_law 203 = .ok (.invokevirtual 17, 3) := by decide +kernel
theorem dL_law_206 : decode cL_law 206 = .ok (.if_icmp .eq 950, 3) := by decide +kernel
theorem dL_law_209 : decode cL_law 209 = .ok (.iconst 0, 1) := by decide +kernel
theorem dL_law_210 : decode cL_law 210 = .ok (.ireturn, 1) := by decide +kernel
theorem dL_law_211 : decode cL_law 211 = .ok (.aload_n 1, 1) := by decide +kernel
theorem dL_law_212 : decode cL_law 212 = .ok (.aload_n 0, 1) := by decide +kernel
theorem dL_law_213 : decode cL_law 213 = .ok (.iload_n 3, 1) := by decide +kernel
theorem dL_law_214 : decode cL_law 214 = .ok (.iconst 1, 1) := by decide +kernel
theorem dL_law_215 : decode cL_law 215 = .ok (.iadd, 1) := by decide +kernel
theorem dL_law_216 : decode cL_law 216 = .ok (.iaload, 1) := by decide +kernel
theorem dL_law_217 : decode cL_law 217 = .ok (.aload_n 0, 1) := by decide +kernel
theorem dL_law_218 : decode cL_law 218 = .ok (.iload_n 3, 1) := by decide +kernel
theorem dL_law_219 : decode cL_law 219 = .ok (.iconst 2, 1) := by decide +kernel
theorem dL_law_220 : decode cL_law 220 = .ok (.iadd, 1) := by decide +kernel
theorem dL_law_221 : decode cL_law 221 = .ok (.iaload, 1) := by decide +kernel
theorem dL_law_222 : decode cL_law 222 = .ok (.aload_n 0, 1) := by decide +kernel
theorem dL_law_223 : decode cL_law 223 = .ok (.iload_n 3, 1) := by decide +kernel
theorem dL_law_224 : decode cL_law 224 = .ok (.iconst 3, 1) := by decide +kernel
theorem dL_law_225 : decode cL_law 225 = .ok (.iadd, 1) := by decide +kernel
theorem dL_law_226 : decode cL_law 226 = .ok (.iaload, 1) := by decide +kernel
theorem dL_law_227 : decode cL_law 227 = .ok (.invokevirtual 18, 3) := by decide +kernel
theorem dL_law_230 : decode cL_law 230 = .ok (.aload_n 2, 1) := by decide +kernel
theorem dL_law_231 : decode cL_law 231 = .ok (.aload_n 0, 1) := by decide +kernel
theorem dL_law_232 : decode cL_law 232 = .ok (.iload_n 3, 1) := by decide +kernel
theorem dL_law_233 : decode cL_law 233 = .ok (.iconst 1, 1) := by decide +kernel
theorem dL_law_234 : decode cL_law 234 = .ok (.iadd, 1) := by decide +kernel
theorem dL_law_235 : decode cL_law 235 = .ok (.iaload, 1) := by decide +kernel
theorem dL_law_236 : decode cL_law 236 = .ok (.aload_n 0, 1) := by decide +kernel
theorem dL_law_237 : decode cL_law 237 = .ok (.iload_n 3, 1) := by decide +kernel
theorem dL_law_238 : decode cL_law 238 = .ok (.iconst 2, 1) := by decide +kernel
theorem dL_law_239 : decode cL_law 239 = .ok (.iadd, 1) := by decide +kernel
theorem dL_law_240 : decode cL_law 240 = .ok (.iaload, 1) := by decide +kernel
theorem dL_law_241 : decode cL_law 241 = .ok (.aload_n 0, 1) := by decide +kernel
theorem dL_law_242 : decode cL_law 242 = .ok (.iload_n 3, 1) := by decide +kernel
theorem dL_law_243 : decode cL_law 243 = .ok (.iconst 3, 1) := by decide +kernel
theorem dL_law_244 : decode cL_law 244 = .ok (.iadd, 1) := by decide +kernel
theorem dL_law_245 : decode cL_law 245 = .ok (.iaload, 1) := by decide +kernel
theorem dL_law_246 : decode cL_law 246 = .ok (.invokevirtual 22, 3) := by decide +kernel
theorem dL_law_249 : decode cL_law 249 = .ok (.if_icmp .eq 907, 3) := by decide +kernel
theorem dL_law_252 : decode cL_law 252 = .ok (.iconst 0, 1) := by decide +kernel
theorem dL_law_253 : decode cL_law 253 = .ok (.ireturn, 1) := by decide +kernel
theorem dL_law_254 : decode cL_law 254 = .ok (.aload_n 1, 1) := by decide +kernel
theorem dL_law_255 : decode cL_law 255 = .ok (.aload_n 0, 1) := by decide +kernel
theorem dL_law_256 : decode cL_law 256 = .ok (.iload_n 3, 1) := by decide +kernel
theorem dL_law_257 : decode cL_law 257 = .ok (.iconst 1, 1) := by decide +kernel
theorem dL_law_258 : decode cL_law 258 = .ok (.iadd, 1) := by decide +kernel
theorem dL_law_259 : decode cL_law 259 = .ok (.iaload, 1) := by decide +kernel
theorem dL_law_260 : decode cL_law 260 = .ok (.aload_n 0, 1) := by decide +kernel
theorem dL_law_261 : decode cL_law 261 = .ok (.iload_n 3, 1) := by decide +kernel
theorem dL_law_262 : decode cL_law 262 = .ok (.iconst 2, 1) := by decide +kernel
theorem dL_law_263 : decode cL_law 263 = .ok (.iadd, 1) := by decide +kernel
theorem dL_law_264 : decode cL_law 264 = .ok (.iaload, 1) := by decide +kernel
theorem dL_law_265 : decode cL_law 265 = .ok (.invokevirtual 23, 3) := by decide +kernel
theorem dL_law_268 : decode cL_law 268 = .ok (.aload_n 2, 1) := by decide +kernel
theorem dL_law_269 : decode cL_law 269 = .ok (.aload_n 0, 1) := by decide +kernel
theorem dL_law_270 : decode cL_law 270 = .ok (.iload_n 3, 1) := by decide +kernel
theorem dL_law_271 : decode cL_law 271 = .ok (.iconst 1, 1) := by decide +kernel
theorem dL_law_272 : decode cL_law 272 = .ok (.iadd, 1) := by decide +kernel
theorem dL_law_273 : decode cL_law 273 = .ok (.iaload, 1) := by decide +kernel
theorem dL_law_274 : decode cL_law 274 = .ok (.aload_n 0, 1) := by decide +kernel
theorem dL_law_275 : decode cL_law 275 = .ok (.iload_n 3, 1) := by decide +kernel
theorem dL_law_276 : decode cL_law 276 = .ok (.iconst 2, 1) := by decide +kernel
theorem dL_law_277 : decode cL_law 277 = .ok (.iadd, 1) := by decide +kernel
theorem dL_law_278 : decode cL_law 278 = .ok (.iaload, 1) := by decide +kernel
theorem dL_law_279 : decode cL_law 279 = .ok (.invokevirtual 27, 3) := by decide +kernel
theorem dL_law_282 : decode cL_law 282 = .ok (.if_icmp .eq 874, 3) := by decide +kernel
theorem dL_law_285 : decode cL_law 285 = .ok (.iconst 0, 1) := by decide +kernel
theorem dL_law_286 : decode cL_law 286 = .ok (.ireturn, 1) := by decide +kernel
theorem dL_law_287 : decode cL_law 287 = .ok (.aload_n 1, 1) := by decide +kernel
theorem dL_law_288 : decode cL_law 288 = .ok (.aload_n 0, 1) := by decide +kernel
theorem dL_law_289 : decode cL_law 289 = .ok (.iload_n 3, 1) := by decide +kernel
theorem dL_law_290 : decode cL_law 290 = .ok (.iconst 1, 1) := by decide +kernel
theorem dL_law_291 : decode cL_law 291 = .ok (.iadd, 1) := by decide +kernel
theorem dL_law_292 : decode cL_law 292 = .ok (.iaload, 1) := by decide +kernel
theorem dL_law_293 : decode cL_law 293 = .ok (.aload_n 0, 1) := by decide +kernel
theorem dL_law_294 : decode cL_law 294 = .ok (.iload_n 3, 1) := by decide +kernel
theorem dL_law_295 : decode cL_law 295 = .ok (.iconst 2, 1) := by decide +kernel
theorem dL_law_296 : decode cL_law 296 = .ok (.iadd, 1) := by decide +kernel
theorem dL_law_297 : decode cL_law 297 = .ok (.iaload, 1) := by decide +kernel
theorem dL_law_298 : decode cL_law 298 = .ok (.invokevirtual 28, 3) := by decide +kernel
theorem dL_law_301 : decode cL_law 301 = .ok (.aload_n 2, 1) := by decide +kernel
theorem dL_law_302 : decode cL_law 302 = .ok (.aload_n 0, 1) := by decide +kernel
theorem dL_law_303 : decode cL_law 303 = .ok (.iload_n 3, 1) := by decide +kernel
theorem dL_law_304 : decode cL_law 304 = .ok (.iconst 1, 1) := by decide +kernel
theorem dL_law_305 : decode cL_law 305 = .ok (.iadd, 1) := by decide +kernel
theorem dL_law_306 : decode cL_law 306 = .ok (.iaload, 1) := by decide +kernel
theorem dL_law_307 : decode cL_law 307 = .ok (.aload_n 0, 1) := by decide +kernel
theorem dL_law_308 : decode cL_law 308 = .ok (.iload_n 3, 1) := by decide +kernel
theorem dL_law_309 : decode cL_law 309 = .ok (.iconst 2, 1) := by decide +kernel
theorem dL_law_310 : decode cL_law 310 = .ok (.iadd, 1) := by decide +kernel
theorem dL_law_311 : decode cL_law 311 = .ok (.iaload, 1) := by decide +kernel
theorem dL_law_312 : decode cL_law 312 = .ok (.invokevirtual 31, 3) := by decide +kernel
theorem dL_law_315 : decode cL_law 315 = .ok (.if_icmp .eq 841, 3) := by decide +kernel
theorem dL_law_318 : decode cL_law 318 = .ok (.iconst 0, 1) := by decide +kernel
theorem dL_law_319 : decode cL_law 319 = .ok (.ireturn, 1) := by decide +kernel
theorem dL_law_320 : decode cL_law 320 = .ok (.aload_n 1, 1) := by decide +kernel
theorem dL_law_321 : decode cL_law 321 = .ok (.invokevirtual 32, 3) := by decide +kernel
theorem dL_law_324 : decode cL_law 324 = .ok (.aload_n 2, 1) := by decide +kernel
theorem dL_law_325 : decode cL_law 325 = .ok (.invokevirtual 36, 3) := by decide +kernel
theorem dL_law_328 : decode cL_law 328 = .ok (.if_icmp .eq 828, 3) := by decide +kernel
theorem dL_law_331 : decode cL_law 331 = .ok (.iconst 0, 1) := by decide +kernel
theorem dL_law_332 : decode cL_law 332 = .ok (.ireturn, 1) := by decide +kernel
theorem dL_law_333 : decode cL_law 333 = .ok (.aload_n 1, 1) := by decide +kernel
theorem dL_law_334 : decode cL_law 334 = .ok (.aload_n 0, 1) := by decide +kernel
theorem dL_law_335 : decode cL_law 335 = .ok (.iload_n 3, 1) := by decide +kernel
theorem dL_law_336 : decode cL_law 336 = .ok (.iconst 1, 1) := by decide +kernel
theorem dL_law_337 : decode cL_law 337 = .ok (.iadd, 1) := by decide +kernel
theorem dL_law_338 : decode cL_law 338 = .ok (.iaload, 1) := by decide +kernel
theorem dL_law_339 : decode cL_law 339 = .ok (.aload_n 0, 1) := by decide +kernel
theorem dL_law_340 : decode cL_law 340 = .ok (.iload_n 3, 1) := by decide +kernel
theorem dL_law_341 : decode cL_law 341 = .ok (.iconst 2, 1) := by decide +kernel
theorem dL_law_342 : decode cL_law 342 = .ok (.iadd, 1) := by decide +kernel
theorem dL_law_343 : decode cL_law 343 = .ok (.iaload, 1) := by decide +kernel
theorem dL_law_344 : decode cL_law 344 = .ok (.aload_n 0, 1) := by decide +kernel
theorem dL_law_345 : decode cL_law 345 = .ok (.iload_n 3, 1) := by decide +kernel
theorem dL_law_346 : decode cL_law 346 = .ok (.iconst 3, 1) := by decide +kernel
theorem dL_law_347 : decode cL_law 347 = .ok (.iadd, 1) := by decide +kernel
theorem dL_law_348 : decode cL_law 348 = .ok (.iaload, 1) := by decide +kernel
theorem dL_law_349 : decode cL_law 349 = .ok (.invokevirtual 37, 3) := by decide +kernel
theorem dL_law_352 : decode cL_law 352 = .ok (.aload_n 2, 1) := by decide +kernel
theorem dL_law_353 : decode cL_law 353 = .ok (.aload_n 0, 1) := by decide +kernel
theorem dL_law_354 : decode cL_law 354 = .ok (.iload_n 3, 1) := by decide +kernel
theorem dL_law_355 : decode cL_law 355 = .ok (.iconst 1, 1) := by decide +kernel
theorem dL_law_356 : decode cL_law 356 = .ok (.iadd, 1) := by decide +kernel
theorem dL_law_357 : decode cL_law 357 = .ok (.iaload, 1) := by decide +kernel
theorem dL_law_358 : decode cL_law 358 = .ok (.aload_n 0, 1) := by decide +kernel
theorem dL_law_359 : decode cL_law 359 = .ok (.iload_n 3, 1) := by decide +kernel
theorem dL_law_360 : decode cL_law 360 = .ok (.iconst 2, 1) := by decide +kernel
theorem dL_law_361 : decode cL_law 361 = .ok (.iadd, 1) := by decide +kernel
theorem dL_law_362 : decode cL_law 362 = .ok (.iaload, 1) := by decide +kernel
theorem dL_law_363 : decode cL_law 363 = .ok (.aload_n 0, 1) := by decide +kernel
theorem dL_law_364 : decode cL_law 364 = .ok (.iload_n 3, 1) := by decide +kernel
theorem dL_law_365 : decode cL_law 365 = .ok (.iconst 3, 1) := by decide +kernel
theorem dL_law_366 : decode cL_law 366 = .ok (.iadd, 1) := by decide +kernel
theorem dL_law_367 : decode cL_law 367 = .ok (.iaload, 1) := by decide +kernel
theorem dL_law_368 : decode cL_law 368 = .ok (.invokevirtual 40, 3) := by decide +kernel
theorem dL_law_371 : decode cL_law 371 = .ok (.if_icmp .eq 785, 3) := by decide +kernel
theorem dL_law_374 : decode cL_law 374 = .ok (.iconst 0, 1) := by decide +kernel
theorem dL_law_375 : decode cL_law 375 = .ok (.ireturn, 1) := by decide +kernel
theorem dL_law_376 : decode cL_law 376 = .ok (.aload_n 1, 1) := by decide +kernel
theorem dL_law_377 : decode cL_law 377 = .ok (.invokevirtual 41, 3) := by decide +kernel
theorem dL_law_380 : decode cL_law 380 = .ok (.aload_n 2, 1) := by decide +kernel
theorem dL_law_381 : decode cL_law 381 = .ok (.invokevirtual 44, 3) := by decide +kernel
theorem dL_law_384 : decode cL_law 384 = .ok (.if_icmp .eq 772, 3) := by decide +kernel
theorem dL_law_387 : decode cL_law 387 = .ok (.iconst 0, 1) := by decide +kernel
theorem dL_law_388 : decode cL_law 388 = .ok (.ireturn, 1) := by decide +kernel
theorem dL_law_389 : decode cL_law 389 = .ok (.aload_n 1, 1) := by decide +kernel
theorem dL_law_390 : decode cL_law 390 = .ok (.aload_n 0, 1) := by decide +kernel
theorem dL_law_391 : decode cL_law 391 = .ok (.iload_n 3, 1) := by decide +kernel
theorem dL_law_392 : decode cL_law 392 = .ok (.iconst 1, 1) := by decide +kernel
theorem dL_law_393 : decode cL_law 393 = .ok (.iadd, 1) := by decide +kernel
theorem dL_law_394 : decode cL_law 394 = .ok (.iaload, 1) := by decide +kernel
theorem dL_law_395 : decode cL_law 395 = .ok (.invokevirtual 45, 3) := by decide +kernel
theorem dL_law_398 : decode cL_law 398 = .ok (.aload_n 2, 1) := by decide +kernel
theorem dL_law_399 : decode cL_law 399 = .ok (.aload_n 0, 1) := by decide +kernel
theorem dL_law_400 : decode cL_law 400 = .ok (.iload_n 3, 1) := by decide +kernel
theorem dL_law_401 : decode cL_law 401 = .ok (.iconst 1, 1) := by decide +kernel
theorem dL_law_402 : decode cL_law 402 = .ok (.iadd, 1) := by decide +kernel
theorem dL_law_403 : decode cL_law 403 = .ok (.iaload, 1) := by decide +kernel
theorem dL_law_404 : decode cL_law 404 = .ok (.invokevirtual 48, 3) := by decide +kernel
theorem dL_law_407 : decode cL_law 407 = .ok (.if_icmp .eq 749, 3) := by decide +kernel
theorem dL_law_410 : decode cL_law 410 = .ok (.iconst 0, 1) := by decide +kernel
theorem dL_law_411 : decode cL_law 411 = .ok (.ireturn, 1) := by decide +kernel
theorem dL_law_412 : decode cL_law 412 = .ok (.aload_n 1, 1) := by decide +kernel
theorem dL_law_413 : decode cL_law 413 = .ok (.invokevirtual 49, 3) := by decide +kernel
theorem dL_law_416 : decode cL_law 416 = .ok (.aload_n 2, 1) := by decide +kernel
theorem dL_law_417 : decode cL_law 417 = .ok (.invokevirtual 52, 3) := by decide +kernel
theorem dL_law_420 : decode cL_law 420 = .ok (.if_icmp .eq 736, 3) := by decide +kernel
theorem dL_law_423 : decode cL_law 423 = .ok (.iconst 0, 1) := by decide +kernel
theorem dL_law_424 : decode cL_law 424 = .ok (.ireturn, 1) := by decide +kernel
theorem dL_law_425 : decode cL_law 425 = .ok (.aload_n 1, 1) := by decide +kernel
theorem dL_law_426 : decode cL_law 426 = .ok (.aload_n 0, 1) := by decide +kernel
theorem dL_law_427 : decode cL_law 427 = .ok (.iload_n 3, 1) := by decide +kernel
theorem dL_law_428 : decode cL_law 428 = .ok (.iconst 1, 1) := by decide +kernel
theorem dL_law_429 : decode cL_law 429 = .ok (.iadd, 1) := by decide +kernel
theorem dL_law_430 : decode cL_law 430 = .ok (.iaload, 1) := by decide +kernel
theorem dL_law_431 : decode cL_law 431 = .ok (.invokevirtual 53, 3) := by decide +kernel
theorem dL_law_434 : decode cL_law 434 = .ok (.aload_n 2, 1) := by decide +kernel
theorem dL_law_435 : decode cL_law 435 = .ok (.aload_n 0, 1) := by decide +kernel
theorem dL_law_436 : decode cL_law 436 = .ok (.iload_n 3, 1) := by decide +kernel
theorem dL_law_437 : decode cL_law 437 = .ok (.iconst 1, 1) := by decide +kernel
theorem dL_law_438 : decode cL_law 438 = .ok (.iadd, 1) := by decide +kernel
theorem dL_law_439 : decode cL_law 439 = .ok (.iaload, 1) := by decide +kernel
theorem dL_law_440 : decode cL_law 440 = .ok (.invokevirtual 56, 3) := by decide +kernel
theorem dL_law_443 : decode cL_law 443 = .ok (.if_icmp .eq 713, 3) := by decide +kernel
theorem dL_law_446 : decode cL_law 446 = .ok (.iconst 0, 1) := by decide +kernel
theorem dL_law_447 : decode cL_law 447 = .ok (.ireturn, 1) := by decide +kernel
theorem dL_law_448 : decode cL_law 448 = .ok (.aload_n 1, 1) := by decide +kernel
theorem dL_law_449 : decode cL_law 449 = .ok (.aload_n 0, 1) := by decide +kernel
theorem dL_law_450 : decode cL_law 450 = .ok (.iload_n 3, 1) := by decide +kernel
theorem dL_law_451 : decode cL_law 451 = .ok (.iconst 1, 1) := by decide +kernel
theorem dL_law_452 : decode cL_law 452 = .ok (.iadd, 1) := by decide +kernel
theorem dL_law_453 : decode cL_law 453 = .ok (.iaload, 1) := by decide +kernel
theorem dL_law_454 : decode cL_law 454 = .ok (.invokevirtual 57, 3) := by decide +kernel
theorem dL_law_457 : decode cL_law 457 = .ok (.aload_n 2, 1) := by decide +kernel
theorem dL_law_458 : decode cL_law 458 = .ok (.aload_n 0, 1) := by decide +kernel
theorem dL_law_459 : decode cL_law 459 = .ok (.iload_n 3, 1) := by decide +kernel
theorem dL_law_460 : decode cL_law 460 = .ok (.iconst 1, 1) := by decide +kernel
theorem dL_law_461 : decode cL_law 461 = .ok (.iadd, 1) := by decide +kernel
theorem dL_law_462 : decode cL_law 462 = .ok (.iaload, 1) := by decide +kernel
theorem dL_law_463 : decode cL_law 463 = .ok (.invokevirtual 60, 3) := by decide +kernel
theorem dL_law_466 : decode cL_law 466 = .ok (.if_icmp .eq 690, 3) := by decide +kernel
theorem dL_law_469 : decode cL_law 469 = .ok (.iconst 0, 1) := by decide +kernel
theorem dL_law_470 : decode cL_law 470 = .ok (.ireturn, 1) := by decide +kernel
theorem dL_law_471 : decode cL_law 471 = .ok (.aload_n 1, 1) := by decide +kernel
theorem dL_law_472 : decode cL_law 472 = .ok (.aload_n 0, 1) := by decide +kernel
theorem dL_law_473 : decode cL_law 473 = .ok (.iload_n 3, 1) := by decide +kernel
theorem dL_law_474 : decode cL_law 474 = .ok (.iconst 1, 1) := by decide +kernel
theorem dL_law_475 : decode cL_law 475 = .ok (.iadd, 1) := by decide +kernel
theorem dL_law_476 : decode cL_law 476 = .ok (.iaload, 1) := by decide +kernel
theorem dL_law_477 : decode cL_law 477 = .ok (.aload_n 0, 1) := by decide +kernel
theorem dL_law_478 : decode cL_law 478 = .ok (.iload_n 3, 1) := by decide +kernel
theorem dL_law_479 : decode cL_law 479 = .ok (.iconst 2, 1) := by decide +kernel
theorem dL_law_480 : decode cL_law 480 = .ok (.iadd, 1) := by decide +kernel
theorem dL_law_481 : decode cL_law 481 = .ok (.iaload, 1) := by decide +kernel
theorem dL_law_482 : decode cL_law 482 = .ok (.invokevirtual 61, 3) := by decide +kernel
theorem dL_law_485 : decode cL_law 485 = .ok (.aload_n 2, 1) := by decide +kernel
theorem dL_law_486 : decode cL_law 486 = .ok (.aload_n 0, 1) := by decide +kernel
theorem dL_law_487 : decode cL_law 487 = .ok (.iload_n 3, 1) := by decide +kernel
theorem dL_law_488 : decode cL_law 488 = .ok (.iconst 1, 1) := by decide +kernel
theorem dL_law_489 : decode cL_law 489 = .ok (.iadd, 1) := by decide +kernel
theorem dL_law_490 : decode cL_law 490 = .ok (.iaload, 1) := by decide +kernel
theorem dL_law_491 : decode cL_law 491 = .ok (.aload_n 0, 1) := by decide +kernel
theorem dL_law_492 : decode cL_law 492 = .ok (.iload_n 3, 1) := by decide +kernel
theorem dL_law_493 : decode cL_law 493 = .ok (.iconst 2, 1) := by decide +kernel
theorem dL_law_494 : decode cL_law 494 = .ok (.iadd, 1) := by decide +kernel
theorem dL_law_495 : decode cL_law 495 = .ok (.iaload, 1) := by decide +kernel
theorem dL_law_496 : decode cL_law 496 = .ok (.invokevirtual 64, 3) := by decide +kernel
theorem dL_law_499 : decode cL_law 499 = .ok (.if_icmp .eq 657, 3) := by decide +kernel
theorem dL_law_502 : decode cL_law 502 = .ok (.iconst 0, 1) := by decide +kernel
theorem dL_law_503 : decode cL_law 503 = .ok (.ireturn, 1) := by decide +kernel
theorem dL_law_504 : decode cL_law 504 = .ok (.aload_n 1, 1) := by decide +kernel
theorem dL_law_505 : decode cL_law 505 = .ok (.aload_n 0, 1) := by decide +kernel
theorem dL_law_506 : decode cL_law 506 = .ok (.iload_n 3, 1) := by decide +kernel
theorem dL_law_507 : decode cL_law 507 = .ok (.iconst 1, 1) := by decide +kernel
theorem dL_law_508 : decode cL_law 508 = .ok (.iadd, 1) := by decide +kernel
theorem dL_law_509 : decode cL_law 509 = .ok (.iaload, 1) := by decide +kernel
theorem dL_law_510 : decode cL_law 510 = .ok (.aload_n 0, 1) := by decide +kernel
theorem dL_law_511 : decode cL_law 511 = .ok (.iload_n 3, 1) := by decide +kernel
theorem dL_law_512 : decode cL_law 512 = .ok (.iconst 2, 1) := by decide +kernel
theorem dL_law_513 : decode cL_law 513 = .ok (.iadd, 1) := by decide +kernel
theorem dL_law_514 : decode cL_law 514 = .ok (.iaload, 1) := by decide +kernel
theorem dL_law_515 : decode cL_law 515 = .ok (.aload_n 0, 1) := by decide +kernel
theorem dL_law_516 : decode cL_law 516 = .ok (.iload_n 3, 1) := by decide +kernel
theorem dL_law_517 : decode cL_law 517 = .ok (.iconst 3, 1) := by decide +kernel
theorem dL_law_518 : decode cL_law 518 = .ok (.iadd, 1) := by decide +kernel
theorem dL_law_519 : decode cL_law 519 = .ok (.iaload, 1) := by decide +kernel
theorem dL_law_520 : decode cL_law 520 = .ok (.invokevirtual 65, 3) := by decide +kernel
theorem dL_law_523 : decode cL_law 523 = .ok (.aload_n 2, 1) := by decide +kernel
theorem dL_law_524 : decode cL_law 524 = .ok (.aload_n 0, 1) := by decide +kernel
theorem dL_law_525 : decode cL_law 525 = .ok (.iload_n 3, 1) := by decide +kernel
theorem dL_law_526 : decode cL_law 526 = .ok (.iconst 1, 1) := by decide +kernel
theorem dL_law_527 : decode cL_law 527 = .ok (.iadd, 1) := by decide +kernel
theorem dL_law_528 : decode cL_law 528 = .ok (.iaload, 1) := by decide +kernel
theorem dL_law_529 : decode cL_law 529 = .ok (.aload_n 0, 1) := by decide +kernel
theorem dL_law_530 : decode cL_law 530 = .ok (.iload_n 3, 1) := by decide +kernel
theorem dL_law_531 : decode cL_law 531 = .ok (.iconst 2, 1) := by decide +kernel
theorem dL_law_532 : decode cL_law 532 = .ok (.iadd, 1) := by decide +kernel
theorem dL_law_533 : decode cL_law 533 = .ok (.iaload, 1) := by decide +kernel
theorem dL_law_534 : decode cL_law 534 = .ok (.aload_n 0, 1) := by decide +kernel
theorem dL_law_535 : decode cL_law 535 = .ok (.iload_n 3, 1) := by decide +kernel
theorem dL_law_536 : decode cL_law 536 = .ok (.iconst 3, 1) := by decide +kernel
theorem dL_law_537 : decode cL_law 537 = .ok (.iadd, 1) := by decide +kernel
theorem dL_law_538 : decode cL_law 538 = .ok (.iaload, 1) := by decide +kernel
theorem dL_law_539 : decode cL_law 539 = .ok (.invokevirtual 68, 3) := by decide +kernel
theorem dL_law_542 : decode cL_law 542 = .ok (.if_icmp .eq 614, 3) := by decide +kernel
theorem dL_law_545 : decode cL_law 545 = .ok (.iconst 0, 1) := by decide +kernel
theorem dL_law_546 : decode cL_law 546 = .ok (.ireturn, 1) := by decide +kernel
theorem dL_law_547 : decode cL_law 547 = .ok (.aload_n 1, 1) := by decide +kernel
theorem dL_law_548 : decode cL_law 548 = .ok (.aload_n 0, 1) := by decide +kernel
theorem dL_law_549 : decode cL_law 549 = .ok (.iload_n 3, 1) := by decide +kernel
theorem dL_law_550 : decode cL_law 550 = .ok (.iconst 1, 1) := by decide +kernel
theorem dL_law_551 : decode cL_law 551 = .ok (.iadd, 1) := by decide +kernel
theorem dL_law_552 : decode cL_law 552 = .ok (.iaload, 1) := by decide +kernel
theorem dL_law_553 : decode cL_law 553 = .ok (.aload_n 0, 1) := by decide +kernel
theorem dL_law_554 : decode cL_law 554 = .ok (.iload_n 3, 1) := by decide +kernel
theorem dL_law_555 : decode cL_law 555 = .ok (.iconst 2, 1) := by decide +kernel
theorem dL_law_556 : decode cL_law 556 = .ok (.iadd, 1) := by decide +kernel
theorem dL_law_557 : decode cL_law 557 = .ok (.iaload, 1) := by decide +kernel
theorem dL_law_558 : decode cL_law 558 = .ok (.aload_n 0, 1) := by decide +kernel
theorem dL_law_559 : decode cL_law 559 = .ok (.iload_n 3, 1) := by decide +kernel
theorem dL_law_560 : decode cL_law 560 = .ok (.iconst 3, 1) := by decide +kernel
theorem dL_law_561 : decode cL_law 561 = .ok (.iadd, 1) := by decide +kernel
theorem dL_law_562 : decode cL_law 562 = .ok (.iaload, 1) := by decide +kernel
theorem dL_law_563 : decode cL_law 563 = .ok (.invokevirtual 69, 3) := by decide +kernel
theorem dL_law_566 : decode cL_law 566 = .ok (.aload_n 2, 1) := by decide +kernel
theorem dL_law_567 : decode cL_law 567 = .ok (.aload_n 0, 1) := by decide +kernel
theorem dL_law_568 : decode cL_law 568 = .ok (.iload_n 3, 1) := by decide +kernel
theorem dL_law_569 : decode cL_law 569 = .ok (.iconst 1, 1) := by decide +kernel
theorem dL_law_570 : decode cL_law 570 = .ok (.iadd, 1) := by decide +kernel
theorem dL_law_571 : decode cL_law 571 = .ok (.iaload, 1) := by decide +kernel
theorem dL_law_572 : decode cL_law 572 = .ok (.aload_n 0, 1) := by decide +kernel
theorem dL_law_573 : decode cL_law 573 = .ok (.iload_n 3, 1) := by decide +kernel
theorem dL_law_574 : decode cL_law 574 = .ok (.iconst 2, 1) := by decide +kernel
theorem dL_law_575 : decode cL_law 575 = .ok (.iadd, 1) := by decide +kernel
theorem dL_law_576 : decode cL_law 576 = .ok (.iaload, 1) := by decide +kernel
theorem dL_law_577 : decode cL_law 577 = .ok (.aload_n 0, 1) := by decide +kernel
theorem dL_law_578 : decode cL_law 578 = .ok (.iload_n 3, 1) := by decide +kernel
theorem dL_law_579 : decode cL_law 579 = .ok (.iconst 3, 1) := by decide +kernel
theorem dL_law_580 : decode cL_law 580 = .ok (.iadd, 1) := by decide +kernel
theorem dL_law_581 : decode cL_law 581 = .ok (.iaload, 1) := by decide +kernel
theorem dL_law_582 : decode cL_law 582 = .ok (.invokevirtual 72, 3) := by decide +kernel
theorem dL_law_585 : decode cL_law 585 = .ok (.if_icmp .eq 571, 3) := by decide +kernel
theorem dL_law_588 : decode cL_law 588 = .ok (.iconst 0, 1) := by decide +kernel
theorem dL_law_589 : decode cL_law 589 = .ok (.ireturn, 1) := by decide +kernel
theorem dL_law_590 : decode cL_law 590 = .ok (.aload_n 1, 1) := by decide +kernel
theorem dL_law_591 : decode cL_law 591 = .ok (.aload_n 0, 1) := by decide +kernel
theorem dL_law_592 : decode cL_law 592 = .ok (.iload_n 3, 1) := by decide +kernel
theorem dL_law_593 : decode cL_law 593 = .ok (.iconst 1, 1) := by decide +kernel
theorem dL_law_594 : decode cL_law 594 = .ok (.iadd, 1) := by decide +kernel
theorem dL_law_595 : decode cL_law 595 = .ok (.iaload, 1) := by decide +kernel
theorem dL_law_596 : decode cL_law 596 = .ok (.aload_n 0, 1) := by decide +kernel
theorem dL_law_597 : decode cL_law 597 = .ok (.iload_n 3, 1) := by decide +kernel
theorem dL_law_598 : decode cL_law 598 = .ok (.iconst 2, 1) := by decide +kernel
theorem dL_law_599 : decode cL_law 599 = .ok (.iadd, 1) := by decide +kernel
theorem dL_law_600 : decode cL_law 600 = .ok (.iaload, 1) := by decide +kernel
theorem dL_law_601 : decode cL_law 601 = .ok (.invokevirtual 73, 3) := by decide +kernel
theorem dL_law_604 : decode cL_law 604 = .ok (.aload_n 2, 1) := by decide +kernel
theorem dL_law_605 : decode cL_law 605 = .ok (.aload_n 0, 1) := by decide +kernel
theorem dL_law_606 : decode cL_law 606 = .ok (.iload_n 3, 1) := by decide +kernel
theorem dL_law_607 : decode cL_law 607 = .ok (.iconst 1, 1) := by decide +kernel
theorem dL_law_608 : decode cL_law 608 = .ok (.iadd, 1) := by decide +kernel
theorem dL_law_609 : decode cL_law 609 = .ok (.iaload, 1) := by decide +kernel
theorem dL_law_610 : decode cL_law 610 = .ok (.aload_n 0, 1) := by decide +kernel
theorem dL_law_611 : decode cL_law 611 = .ok (.iload_n 3, 1) := by decide +kernel
theorem dL_law_612 : decode cL_law 612 = .ok (.iconst 2, 1) := by decide +kernel
theorem dL_law_613 : decode cL_law 613 = .ok (.iadd, 1) := by decide +kernel
theorem dL_law_614 : decode cL_law 614 = .ok (.iaload, 1) := by decide +kernel
theorem dL_law_615 : decode cL_law 615 = .ok (.invokevirtual 76, 3) := by decide +kernel
theorem dL_law_618 : decode cL_law 618 = .ok (.if_icmp .eq 538, 3) := by decide +kernel
theorem dL_law_621 : decode cL_law 621 = .ok (.iconst 0, 1) := by decide +kernel
theorem dL_law_622 : decode cL_law 622 = .ok (.ireturn, 1) := by decide +kernel
theorem dL_law_623 : decode cL_law 623 = .ok (.aload_n 1, 1) := by decide +kernel
theorem dL_law_624 : decode cL_law 624 = .ok (.aload_n 0, 1) := by decide +kernel
theorem dL_law_625 : decode cL_law 625 = .ok (.iload_n 3, 1) := by decide +kernel
theorem dL_law_626 : decode cL_law 626 = .ok (.iconst 1, 1) := by decide +kernel
theorem dL_law_627 : decode cL_law 627 = .ok (.iadd, 1) := by decide +kernel
theorem dL_law_628 : decode cL_law 628 = .ok (.iaload, 1) := by decide +kernel
theorem dL_law_629 : decode cL_law 629 = .ok (.invokevirtual 77, 3) := by decide +kernel
theorem dL_law_632 : decode cL_law 632 = .ok (.aload_n 2, 1) := by decide +kernel
theorem dL_law_633 : decode cL_law 633 = .ok (.aload_n 0, 1) := by decide +kernel
theorem dL_law_634 : decode cL_law 634 = .ok (.iload_n 3, 1) := by decide +kernel
theorem dL_law_635 : decode cL_law 635 = .ok (.iconst 1, 1) := by decide +kernel
theorem dL_law_636 : decode cL_law 636 = .ok (.iadd, 1) := by decide +kernel
theorem dL_law_637 : decode cL_law 637 = .ok (.iaload, 1) := by decide +kernel
theorem dL_law_638 : decode cL_law 638 = .ok (.invokevirtual 81, 3) := by decide +kernel
theorem dL_law_641 : decode cL_law 641 = .ok (.lcmp, 1) := by decide +kernel
theorem dL_law_642 : decode cL_law 642 = .ok (.ifCond .eq 514, 3) := by decide +kernel
theorem dL_law_645 : decode cL_law 645 = .ok (.iconst 0, 1) := by decide +kernel
theorem dL_law_646 : decode cL_law 646 = .ok (.ireturn, 1) := by decide +kernel
theorem dL_law_647 : decode cL_law 647 = .ok (.aload_n 1, 1) := by decide +kernel
theorem dL_law_648 : decode cL_law 648 = .ok (.aload_n 0, 1) := by decide +kernel
theorem dL_law_649 : decode cL_law 649 = .ok (.iload_n 3, 1) := by decide +kernel
theorem dL_law_650 : decode cL_law 650 = .ok (.iconst 1, 1) := by decide +kernel
theorem dL_law_651 : decode cL_law 651 = .ok (.iadd, 1) := by decide +kernel
theorem dL_law_652 : decode cL_law 652 = .ok (.iaload, 1) := by decide +kernel
theorem dL_law_653 : decode cL_law 653 = .ok (.aload_n 0, 1) := by decide +kernel
theorem dL_law_654 : decode cL_law 654 = .ok (.iload_n 3, 1) := by decide +kernel
theorem dL_law_655 : decode cL_law 655 = .ok (.iconst 2, 1) := by decide +kernel
theorem dL_law_656 : decode cL_law 656 = .ok (.iadd, 1) := by decide +kernel
theorem dL_law_657 : decode cL_law 657 = .ok (.iaload, 1) := by decide +kernel
theorem dL_law_658 : decode cL_law 658 = .ok (.invokevirtual 82, 3) := by decide +kernel
theorem dL_law_661 : decode cL_law 661 = .ok (.aload_n 2, 1) := by decide +kernel
theorem dL_law_662 : decode cL_law 662 = .ok (.aload_n 0, 1) := by decide +kernel
theorem dL_law_663 : decode cL_law 663 = .ok (.iload_n 3, 1) := by decide +kernel
theorem dL_law_664 : decode cL_law 664 = .ok (.iconst 1, 1) := by decide +kernel
theorem dL_law_665 : decode cL_law 665 = .ok (.iadd, 1) := by decide +kernel
theorem dL_law_666 : decode cL_law 666 = .ok (.iaload, 1) := by decide +kernel
theorem dL_law_667 : decode cL_law 667 = .ok (.aload_n 0, 1) := by decide +kernel
theorem dL_law_668 : decode cL_law 668 = .ok (.iload_n 3, 1) := by decide +kernel
theorem dL_law_669 : decode cL_law 669 = .ok (.iconst 2, 1) := by decide +kernel
theorem dL_law_670 : decode cL_law 670 = .ok (.iadd, 1) := by decide +kernel
theorem dL_law_671 : decode cL_law 671 = .ok (.iaload, 1) := by decide +kernel
theorem dL_law_672 : decode cL_law 672 = .ok (.invokevirtual 85, 3) := by decide +kernel
theorem dL_law_675 : decode cL_law 675 = .ok (.if_icmp .eq 481, 3) := by decide +kernel
theorem dL_law_678 : decode cL_law 678 = .ok (.iconst 0, 1) := by decide +kernel
theorem dL_law_679 : decode cL_law 679 = .ok (.ireturn, 1) := by decide +kernel
theorem dL_law_680 : decode cL_law 680 = .ok (.aload_n 1, 1) := by decide +kernel
theorem dL_law_681 : decode cL_law 681 = .ok (.aload_n 0, 1) := by decide +kernel
theorem dL_law_682 : decode cL_law 682 = .ok (.iload_n 3, 1) := by decide +kernel
theorem dL_law_683 : decode cL_law 683 = .ok (.iconst 1, 1) := by decide +kernel
theorem dL_law_684 : decode cL_law 684 = .ok (.iadd, 1) := by decide +kernel
theorem dL_law_685 : decode cL_law 685 = .ok (.iaload, 1) := by decide +kernel
theorem dL_law_686 : decode cL_law 686 = .ok (.aload_n 0, 1) := by decide +kernel
theorem dL_law_687 : decode cL_law 687 = .ok (.iload_n 3, 1) := by decide +kernel
theorem dL_law_688 : decode cL_law 688 = .ok (.iconst 2, 1) := by decide +kernel
theorem dL_law_689 : decode cL_law 689 = .ok (.iadd, 1) := by decide +kernel
theorem dL_law_690 : decode cL_law 690 = .ok (.iaload, 1) := by decide +kernel
theorem dL_law_691 : decode cL_law 691 = .ok (.invokevirtual 86, 3) := by decide +kernel
theorem dL_law_694 : decode cL_law 694 = .ok (.aload_n 2, 1) := by decide +kernel
theorem dL_law_695 : decode cL_law 695 = .ok (.aload_n 0, 1) := by decide +kernel
theorem dL_law_696 : decode cL_law 696 = .ok (.iload_n 3, 1) := by decide +kernel
theorem dL_law_697 : decode cL_law 697 = .ok (.iconst 1, 1) := by decide +kernel
theorem dL_law_698 : decode cL_law 698 = .ok (.iadd, 1) := by decide +kernel
theorem dL_law_699 : decode cL_law 699 = .ok (.iaload, 1) := by decide +kernel
theorem dL_law_700 : decode cL_law 700 = .ok (.aload_n 0, 1) := by decide +kernel
theorem dL_law_701 : decode cL_law 701 = .ok (.iload_n 3, 1) := by decide +kernel
theorem dL_law_702 : decode cL_law 702 = .ok (.iconst 2, 1) := by decide +kernel
theorem dL_law_703 : decode cL_law 703 = .ok (.iadd, 1) := by decide +kernel
theorem dL_law_704 : decode cL_law 704 = .ok (.iaload, 1) := by decide +kernel
theorem dL_law_705 : decode cL_law 705 = .ok (.invokevirtual 89, 3) := by decide +kernel
theorem dL_law_708 : decode cL_law 708 = .ok (.if_icmp .eq 448, 3) := by decide +kernel
theorem dL_law_711 : decode cL_law 711 = .ok (.iconst 0, 1) := by decide +kernel
theorem dL_law_712 : decode cL_law 712 = .ok (.ireturn, 1) := by decide +kernel
theorem dL_law_713 : decode cL_law 713 = .ok (.aload_n 1, 1) := by decide +kernel
theorem dL_law_714 : decode cL_law 714 = .ok (.aload_n 0, 1) := by decide +kernel
theorem dL_law_715 : decode cL_law 715 = .ok (.iload_n 3, 1) := by decide +kernel
theorem dL_law_716 : decode cL_law 716 = .ok (.iconst 1, 1) := by decide +kernel
theorem dL_law_717 : decode cL_law 717 = .ok (.iadd, 1) := by decide +kernel
theorem dL_law_718 : decode cL_law 718 = .ok (.iaload, 1) := by decide +kernel
theorem dL_law_719 : decode cL_law 719 = .ok (.aload_n 0, 1) := by decide +kernel
theorem dL_law_720 : decode cL_law 720 = .ok (.iload_n 3, 1) := by decide +kernel
theorem dL_law_721 : decode cL_law 721 = .ok (.iconst 2, 1) := by decide +kernel
theorem dL_law_722 : decode cL_law 722 = .ok (.iadd, 1) := by decide +kernel
theorem dL_law_723 : decode cL_law 723 = .ok (.iaload, 1) := by decide +kernel
theorem dL_law_724 : decode cL_law 724 = .ok (.invokevirtual 90, 3) := by decide +kernel
theorem dL_law_727 : decode cL_law 727 = .ok (.aload_n 2, 1) := by decide +kernel
theorem dL_law_728 : decode cL_law 728 = .ok (.aload_n 0, 1) := by decide +kernel
theorem dL_law_729 : decode cL_law 729 = .ok (.iload_n 3, 1) := by decide +kernel
theorem dL_law_730 : decode cL_law 730 = .ok (.iconst 1, 1) := by decide +kernel
theorem dL_law_731 : decode cL_law 731 = .ok (.iadd, 1) := by decide +kernel
theorem dL_law_732 : decode cL_law 732 = .ok (.iaload, 1) := by decide +kernel
theorem dL_law_733 : decode cL_law 733 = .ok (.aload_n 0, 1) := by decide +kernel
theorem dL_law_734 : decode cL_law 734 = .ok (.iload_n 3, 1) := by decide +kernel
theorem dL_law_735 : decode cL_law 735 = .ok (.iconst 2, 1) := by decide +kernel
theorem dL_law_736 : decode cL_law 736 = .ok (.iadd, 1) := by decide +kernel
theorem dL_law_737 : decode cL_law 737 = .ok (.iaload, 1) := by decide +kernel
theorem dL_law_738 : decode cL_law 738 = .ok (.invokevirtual 93, 3) := by decide +kernel
theorem dL_law_741 : decode cL_law 741 = .ok (.if_icmp .eq 415, 3) := by decide +kernel
theorem dL_law_744 : decode cL_law 744 = .ok (.iconst 0, 1) := by decide +kernel
theorem dL_law_745 : decode cL_law 745 = .ok (.ireturn, 1) := by decide +kernel
theorem dL_law_746 : decode cL_law 746 = .ok (.aload_n 1, 1) := by decide +kernel
theorem dL_law_747 : decode cL_law 747 = .ok (.aload_n 0, 1) := by decide +kernel
theorem dL_law_748 : decode cL_law 748 = .ok (.iload_n 3, 1) := by decide +kernel
theorem dL_law_749 : decode cL_law 749 = .ok (.iconst 1, 1) := by decide +kernel
theorem dL_law_750 : decode cL_law 750 = .ok (.iadd, 1) := by decide +kernel
theorem dL_law_751 : decode cL_law 751 = .ok (.iaload, 1) := by decide +kernel
theorem dL_law_752 : decode cL_law 752 = .ok (.aload_n 0, 1) := by decide +kernel
theorem dL_law_753 : decode cL_law 753 = .ok (.iload_n 3, 1) := by decide +kernel
theorem dL_law_754 : decode cL_law 754 = .ok (.iconst 2, 1) := by decide +kernel
theorem dL_law_755 : decode cL_law 755 = .ok (.iadd, 1) := by decide +kernel
theorem dL_law_756 : decode cL_law 756 = .ok (.iaload, 1) := by decide +kernel
theorem dL_law_757 : decode cL_law 757 = .ok (.invokevirtual 94, 3) := by decide +kernel
theorem dL_law_760 : decode cL_law 760 = .ok (.aload_n 2, 1) := by decide +kernel
theorem dL_law_761 : decode cL_law 761 = .ok (.aload_n 0, 1) := by decide +kernel
theorem dL_law_762 : decode cL_law 762 = .ok (.iload_n 3, 1) := by decide +kernel
theorem dL_law_763 : decode cL_law 763 = .ok (.iconst 1, 1) := by decide +kernel
theorem dL_law_764 : decode cL_law 764 = .ok (.iadd, 1) := by decide +kernel
theorem dL_law_765 : decode cL_law 765 = .ok (.iaload, 1) := by decide +kernel
theorem dL_law_766 : decode cL_law 766 = .ok (.aload_n 0, 1) := by decide +kernel
theorem dL_law_767 : decode cL_law 767 = .ok (.iload_n 3, 1) := by decide +kernel
theorem dL_law_768 : decode cL_law 768 = .ok (.iconst 2, 1) := by decide +kernel
theorem dL_law_769 : decode cL_law 769 = .ok (.iadd, 1) := by decide +kernel
theorem dL_law_770 : decode cL_law 770 = .ok (.iaload, 1) := by decide +kernel
theorem dL_law_771 : decode cL_law 771 = .ok (.invokevirtual 97, 3) := by decide +kernel
theorem dL_law_774 : decode cL_law 774 = .ok (.if_icmp .eq 382, 3) := by decide +kernel
theorem dL_law_777 : decode cL_law 777 = .ok (.iconst 0, 1) := by decide +kernel
theorem dL_law_778 : decode cL_law 778 = .ok (.ireturn, 1) := by decide +kernel
theorem dL_law_779 : decode cL_law 779 = .ok (.aload_n 1, 1) := by decide +kernel
theorem dL_law_780 : decode cL_law 780 = .ok (.aload_n 0, 1) := by decide +kernel
theorem dL_law_781 : decode cL_law 781 = .ok (.iload_n 3, 1) := by decide +kernel
theorem dL_law_782 : decode cL_law 782 = .ok (.iconst 1, 1) := by decide +kernel
theorem dL_law_783 : decode cL_law 783 = .ok (.iadd, 1) := by decide +kernel
theorem dL_law_784 : decode cL_law 784 = .ok (.iaload, 1) := by decide +kernel
theorem dL_law_785 : decode cL_law 785 = .ok (.aload_n 0, 1) := by decide +kernel
theorem dL_law_786 : decode cL_law 786 = .ok (.iload_n 3, 1) := by decide +kernel
theorem dL_law_787 : decode cL_law 787 = .ok (.iconst 2, 1) := by decide +kernel
theorem dL_law_788 : decode cL_law 788 = .ok (.iadd, 1) := by decide +kernel
theorem dL_law_789 : decode cL_law 789 = .ok (.iaload, 1) := by decide +kernel
theorem dL_law_790 : decode cL_law 790 = .ok (.invokevirtual 98, 3) := by decide +kernel
theorem dL_law_793 : decode cL_law 793 = .ok (.aload_n 2, 1) := by decide +kernel
theorem dL_law_794 : decode cL_law 794 = .ok (.aload_n 0, 1) := by decide +kernel
theorem dL_law_795 : decode cL_law 795 = .ok (.iload_n 3, 1) := by decide +kernel
theorem dL_law_796 : decode cL_law 796 = .ok (.iconst 1, 1) := by decide +kernel
theorem dL_law_797 : decode cL_law 797 = .ok (.iadd, 1) := by decide +kernel
theorem dL_law_798 : decode cL_law 798 = .ok (.iaload, 1) := by decide +kernel
theorem dL_law_799 : decode cL_law 799 = .ok (.aload_n 0, 1) := by decide +kernel
theorem dL_law_800 : decode cL_law 800 = .ok (.iload_n 3, 1) := by decide +kernel
theorem dL_law_801 : decode cL_law 801 = .ok (.iconst 2, 1) := by decide +kernel
theorem dL_law_802 : decode cL_law 802 = .ok (.iadd, 1) := by decide +kernel
theorem dL_law_803 : decode cL_law 803 = .ok (.iaload, 1) := by decide +kernel
theorem dL_law_804 : decode cL_law 804 = .ok (.invokevirtual 102, 3) := by decide +kernel
theorem dL_law_807 : decode cL_law 807 = .ok (.lcmp, 1) := by decide +kernel
theorem dL_law_808 : decode cL_law 808 = .ok (.ifCond .eq 348, 3) := by decide +kernel
theorem dL_law_811 : decode cL_law 811 = .ok (.iconst 0, 1) := by decide +kernel
theorem dL_law_812 : decode cL_law 812 = .ok (.ireturn, 1) := by decide +kernel
theorem dL_law_813 : decode cL_law 813 = .ok (.aload_n 1, 1) := by decide +kernel
theorem dL_law_814 : decode cL_law 814 = .ok (.aload_n 0, 1) := by decide +kernel
theorem dL_law_815 : decode cL_law 815 = .ok (.iload_n 3, 1) := by decide +kernel
theorem dL_law_816 : decode cL_law 816 = .ok (.iconst 1, 1) := by decide +kernel
theorem dL_law_817 : decode cL_law 817 = .ok (.iadd, 1) := by decide +kernel
theorem dL_law_818 : decode cL_law 818 = .ok (.iaload, 1) := by decide +kernel
theorem dL_law_819 : decode cL_law 819 = .ok (.aload_n 0, 1) := by decide +kernel
theorem dL_law_820 : decode cL_law 820 = .ok (.iload_n 3, 1) := by decide +kernel
theorem dL_law_821 : decode cL_law 821 = .ok (.iconst 2, 1) := by decide +kernel
theorem dL_law_822 : decode cL_law 822 = .ok (.iadd, 1) := by decide +kernel
theorem dL_law_823 : decode cL_law 823 = .ok (.iaload, 1) := by decide +kernel
theorem dL_law_824 : decode cL_law 824 = .ok (.invokevirtual 103, 3) := by decide +kernel
theorem dL_law_827 : decode cL_law 827 = .ok (.aload_n 2, 1) := by decide +kernel
theorem dL_law_828 : decode cL_law 828 = .ok (.aload_n 0, 1) := by decide +kernel
theorem dL_law_829 : decode cL_law 829 = .ok (.iload_n 3, 1) := by decide +kernel
theorem dL_law_830 : decode cL_law 830 = .ok (.iconst 1, 1) := by decide +kernel
theorem dL_law_831 : decode cL_law 831 = .ok (.iadd, 1) := by decide +kernel
theorem dL_law_832 : decode cL_law 832 = .ok (.iaload, 1) := by decide +kernel
theorem dL_law_833 : decode cL_law 833 = .ok (.aload_n 0, 1) := by decide +kernel
theorem dL_law_834 : decode cL_law 834 = .ok (.iload_n 3, 1) := by decide +kernel
theorem dL_law_835 : decode cL_law 835 = .ok (.iconst 2, 1) := by decide +kernel
theorem dL_law_836 : decode cL_law 836 = .ok (.iadd, 1) := by decide +kernel
theorem dL_law_837 : decode cL_law 837 = .ok (.iaload, 1) := by decide +kernel
theorem dL_law_838 : decode cL_law 838 = .ok (.invokevirtual 106, 3) := by decide +kernel
theorem dL_law_841 : decode cL_law 841 = .ok (.if_icmp .eq 315, 3) := by decide +kernel
theorem dL_law_844 : decode cL_law 844 = .ok (.iconst 0, 1) := by decide +kernel
theorem dL_law_845 : decode cL_law 845 = .ok (.ireturn, 1) := by decide +kernel
theorem dL_law_846 : decode cL_law 846 = .ok (.aload_n 1, 1) := by decide +kernel
theorem dL_law_847 : decode cL_law 847 = .ok (.invokevirtual 107, 3) := by decide +kernel
theorem dL_law_850 : decode cL_law 850 = .ok (.aload_n 2, 1) := by decide +kernel
theorem dL_law_851 : decode cL_law 851 = .ok (.invokevirtual 110, 3) := by decide +kernel
theorem dL_law_854 : decode cL_law 854 = .ok (.if_icmp .eq 302, 3) := by decide +kernel
theorem dL_law_857 : decode cL_law 857 = .ok (.iconst 0, 1) := by decide +kernel
theorem dL_law_858 : decode cL_law 858 = .ok (.ireturn, 1) := by decide +kernel
theorem dL_law_859 : decode cL_law 859 = .ok (.aload_n 1, 1) := by decide +kernel
theorem dL_law_860 : decode cL_law 860 = .ok (.invokevirtual 111, 3) := by decide +kernel
theorem dL_law_863 : decode cL_law 863 = .ok (.aload_n 2, 1) := by decide +kernel
theorem dL_law_864 : decode cL_law 864 = .ok (.invokevirtual 114, 3) := by decide +kernel
theorem dL_law_867 : decode cL_law 867 = .ok (.if_icmp .eq 289, 3) := by decide +kernel
theorem dL_law_870 : decode cL_law 870 = .ok (.iconst 0, 1) := by decide +kernel
theorem dL_law_871 : decode cL_law 871 = .ok (.ireturn, 1) := by decide +kernel
theorem dL_law_872 : decode cL_law 872 = .ok (.aload_n 1, 1) := by decide +kernel
theorem dL_law_873 : decode cL_law 873 = .ok (.aload_n 0, 1) := by decide +kernel
theorem dL_law_874 : decode cL_law 874 = .ok (.iload_n 3, 1) := by decide +kernel
theorem dL_law_875 : decode cL_law 875 = .ok (.iconst 1, 1) := by decide +kernel
theorem dL_law_876 : decode cL_law 876 = .ok (.iadd, 1) := by decide +kernel
theorem dL_law_877 : decode cL_law 877 = .ok (.iaload, 1) := by decide +kernel
theorem dL_law_878 : decode cL_law 878 = .ok (.invokevirtual 115, 3) := by decide +kernel
theorem dL_law_881 : decode cL_law 881 = .ok (.aload_n 2, 1) := by decide +kernel
theorem dL_law_882 : decode cL_law 882 = .ok (.aload_n 0, 1) := by decide +kernel
theorem dL_law_883 : decode cL_law 883 = .ok (.iload_n 3, 1) := by decide +kernel
theorem dL_law_884 : decode cL_law 884 = .ok (.iconst 1, 1) := by decide +kernel
theorem dL_law_885 : decode cL_law 885 = .ok (.iadd, 1) := by decide +kernel
theorem dL_law_886 : decode cL_law 886 = .ok (.iaload, 1) := by decide +kernel
theorem dL_law_887 : decode cL_law 887 = .ok (.invokevirtual 118, 3) := by decide +kernel
theorem dL_law_890 : decode cL_law 890 = .ok (.if_icmp .eq 266, 3) := by decide +kernel
theorem dL_law_893 : decode cL_law 893 = .ok (.iconst 0, 1) := by decide +kernel
theorem dL_law_894 : decode cL_law 894 = .ok (.ireturn, 1) := by decide +kernel
theorem dL_law_895 : decode cL_law 895 = .ok (.aload_n 1, 1) := by decide +kernel
theorem dL_law_896 : decode cL_law 896 = .ok (.aload_n 0, 1) := by decide +kernel
theorem dL_law_897 : decode cL_law 897 = .ok (.iload_n 3, 1) := by decide +kernel
theorem dL_law_898 : decode cL_law 898 = .ok (.iconst 1, 1) := by decide +kernel
theorem dL_law_899 : decode cL_law 899 = .ok (.iadd, 1) := by decide +kernel
theorem dL_law_900 : decode cL_law 900 = .ok (.iaload, 1) := by decide +kernel
theorem dL_law_901 : decode cL_law 901 = .ok (.invokevirtual 119, 3) := by decide +kernel
theorem dL_law_904 : decode cL_law 904 = .ok (.aload_n 2, 1) := by decide +kernel
theorem dL_law_905 : decode cL_law 905 = .ok (.aload_n 0, 1) := by decide +kernel
theorem dL_law_906 : decode cL_law 906 = .ok (.iload_n 3, 1) := by decide +kernel
theorem dL_law_907 : decode cL_law 907 = .ok (.iconst 1, 1) := by decide +kernel
theorem dL_law_908 : decode cL_law 908 = .ok (.iadd, 1) := by decide +kernel
theorem dL_law_909 : decode cL_law 909 = .ok (.iaload, 1) := by decide +kernel
theorem dL_law_910 : decode cL_law 910 = .ok (.invokevirtual 122, 3) := by decide +kernel
theorem dL_law_913 : decode cL_law 913 = .ok (.if_icmp .eq 243, 3) := by decide +kernel
theorem dL_law_916 : decode cL_law 916 = .ok (.iconst 0, 1) := by decide +kernel
theorem dL_law_917 : decode cL_law 917 = .ok (.ireturn, 1) := by decide +kernel
theorem dL_law_918 : decode cL_law 918 = .ok (.aload_n 1, 1) := by decide +kernel
theorem dL_law_919 : decode cL_law 919 = .ok (.aload_n 0, 1) := by decide +kernel
theorem dL_law_920 : decode cL_law 920 = .ok (.iload_n 3, 1) := by decide +kernel
theorem dL_law_921 : decode cL_law 921 = .ok (.iconst 1, 1) := by decide +kernel
theorem dL_law_922 : decode cL_law 922 = .ok (.iadd, 1) := by decide +kernel
theorem dL_law_923 : decode cL_law 923 = .ok (.iaload, 1) := by decide +kernel
theorem dL_law_924 : decode cL_law 924 = .ok (.invokevirtual 123, 3) := by decide +kernel
theorem dL_law_927 : decode cL_law 927 = .ok (.aload_n 2, 1) := by decide +kernel
theorem dL_law_928 : decode cL_law 928 = .ok (.aload_n 0, 1) := by decide +kernel
theorem dL_law_929 : decode cL_law 929 = .ok (.iload_n 3, 1) := by decide +kernel
theorem dL_law_930 : decode cL_law 930 = .ok (.iconst 1, 1) := by decide +kernel
theorem dL_law_931 : decode cL_law 931 = .ok (.iadd, 1) := by decide +kernel
theorem dL_law_932 : decode cL_law 932 = .ok (.iaload, 1) := by decide +kernel
theorem dL_law_933 : decode cL_law 933 = .ok (.invokevirtual 126, 3) := by decide +kernel
theorem dL_law_936 : decode cL_law 936 = .ok (.if_icmp .eq 220, 3) := by decide +kernel
theorem dL_law_939 : decode cL_law 939 = .ok (.iconst 0, 1) := by decide +kernel
theorem dL_law_940 : decode cL_law 940 = .ok (.ireturn, 1) := by decide +kernel
theorem dL_law_941 : decode cL_law 941 = .ok (.aload_n 1, 1) := by decide +kernel
theorem dL_law_942 : decode cL_law 942 = .ok (.aload_n 0, 1) := by decide +kernel
theorem dL_law_943 : decode cL_law 943 = .ok (.iload_n 3, 1) := by decide +kernel
theorem dL_law_944 : decode cL_law 944 = .ok (.iconst 1, 1) := by decide +kernel
theorem dL_law_945 : decode cL_law 945 = .ok (.iadd, 1) := by decide +kernel
theorem dL_law_946 : decode cL_law 946 = .ok (.iaload, 1) := by decide +kernel
theorem dL_law_947 : decode cL_law 947 = .ok (.aload_n 0, 1) := by decide +kernel
theorem dL_law_948 : decode cL_law 948 = .ok (.iload_n 3, 1) := by decide +kernel
theorem dL_law_949 : decode cL_law 949 = .ok (.iconst 2, 1) := by decide +kernel
theorem dL_law_950 : decode cL_law 950 = .ok (.iadd, 1) := by decide +kernel
theorem dL_law_951 : decode cL_law 951 = .ok (.iaload, 1) := by decide +kernel
theorem dL_law_952 : decode cL_law 952 = .ok (.invokevirtual 127, 3) := by decide +kernel
theorem dL_law_955 : decode cL_law 955 = .ok (.aload_n 2, 1) := by decide +kernel
theorem dL_law_956 : decode cL_law 956 = .ok (.aload_n 0, 1) := by decide +kernel
theorem dL_law_957 : decode cL_law 957 = .ok (.iload_n 3, 1) := by decide +kernel
theorem dL_law_958 : decode cL_law 958 = .ok (.iconst 1, 1) := by decide +kernel
theorem dL_law_959 : decode cL_law 959 = .ok (.iadd, 1) := by decide +kernel
theorem dL_law_960 : decode cL_law 960 = .ok (.iaload, 1) := by decide +kernel
theorem dL_law_961 : decode cL_law 961 = .ok (.aload_n 0, 1) := by decide +kernel
theorem dL_law_962 : decode cL_law 962 = .ok (.iload_n 3, 1) := by decide +kernel
theorem dL_law_963 : decode cL_law 963 = .ok (.iconst 2, 1) := by decide +kernel
theorem dL_law_964 : decode cL_law 964 = .ok (.iadd, 1) := by decide +kernel
theorem dL_law_965 : decode cL_law 965 = .ok (.iaload, 1) := by decide +kernel
theorem dL_law_966 : decode cL_law 966 = .ok (.invokevirtual 130, 3) := by decide +kernel
theorem dL_law_969 : decode cL_law 969 = .ok (.if_icmp .eq 187, 3) := by decide +kernel
theorem dL_law_972 : decode cL_law 972 = .ok (.iconst 0, 1) := by decide +kernel
theorem dL_law_973 : decode cL_law 973 = .ok (.ireturn, 1) := by decide +kernel
theorem dL_law_974 : decode cL_law 974 = .ok (.aload_n 1, 1) := by decide +kernel
theorem dL_law_975 : decode cL_law 975 = .ok (.aload_n 0, 1) := by decide +kernel
theorem dL_law_976 : decode cL_law 976 = .ok (.iload_n 3, 1) := by decide +kernel
theorem dL_law_977 : decode cL_law 977 = .ok (.iconst 1, 1) := by decide +kernel
theorem dL_law_978 : decode cL_law 978 = .ok (.iadd, 1) := by decide +kernel
theorem dL_law_979 : decode cL_law 979 = .ok (.iaload, 1) := by decide +kernel
theorem dL_law_980 : decode cL_law 980 = .ok (.aload_n 0, 1) := by decide +kernel
theorem dL_law_981 : decode cL_law 981 = .ok (.iload_n 3, 1) := by decide +kernel
theorem dL_law_982 : decode cL_law 982 = .ok (.iconst 2, 1) := by decide +kernel
theorem dL_law_983 : decode cL_law 983 = .ok (.iadd, 1) := by decide +kernel
theorem dL_law_984 : decode cL_law 984 = .ok (.iaload, 1) := by decide +kernel
theorem dL_law_985 : decode cL_law 985 = .ok (.invokevirtual 131, 3) := by decide +kernel
theorem dL_law_988 : decode cL_law 988 = .ok (.aload_n 2, 1) := by decide +kernel
theorem dL_law_989 : decode cL_law 989 = .ok (.aload_n 0, 1) := by decide +kernel
theorem dL_law_990 : decode cL_law 990 = .ok (.iload_n 3, 1) := by decide +kernel
theorem dL_law_991 : decode cL_law 991 = .ok (.iconst 1, 1) := by decide +kernel
theorem dL_law_992 : decode cL_law 992 = .ok (.iadd, 1) := by decide +kernel
theorem dL_law_993 : decode cL_law 993 = .ok (.iaload, 1) := by decide +kernel
theorem dL_law_994 : decode cL_law 994 = .ok (.aload_n 0, 1) := by decide +kernel
theorem dL_law_995 : decode cL_law 995 = .ok (.iload_n 3, 1) := by decide +kernel
theorem dL_law_996 : decode cL_law 996 = .ok (.iconst 2, 1) := by decide +kernel
theorem dL_law_997 : decode cL_law 997 = .ok (.iadd, 1) := by decide +kernel
theorem dL_law_998 : decode cL_law 998 = .ok (.iaload, 1) := by decide +kernel
theorem dL_law_999 : decode cL_law 999 = .ok (.invokevirtual 134, 3) := by decide +kernel
theorem dL_law_1002 : decode cL_law 1002 = .ok (.lcmp, 1) := by decide +kernel
theorem dL_law_1003 : decode cL_law 1003 = .ok (.ifCond .eq 153, 3) := by decide +kernel
theorem dL_law_1006 : decode cL_law 1006 = .ok (.iconst 0, 1) := by decide +kernel
theorem dL_law_1007 : decode cL_law 1007 = .ok (.ireturn, 1) := by decide +kernel
theorem dL_law_1008 : decode cL_law 1008 = .ok (.aload_n 1, 1) := by decide +kernel
theorem dL_law_1009 : decode cL_law 1009 = .ok (.aload_n 0, 1) := by decide +kernel
theorem dL_law_1010 : decode cL_law 1010 = .ok (.iload_n 3, 1) := by decide +kernel
theorem dL_law_1011 : decode cL_law 1011 = .ok (.iconst 1, 1) := by decide +kernel
theorem dL_law_1012 : decode cL_law 1012 = .ok (.iadd, 1) := by decide +kernel
theorem dL_law_1013 : decode cL_law 1013 = .ok (.iaload, 1) := by decide +kernel
theorem dL_law_1014 : decode cL_law 1014 = .ok (.aload_n 0, 1) := by decide +kernel
theorem dL_law_1015 : decode cL_law 1015 = .ok (.iload_n 3, 1) := by decide +kernel
theorem dL_law_1016 : decode cL_law 1016 = .ok (.iconst 2, 1) := by decide +kernel
theorem dL_law_1017 : decode cL_law 1017 = .ok (.iadd, 1) := by decide +kernel
theorem dL_law_1018 : decode cL_law 1018 = .ok (.iaload, 1) := by decide +kernel
theorem dL_law_1019 : decode cL_law 1019 = .ok (.invokevirtual 135, 3) := by decide +kernel
theorem dL_law_1022 : decode cL_law 1022 = .ok (.aload_n 2, 1) := by decide +kernel
theorem dL_law_1023 : decode cL_law 1023 = .ok (.aload_n 0, 1) := by decide +kernel
theorem dL_law_1024 : decode cL_law 1024 = .ok (.iload_n 3, 1) := by decide +kernel
theorem dL_law_1025 : decode cL_law 1025 = .ok (.iconst 1, 1) := by decide +kernel
theorem dL_law_1026 : decode cL_law 1026 = .ok (.iadd, 1) := by decide +kernel
theorem dL_law_1027 : decode cL_law 1027 = .ok (.iaload, 1) := by decide +kernel
theorem dL_law_1028 : decode cL_law 1028 = .ok (.aload_n 0, 1) := by decide +kernel
theorem dL_law_1029 : decode cL_law 1029 = .ok (.iload_n 3, 1) := by decide +kernel
theorem dL_law_1030 : decode cL_law 1030 = .ok (.iconst 2, 1) := by decide +kernel
theorem dL_law_1031 : decode cL_law 1031 = .ok (.iadd, 1) := by decide +kernel
theorem dL_law_1032 : decode cL_law 1032 = .ok (.iaload, 1) := by decide +kernel
theorem dL_law_1033 : decode cL_law 1033 = .ok (.invokevirtual 138, 3) := by decide +kernel
theorem dL_law_1036 : decode cL_law 1036 = .ok (.if_icmp .eq 120, 3) := by decide +kernel
theorem dL_law_1039 : decode cL_law 1039 = .ok (.iconst 0, 1) := by decide +kernel
theorem dL_law_1040 : decode cL_law 1040 = .ok (.ireturn, 1) := by decide +kernel
theorem dL_law_1041 : decode cL_law 1041 = .ok (.aload_n 1, 1) := by decide +kernel
theorem dL_law_1042 : decode cL_law 1042 = .ok (.aload_n 0, 1) := by decide +kernel
theorem dL_law_1043 : decode cL_law 1043 = .ok (.iload_n 3, 1) := by decide +kernel
theorem dL_law_1044 : decode cL_law 1044 = .ok (.iconst 1, 1) := by decide +kernel
theorem dL_law_1045 : decode cL_law 1045 = .ok (.iadd, 1) := by decide +kernel
theorem dL_law_1046 : decode cL_law 1046 = .ok (.iaload, 1) := by decide +kernel
theorem dL_law_1047 : decode cL_law 1047 = .ok (.aload_n 0, 1) := by decide +kernel
theorem dL_law_1048 : decode cL_law 1048 = .ok (.iload_n 3, 1) := by decide +kernel
theorem dL_law_1049 : decode cL_law 1049 = .ok (.iconst 2, 1) := by decide +kernel
theorem dL_law_1050 : decode cL_law 1050 = .ok (.iadd, 1) := by decide +kernel
theorem dL_law_1051 : decode cL_law 1051 = .ok (.iaload, 1) := by decide +kernel
theorem dL_law_1052 : decode cL_law 1052 = .ok (.aload_n 0, 1) := by decide +kernel
theorem dL_law_1053 : decode cL_law 1053 = .ok (.iload_n 3, 1) := by decide +kernel
theorem dL_law_1054 : decode cL_law 1054 = .ok (.iconst 3, 1) := by decide +kernel
theorem dL_law_1055 : decode cL_law 1055 = .ok (.iadd, 1) := by decide +kernel
theorem dL_law_1056 : decode cL_law 1056 = .ok (.iaload, 1) := by decide +kernel
theorem dL_law_1057 : decode cL_law 1057 = .ok (.invokevirtual 139, 3) := by decide +kernel
theorem dL_law_1060 : decode cL_law 1060 = .ok (.aload_n 2, 1) := by decide +kernel
theorem dL_law_1061 : decode cL_law 1061 = .ok (.aload_n 0, 1) := by decide +kernel
theorem dL_law_1062 : decode cL_law 1062 = .ok (.iload_n 3, 1) := by decide +kernel
theorem dL_law_1063 : decode cL_law 1063 = .ok (.iconst 1, 1) := by decide +kernel
theorem dL_law_1064 : decode cL_law 1064 = .ok (.iadd, 1) := by decide +kernel
theorem dL_law_1065 : decode cL_law 1065 = .ok (.iaload, 1) := by decide +kernel
theorem dL_law_1066 : decode cL_law 1066 = .ok (.aload_n 0, 1) := by decide +kernel
theorem dL_law_1067 : decode cL_law 1067 = .ok (.iload_n 3, 1) := by decide +kernel
theorem dL_law_1068 : decode cL_law 1068 = .ok (.iconst 2, 1) := by decide +kernel
theorem dL_law_1069 : decode cL_law 1069 = .ok (.iadd, 1) := by decide +kernel
theorem dL_law_1070 : decode cL_law 1070 = .ok (.iaload, 1) := by decide +kernel
theorem dL_law_1071 : decode cL_law 1071 = .ok (.aload_n 0, 1) := by decide +kernel
theorem dL_law_1072 : decode cL_law 1072 = .ok (.iload_n 3, 1) := by decide +kernel
theorem dL_law_1073 : decode cL_law 1073 = .ok (.iconst 3, 1) := by decide +kernel
theorem dL_law_1074 : decode cL_law 1074 = .ok (.iadd, 1) := by decide +kernel
theorem dL_law_1075 : decode cL_law 1075 = .ok (.iaload, 1) := by decide +kernel
theorem dL_law_1076 : decode cL_law 1076 = .ok (.invokevirtual 142, 3) := by decide +kernel
theorem dL_law_1079 : decode cL_law 1079 = .ok (.if_icmp .eq 77, 3) := by decide +kernel
theorem dL_law_1082 : decode cL_law 1082 = .ok (.iconst 0, 1) := by decide +kernel
theorem dL_law_1083 : decode cL_law 1083 = .ok (.ireturn, 1) := by decide +kernel
theorem dL_law_1084 : decode cL_law 1084 = .ok (.aload_n 1, 1) := by decide +kernel
theorem dL_law_1085 : decode cL_law 1085 = .ok (.aload_n 0, 1) := by decide +kernel
theorem dL_law_1086 : decode cL_law 1086 = .ok (.iload_n 3, 1) := by decide +kernel
theorem dL_law_1087 : decode cL_law 1087 = .ok (.iconst 1, 1) := by decide +kernel
theorem dL_law_1088 : decode cL_law 1088 = .ok (.iadd, 1) := by decide +kernel
theorem dL_law_1089 : decode cL_law 1089 = .ok (.iaload, 1) := by decide +kernel
theorem dL_law_1090 : decode cL_law 1090 = .ok (.invokevirtual 143, 3) := by decide +kernel
theorem dL_law_1093 : decode cL_law 1093 = .ok (.aload_n 2, 1) := by decide +kernel
theorem dL_law_1094 : decode cL_law 1094 = .ok (.aload_n 0, 1) := by decide +kernel
theorem dL_law_1095 : decode cL_law 1095 = .ok (.iload_n 3, 1) := by decide +kernel
theorem dL_law_1096 : decode cL_law 1096 = .ok (.iconst 1, 1) := by decide +kernel
theorem dL_law_1097 : decode cL_law 1097 = .ok (.iadd, 1) := by decide +kernel
theorem dL_law_1098 : decode cL_law 1098 = .ok (.iaload, 1) := by decide +kernel
theorem dL_law_1099 : decode cL_law 1099 = .ok (.invokevirtual 146, 3) := by decide +kernel
theorem dL_law_1102 : decode cL_law 1102 = .ok (.if_icmp .eq 54, 3) := by decide +kernel
theorem dL_law_1105 : decode cL_law 1105 = .ok (.iconst 0, 1) := by decide +kernel
theorem dL_law_1106 : decode cL_law 1106 = .ok (.ireturn, 1) := by decide +kernel
theorem dL_law_1107 : decode cL_law 1107 = .ok (.aload_n 1, 1) := by decide +kernel
theorem dL_law_1108 : decode cL_law 1108 = .ok (.invokevirtual 147, 3) := by decide +kernel
theorem dL_law_1111 : decode cL_law 1111 = .ok (.aload_n 2, 1) := by decide +kernel
theorem dL_law_1112 : decode cL_law 1112 = .ok (.invokevirtual 150, 3) := by decide +kernel
theorem dL_law_1115 : decode cL_law 1115 = .ok (.if_icmp .eq 41, 3) := by decide +kernel
theorem dL_law_1118 : decode cL_law 1118 = .ok (.iconst 0, 1) := by decide +kernel
theorem dL_law_1119 : decode cL_law 1119 = .ok (.ireturn, 1) := by decide +kernel
theorem dL_law_1120 : decode cL_law 1120 = .ok (.aload_n 1, 1) := by decide +kernel
theorem dL_law_1121 : decode cL_law 1121 = .ok (.invokevirtual 151, 3) := by decide +kernel
theorem dL_law_1124 : decode cL_law 1124 = .ok (.aload_n 2, 1) := by decide +kernel
theorem dL_law_1125 : decode cL_law 1125 = .ok (.invokevirtual 154, 3) := by decide +kernel
theorem dL_law_1128 : decode cL_law 1128 = .ok (.if_icmp .eq 28, 3) := by decide +kernel
theorem dL_law_1131 : decode cL_law 1131 = .ok (.iconst 0, 1) := by decide +kernel
theorem dL_law_1132 : decode cL_law 1132 = .ok (.ireturn, 1) := by decide +kernel
theorem dL_law_1133 : decode cL_law 1133 = .ok (.aload_n 1, 1) := by decide +kernel
theorem dL_law_1134 : decode cL_law 1134 = .ok (.aload_n 0, 1) := by decide +kernel
theorem dL_law_1135 : decode cL_law 1135 = .ok (.iload_n 3, 1) := by decide +kernel
theorem dL_law_1136 : decode cL_law 1136 = .ok (.iconst 1, 1) := by decide +kernel
theorem dL_law_1137 : decode cL_law 1137 = .ok (.iadd, 1) := by decide +kernel
theorem dL_law_1138 : decode cL_law 1138 = .ok (.iaload, 1) := by decide +kernel
theorem dL_law_1139 : decode cL_law 1139 = .ok (.invokevirtual 155, 3) := by decide +kernel
theorem dL_law_1142 : decode cL_law 1142 = .ok (.aload_n 2, 1) := by decide +kernel
theorem dL_law_1143 : decode cL_law 1143 = .ok (.aload_n 0, 1) := by decide +kernel
theorem dL_law_1144 : decode cL_law 1144 = .ok (.iload_n 3, 1) := by decide +kernel
theorem dL_law_1145 : decode cL_law 1145 = .ok (.iconst 1, 1) := by decide +kernel
theorem dL_law_1146 : decode cL_law 1146 = .ok (.iadd, 1) := by decide +kernel
theorem dL_law_1147 : decode cL_law 1147 = .ok (.iaload, 1) := by decide +kernel
theorem dL_law_1148 : decode cL_law 1148 = .ok (.invokevirtual 158, 3) := by decide +kernel
theorem dL_law_1151 : decode cL_law 1151 = .ok (.if_icmp .eq 5, 3) := by decide +kernel
theorem dL_law_1154 : decode cL_law 1154 = .ok (.iconst 0, 1) := by decide +kernel
theorem dL_law_1155 : decode cL_law 1155 = .ok (.ireturn, 1) := by decide +kernel
theorem dL_law_1156 : decode cL_law 1156 = .ok (.iinc 3 4, 3) := by decide +kernel
theorem dL_law_1159 : decode cL_law 1159 = .ok (.goto (-1141), 3) := by decide +kernel
theorem dL_law_1162 : decode cL_law 1162 = .ok (.iconst 1, 1) := by decide +kernel
theorem dL_law_1163 : decode cL_law 1163 = .ok (.ireturn, 1) := by decide +kernel

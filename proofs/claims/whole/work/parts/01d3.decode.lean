theorem dX7_best_19 : decode cX7_best 19 = .ok (.bipush 96, 2) := by decide +kernel
theorem dX7_best_21 : decode cX7_best 21 = .ok (.iload_n 3, 1) := by decide +kernel
theorem dX7_best_22 : decode cX7_best 22 = .ok (.iadd, 1) := by decide +kernel
theorem dX7_best_23 : decode cX7_best 23 = .ok (.iaload, 1) := by decide +kernel
theorem dX7_best_24 : decode cX7_best 24 = .ok (.iload_n 1, 1) := by decide +kernel
theorem dX7_best_25 : decode cX7_best 25 = .ok (.if_icmp .ne 19, 3) := by decide +kernel
theorem dX7_best_28 : decode cX7_best 28 = .ok (.iload_n 2, 1) := by decide +kernel
theorem dX7_best_29 : decode cX7_best 29 = .ok (.iconst (-1), 1) := by decide +kernel
theorem dX7_best_30 : decode cX7_best 30 = .ok (.if_icmp .eq 12, 3) := by decide +kernel
theorem dX7_best_33 : decode cX7_best 33 = .ok (.aload_n 0, 1) := by decide +kernel
theorem dX7_best_34 : decode cX7_best 34 = .ok (.iload_n 3, 1) := by decide +kernel
theorem dX7_best_35 : decode cX7_best 35 = .ok (.iload_n 2, 1) := by decide +kernel
theorem dX7_best_36 : decode cX7_best 36 = .ok (.invokevirtual 49, 3) := by decide +kernel
theorem dX7_best_39 : decode cX7_best 39 = .ok (.ifCond .eq 5, 3) := by decide +kernel
theorem dX7_best_42 : decode cX7_best 42 = .ok (.iload_n 3, 1) := by decide +kernel
theorem dX7_best_43 : decode cX7_best 43 = .ok (.istore_n 2, 1) := by decide +kernel
theorem dX7_best_44 : decode cX7_best 44 = .ok (.iinc 3 1, 3) := by decide +kernel
theorem dX7_best_47 : decode cX7_best 47 = .ok (.goto (-43), 3) := by decide +kernel
theorem dX7_best_50 : decode cX7_best 50 = .ok (.iload_n 2, 1) := by decide +kernel
theorem dX7_best_51 : decode cX7_best 51 = .ok (.ireturn, 1) := by decide +kernel
theorem dX7_leaves_0 : decode cX7_leaves 0 = .ok (.iload_n 1, 1) := by decide +kernel
theorem dX7_leaves_1 : decode cX7_leaves 1 = .ok (.istore_n 2, 1) := by decide +kernel
theorem dX7_leaves_2 : decode cX7_leaves 2 = .ok (.iload_n 2, 1) := by decide +kernel
theorem dX7_leaves_3 : decode cX7_leaves 3 = .ok (.aload_n 0, 1) := by decide +kernel
theorem dX7_leaves_4 : decode cX7_leaves 4 = .ok (.getfield 7, 3) := by decide +kernel
theorem dX7_leaves_7 : decode cX7_leaves 7 = .ok (.bipush 11, 2) := by decide +kernel
theorem dX7_leaves_9 : decode cX7_leaves 9 = .ok (.iaload, 1) := by decide +kernel
theorem dX7_leaves_10 : decode cX7_leaves 10 = .ok (.iconst 1, 1) := by decide +kernel
theorem dX7_leaves_11 : decode cX7_leaves 11 = .ok (.isub, 1) := by decide +kernel
theorem dX7_leaves_12 : decode cX7_leaves 12 = .ok (.if_icmp .ge 153, 3) := by decide +kernel
theorem dX7_leaves_15 : decode cX7_leaves 15 = .ok (.aload_n 0, 1) := by decide +kernel
theorem dX7_leaves_16 : decode cX7_leaves 16 = .ok (.getfield 7, 3) := by decide +kernel
theorem dX7_leaves_19 : decode cX7_leaves 19 = .ok (.bipush 64, 2) := by decide +kernel
theorem dX7_leaves_21 : decode cX7_leaves 21 = .ok (.iload_n 2, 1) := by decide +kernel
theorem dX7_leaves_22 : decode cX7_leaves 22 = .ok (.iadd, 1) := by decide +kernel
theorem dX7_leaves_23 : decode cX7_leaves 23 = .ok (.aload_n 0, 1) := by decide +kernel
theorem dX7_leaves_24 : decode cX7_leaves 24 = .ok (.getfield 7, 3) := by decide +kernel
theorem dX7_leaves_27 : decode cX7_leaves 27 = .ok (.bipush 64, 2) := by decide +kernel
theorem dX7_leaves_29 : decode cX7_leaves 29 = .ok (.iload_n 2, 1) := by decide +kernel
theorem dX7_leaves_30 : decode cX7_leaves 30 = .ok (.iadd, 1) := by decide +kernel
theorem dX7_leaves_31 : decode cX7_leaves 31 = .ok (.iconst 1, 1) := by decide +kernel
theorem dX7_leaves_32 : decode cX7_leaves 32 = .ok (.iadd, 1) := by decide +kernel
theorem dX7_leaves_33 : decode cX7_leaves 33 = .ok (.iaload, 1) := by decide +kernel
theorem dX7_leaves_34 : decode cX7_leaves 34 = .ok (.iastore, 1) := by decide +kernel
theorem dX7_leaves_35 : decode cX7_leaves 35 = .ok (.aload_n 0, 1) := by decide +kernel
theorem dX7_leaves_36 : decode cX7_leaves 36 = .ok (.getfield 7, 3) := by decide +kernel
theorem dX7_leaves_39 : decode cX7_leaves 39 = .ok (.bipush 80, 2) := by decide +kernel
theorem dX7_leaves_41 : decode cX7_leaves 41 = .ok (.iload_n 2, 1) := by decide +kernel
theorem dX7_leaves_42 : decode cX7_leaves 42 = .ok (.iadd, 1) := by decide +kernel
theorem dX7_leaves_43 : decode cX7_leaves 43 = .ok (.aload_n 0, 1) := by decide +kernel
theorem dX7_leaves_44 : decode cX7_leaves 44 = .ok (.getfield 7, 3) := by decide +kernel
theorem dX7_leaves_47 : decode cX7_leaves 47 = .ok (.bipush 80, 2) := by decide +kernel
theorem dX7_leaves_49 : decode cX7_leaves 49 = .ok (.iload_n 2, 1) := by decide +kernel
theorem dX7_leaves_50 : decode cX7_leaves 50 = .ok (.iadd, 1) := by decide +kernel
theorem dX7_leaves_51 : decode cX7_leaves 51 = .ok (.iconst 1, 1) := by decide +kernel
theorem dX7_leaves_52 : decode cX7_leaves 52 = .ok (.iadd, 1) := by decide +kernel
theorem dX7_leaves_53 : decode cX7_leaves 53 = .ok (.iaload, 1) := by decide +kernel
theorem dX7_leaves_54 : decode cX7_leaves 54 = .ok (.iastore, 1) := by decide +kernel
theorem dX7_leaves_55 : decode cX7_leaves 55 = .ok (.aload_n 0, 1) := by decide +kernel
theorem dX7_leaves_56 : decode cX7_leaves 56 = .ok (.getfield 7, 3) := by decide +kernel
theorem dX7_leaves_59 : decode cX7_leaves 59 = .ok (.bipush 96, 2) := by decide +kernel
theorem dX7_leaves_61 : decode cX7_leaves 61 = .ok (.iload_n 2, 1) := by decide +kernel
theorem dX7_leaves_62 : decode cX7_leaves 62 = .ok (.iadd, 1) := by decide +kernel
theorem dX7_leaves_63 : decode cX7_leaves 63 = .ok (.aload_n 0, 1) := by decide +kernel
theorem dX7_leaves_64 : decode cX7_leaves 64 = .ok (.getfield 7, 3) := by decide +kernel
theorem dX7_leaves_67 : decode cX7_leaves 67 = .ok (.bipush 96, 2) := by decide +kernel
theorem dX7_leaves_69 : decode cX7_leaves 69 = .ok (.iload_n 2, 1) := by decide +kernel
theorem dX7_leaves_70 : decode cX7_leaves 70 = .ok (.iadd, 1) := by decide +kernel
theorem dX7_leaves_71 : decode cX7_leaves 71 = .ok (.iconst 1, 1) := by decide +kernel
theorem dX7_leaves_72 : decode cX7_leaves 72 = .ok (.iadd, 1) := by decide +kernel
theorem dX7_leaves_73 : decode cX7_leaves 73 = .ok (.iaload, 1) := by decide +kernel
theorem dX7_leaves_74 : decode cX7_leaves 74 = .ok (.iastore, 1) := by decide +kernel
theorem dX7_leaves_75 : decode cX7_leaves 75 = .ok (.aload_n 0, 1) := by decide +kernel
theorem dX7_leaves_76 : decode cX7_leaves 76 = .ok (.getfield 7, 3) := by decide +kernel
theorem dX7_leaves_79 : decode cX7_leaves 79 = .ok (.bipush 112, 2) := by decide +kernel
theorem dX7_leaves_81 : decode cX7_leaves 81 = .ok (.iload_n 2, 1) := by decide +kernel
theorem dX7_leaves_82 : decode cX7_leaves 82 = .ok (.iadd, 1) := by decide +kernel
theorem dX7_leaves_83 : decode cX7_leaves 83 = .ok (.aload_n 0, 1) := by decide +kernel
theorem dX7_leaves_84 : decode cX7_leaves 84 = .ok (.getfield 7, 3) := by decide +kernel
theorem dX7_leaves_87 : decode cX7_leaves 87 = .ok (.bipush 112, 2) := by decide +kernel
theorem dX7_leaves_89 : decode cX7_leaves 89 = .ok (.iload_n 2, 1) := by decide +kernel
theorem dX7_leaves_90 : decode cX7_leaves 90 = .ok (.iadd, 1) := by decide +kernel
theorem dX7_leaves_91 : decode cX7_leaves 91 = .ok (.iconst 1, 1) := by decide +kernel
theorem dX7_leaves_92 : decode cX7_leaves 92 = .ok (.iadd, 1) := by decide +kernel
theorem dX7_leaves_93 : decode cX7_leaves 93 = .ok (.iaload, 1) := by decide +kernel
theorem dX7_leaves_94 : decode cX7_leaves 94 = .ok (.iastore, 1) := by decide +kernel
theorem dX7_leaves_95 : decode cX7_leaves 95 = .ok (.aload_n 0, 1) := by decide +kernel
theorem dX7_leaves_96 : decode cX7_leaves 96 = .ok (.getfield 7, 3) := by decide +kernel
theorem dX7_leaves_99 : decode cX7_leaves 99 = .ok (.sipush 128, 3) := by decide +kernel
theorem dX7_leaves_102 : decode cX7_leaves 102 = .ok (.iload_n 2, 1) := by decide +kernel
theorem dX7_leaves_103 : decode cX7_leaves 103 = .ok (.iadd, 1) := by decide +kernel
theorem dX7_leaves_104 : decode cX7_leaves 104 = .ok (.aload_n 0, 1) := by decide +kernel
theorem dX7_leaves_105 : decode cX7_leaves 105 = .ok (.getfield 7, 3) := by decide +kernel
theorem dX7_leaves_108 : decode cX7_leaves 108 = .ok (.sipush 128, 3) := by decide +kernel
theorem dX7_leaves_111 : decode cX7_leaves 111 = .ok (.iload_n 2, 1) := by decide +kernel
theorem dX7_leaves_112 : decode cX7_leaves 112 = .ok (.iadd, 1) := by decide +kernel
theorem dX7_leaves_113 : decode cX7_leaves 113 = .ok (.iconst 1, 1) := by decide +kernel
theorem dX7_leaves_114 : decode cX7_leaves 114 = .ok (.iadd, 1) := by decide +kernel
theorem dX7_leaves_115 : decode cX7_leaves 115 = .ok (.iaload, 1) := by decide +kernel
theorem dX7_leaves_116 : decode cX7_leaves 116 = .ok (.iastore, 1) := by decide +kernel
theorem dX7_leaves_117 : decode cX7_leaves 117 = .ok (.iconst 0, 1) := by decide +kernel
theorem dX7_leaves_118 : decode cX7_leaves 118 = .ok (.istore_n 3, 1) := by decide +kernel
theorem dX7_leaves_119 : decode cX7_leaves 119 = .ok (.iload_n 3, 1) := by decide +kernel
theorem dX7_leaves_120 : decode cX7_leaves 120 = .ok (.aload_n 0, 1) := by decide +kernel
theorem dX7_leaves_121 : decode cX7_leaves 121 = .ok (.getfield 7, 3) := by decide +kernel
theorem dX7_leaves_124 : decode cX7_leaves 124 = .ok (.iconst 0, 1) := by decide +kernel
theorem dX7_leaves_125 : decode cX7_leaves 125 = .ok (.iaload, 1) := by decide +kernel
theorem dX7_leaves_126 : decode cX7_leaves 126 = .ok (.if_icmp .gt 33, 3) := by decide +kernel
theorem dX7_leaves_129 : decode cX7_leaves 129 = .ok (.aload_n 0, 1) := by decide +kernel
theorem dX7_leaves_130 : decode cX7_leaves 130 = .ok (.getfield 7, 3) := by decide +kernel
theorem dX7_leaves_133 : decode cX7_leaves 133 = .ok (.iload_n 2, 1) := by decide +kernel
theorem dX7_leaves_134 : decode cX7_leaves 134 = .ok (.invokestatic 53, 3) := by decide +kernel
theorem dX7_leaves_137 : decode cX7_leaves 137 = .ok (.iload_n 3, 1) := by decide +kernel
theorem dX7_leaves_138 : decode cX7_leaves 138 = .ok (.iadd, 1) := by decide +kernel
theorem dX7_leaves_139 : decode cX7_leaves 139 = .ok (.aload_n 0, 1) := by decide +kernel
theorem dX7_leaves_140 : decode cX7_leaves 140 = .ok (.getfield 7, 3) := by decide +kernel
theorem dX7_leaves_143 : decode cX7_leaves 143 = .ok (.iload_n 2, 1) := by decide +kernel
theorem dX7_leaves_144 : decode cX7_leaves 144 = .ok (.iconst 1, 1) := by decide +kernel
theorem dX7_leaves_145 : decode cX7_leaves 145 = .ok (.iadd, 1) := by decide +kernel
theorem dX7_leaves_146 : decode cX7_leaves 146 = .ok (.invokestatic 53, 3) := by decide +kernel
theorem dX7_leaves_149 : decode cX7_leaves 149 = .ok (.iload_n 3, 1) := by decide +kernel
theorem dX7_leaves_150 : decode cX7_leaves 150 = .ok (.iadd, 1) := by decide +kernel
theorem dX7_leaves_151 : decode cX7_leaves 151 = .ok (.iaload, 1) := by decide +kernel
theorem dX7_leaves_152 : decode cX7_leaves 152 = .ok (.iastore, 1) := by decide +kernel
theorem dX7_leaves_153 : decode cX7_leaves 153 = .ok (.iinc 3 1, 3) := by decide +kernel
theorem dX7_leaves_156 : decode cX7_leaves 156 = .ok (.goto (-37), 3) := by decide +kernel
theorem dX7_leaves_159 : decode cX7_leaves 159 = .ok (.iinc 2 1, 3) := by decide +kernel
theorem dX7_leaves_162 : decode cX7_leaves 162 = .ok (.goto (-160), 3) := by decide +kernel
theorem dX7_leaves_165 : decode cX7_leaves 165 = .ok (.aload_n 0, 1) := by decide +kernel
theorem dX7_leaves_166 : decode cX7_leaves 166 = .ok (.getfield 7, 3) := by decide +kernel
theorem dX7_leaves_169 : decode cX7_leaves 169 = .ok (.bipush 11, 2) := by decide +kernel
theorem dX7_leaves_171 : decode cX7_leaves 171 = .ok (.dup2, 1) := by decide +kernel
theorem dX7_leaves_172 : decode cX7_leaves 172 = .ok (.iaload, 1) := by decide +kernel
theorem dX7_leaves_173 : decode cX7_leaves 173 = .ok (.iconst 1, 1) := by decide +kernel
theorem dX7_leaves_174 : decode cX7_leaves 174 = .ok (.isub, 1) := by decide +kernel
theorem dX7_leaves_175 : decode cX7_leaves 175 = .ok (.iastore, 1) := by decide +kernel
theorem dX7_leaves_176 : decode cX7_leaves 176 = .ok (.iconst 0, 1) := by decide +kernel
theorem dX7_leaves_177 : decode cX7_leaves 177 = .ok (.istore_n 2, 1) := by decide +kernel
theorem dX7_leaves_178 : decode cX7_leaves 178 = .ok (.iload_n 2, 1) := by decide +kernel
theorem dX7_leaves_179 : decode cX7_leaves 179 = .ok (.aload_n 0, 1) := by decide +kernel
theorem dX7_leaves_180 : decode cX7_leaves 180 = .ok (.getfield 7, 3) := by decide +kernel
theorem dX7_leaves_183 : decode cX7_leaves 183 = .ok (.iconst 0, 1) := by decide +kernel
theorem dX7_leaves_184 : decode cX7_leaves 184 = .ok (.iaload, 1) := by decide +kernel
theorem dX7_leaves_185 : decode cX7_leaves 185 = .ok (.if_icmp .gt 27, 3) := by decide +kernel
theorem dX7_leaves_188 : decode cX7_leaves 188 = .ok (.aload_n 0, 1) := by decide +kernel
theorem dX7_leaves_189 : decode cX7_leaves 189 = .ok (.getfield 7, 3) := by decide +kernel
theorem dX7_leaves_192 : decode cX7_leaves 192 = .ok (.aload_n 0, 1) := by decide +kernel
theorem dX7_leaves_193 : decode cX7_leaves 193 = .ok (.getfield 7, 3) := by decide +kernel
theorem dX7_leaves_196 : decode cX7_leaves 196 = .ok (.bipush 11, 2) := by decide +kernel
theorem dX7_leaves_198 : decode cX7_leaves 198 = .ok (.iaload, 1) := by decide +kernel
theorem dX7_leaves_199 : decode cX7_leaves 199 = .ok (.invokestatic 53, 3) := by decide +kernel
theorem dX7_leaves_202 : decode cX7_leaves 202 = .ok (.iload_n 2, 1) := by decide +kernel
theorem dX7_leaves_203 : decode cX7_leaves 203 = .ok (.iadd, 1) := by decide +kernel
theorem dX7_leaves_204 : decode cX7_leaves 204 = .ok (.iconst 0, 1) := by decide +kernel
theorem dX7_leaves_205 : decode cX7_leaves 205 = .ok (.iastore, 1) := by decide +kernel
theorem dX7_leaves_206 : decode cX7_leaves 206 = .ok (.iinc 2 1, 3) := by decide +kernel
theorem dX7_leaves_209 : decode cX7_leaves 209 = .ok (.goto (-31), 3) := by decide +kernel
theorem dX7_leaves_212 : decode cX7_leaves 212 = .ok (.return_, 1) := by decide +kernel
theorem dX7_trades_0 : decode cX7_trades 0 = .ok (.aload_n 0, 1) := by decide +kernel
theorem dX7_trades_1 : decode cX7_trades 1 = .ok (.getfield 7, 3) := by decide +kernel
theorem dX7_trades_4 : decode cX7_trades 4 = .ok (.bipush 20, 2) := by decide +kernel
theorem dX7_trades_6 : decode cX7_trades 6 = .ok (.iload_n 2, 1) := by decide +kernel
theorem dX7_trades_7 : decode cX7_trades 7 = .ok (.iadd, 1) := by decide +kernel
theorem dX7_trades_8 : decode cX7_trades 8 = .ok (.dup2, 1) := by decide +kernel
theorem dX7_trades_9 : decode cX7_trades 9 = .ok (.iaload, 1) := by decide +kernel
theorem dX7_trades_10 : decode cX7_trades 10 = .ok (.iload_n 3, 1) := by decide +kernel
theorem dX7_trades_11 : decode cX7_trades 11 = .ok (.iload 4, 2) := by decide +kernel
theorem dX7_trades_13 : decode cX7_trades 13 = .ok (.imul, 1) := by decide +kernel
theorem dX7_trades_14 : decode cX7_trades 14 = .ok (.iadd, 1) := by decide +kernel
theorem dX7_trades_15 : decode cX7_trades 15 = .ok (.iastore, 1) := by decide +kernel
theorem dX7_trades_16 : decode cX7_trades 16 = .ok (.aload_n 0, 1) := by decide +kernel
theorem dX7_trades_17 : decode cX7_trades 17 = .ok (.iload 5, 2) := by decide +kernel
theorem dX7_trades_19 : decode cX7_trades 19 = .ok (.iload_n 1, 1) := by decide +kernel
theorem dX7_trades_20 : decode cX7_trades 20 = .ok (.invokestatic 45, 3) := by decide +kernel
theorem dX7_trades_23 : decode cX7_trades 23 = .ok (.iload_n 3, 1) := by decide +kernel
theorem dX7_trades_24 : decode cX7_trades 24 = .ok (.invokevirtual 56, 3) := by decide +kernel
theorem dX7_trades_27 : decode cX7_trades 27 = .ok (.aload_n 0, 1) := by decide +kernel
theorem dX7_trades_28 : decode cX7_trades 28 = .ok (.getfield 7, 3) := by decide +kernel
theorem dX7_trades_31 : decode cX7_trades 31 = .ok (.bipush 7, 2) := by decide +kernel
theorem dX7_trades_33 : decode cX7_trades 33 = .ok (.dup2, 1) := by decide +kernel
theorem dX7_trades_34 : decode cX7_trades 34 = .ok (.iaload, 1) := by decide +kernel
theorem dX7_trades_35 : decode cX7_trades 35 = .ok (.iload_n 3, 1) := by decide +kernel
theorem dX7_trades_36 : decode cX7_trades 36 = .ok (.iadd, 1) := by decide +kernel
theorem dX7_trades_37 : decode cX7_trades 37 = .ok (.iastore, 1) := by decide +kernel
theorem dX7_trades_38 : decode cX7_trades 38 = .ok (.aload_n 0, 1) := by decide +kernel
theorem dX7_trades_39 : decode cX7_trades 39 = .ok (.getfield 7, 3) := by decide +kernel
theorem dX7_trades_42 : decode cX7_trades 42 = .ok (.bipush 8, 2) := by decide +kernel
theorem dX7_trades_44 : decode cX7_trades 44 = .ok (.iload 4, 2) := by decide +kernel
theorem dX7_trades_46 : decode cX7_trades 46 = .ok (.iastore, 1) := by decide +kernel
theorem dX7_trades_47 : decode cX7_trades 47 = .ok (.return_, 1) := by decide +kernel
theorem dX7_wrong_0 : decode cX7_wrong 0 = .ok (.iload_n 2, 1) := by decide +kernel
theorem dX7_wrong_1 : decode cX7_wrong 1 = .ok (.invokestatic 38, 3) := by decide +kernel
theorem dX7_wrong_4 : decode cX7_wrong 4 = .ok (.ifCond .ne 5, 3) := by decide +kernel
theorem dX7_wrong_7 : decode cX7_wrong 7 = .ok (.iconst (-1), 1) := by decide +kernel
theorem dX7_wrong_8 : decode cX7_wrong 8 = .ok (.ireturn, 1) := by decide +kernel
theorem dX7_wrong_9 : decode cX7_wrong 9 = .ok (.iload_n 3, 1) := by decide +kernel
theorem dX7_wrong_10 : decode cX7_wrong 10 = .ok (.iconst 1, 1) := by decide +kernel
theorem dX7_wrong_11 : decode cX7_wrong 11 = .ok (.sipush 999, 3) := by decide +kernel
theorem dX7_wrong_14 : decode cX7_wrong 14 = .ok (.invokestatic 29, 3) := by decide +kernel
theorem dX7_wrong_17 : decode cX7_wrong 17 = .ok (.ifCond .eq 25, 3) := by decide +kernel
theorem dX7_wrong_20 : decode cX7_wrong 20 = .ok (.iload 4, 2) := by decide +kernel
theorem dX7_wrong_22 : decode cX7_wrong 22 = .ok (.aload_n 0, 1) := by decide +kernel
theorem dX7_wrong_23 : decode cX7_wrong 23 = .ok (.getfield 7, 3) := by decide +kernel
theorem dX7_wrong_26 : decode cX7_wrong 26 = .ok (.bipush 12, 2) := by decide +kernel
theorem dX7_wrong_28 : decode cX7_wrong 28 = .ok (.iaload, 1) := by decide +kernel
theorem dX7_wrong_29 : decode cX7_wrong 29 = .ok (.aload_n 0, 1) := by decide +kernel
theorem dX7_wrong_30 : decode cX7_wrong 30 = .ok (.getfield 7, 3) := by decide +kernel
theorem dX7_wrong_33 : decode cX7_wrong 33 = .ok (.bipush 13, 2) := by decide +kernel
theorem dX7_wrong_35 : decode cX7_wrong 35 = .ok (.iaload, 1) := by decide +kernel
theorem dX7_wrong_36 : decode cX7_wrong 36 = .ok (.invokestatic 29, 3) := by decide +kernel
theorem dX7_wrong_39 : decode cX7_wrong 39 = .ok (.ifCond .ne 6, 3) := by decide +kernel
theorem dX7_wrong_42 : decode cX7_wrong 42 = .ok (.bipush (-2), 2) := by decide +kernel
theorem dX7_wrong_44 : decode cX7_wrong 44 = .ok (.ireturn, 1) := by decide +kernel
theorem dX7_wrong_45 : decode cX7_wrong 45 = .ok (.iload_n 1, 1) := by decide +kernel
theorem dX7_wrong_46 : decode cX7_wrong 46 = .ok (.iconst 1, 1) := by decide +kernel
theorem dX7_wrong_47 : decode cX7_wrong 47 = .ok (.if_icmp .ne 28, 3) := by decide +kernel
theorem dX7_wrong_50 : decode cX7_wrong 50 = .ok (.aload_n 0, 1) := by decide +kernel
theorem dX7_wrong_51 : decode cX7_wrong 51 = .ok (.getfield 7, 3) := by decide +kernel
theorem dX7_wrong_54 : decode cX7_wrong 54 = .ok (.bipush 20, 2) := by decide +kernel
theorem dX7_wrong_56 : decode cX7_wrong 56 = .ok (.iload_n 2, 1) := by decide +kernel
theorem dX7_wrong_57 : decode cX7_wrong 57 = .ok (.iadd, 1) := by decide +kernel
theorem dX7_wrong_58 : decode cX7_wrong 58 = .ok (.iaload, 1) := by decide +kernel
theorem dX7_wrong_59 : decode cX7_wrong 59 = .ok (.iload_n 3, 1) := by decide +kernel
theorem dX7_wrong_60 : decode cX7_wrong 60 = .ok (.iload 4, 2) := by decide +kernel
theorem dX7_wrong_62 : decode cX7_wrong 62 = .ok (.imul, 1) := by decide +kernel
theorem dX7_wrong_63 : decode cX7_wrong 63 = .ok (.if_icmp .ge 8, 3) := by decide +kernel
theorem dX7_wrong_66 : decode cX7_wrong 66 = .ok (.bipush (-3), 2) := by decide +kernel
theorem dX7_wrong_68 : decode cX7_wrong 68 = .ok (.goto 22, 3) := by decide +kernel
theorem dX7_wrong_71 : decode cX7_wrong 71 = .ok (.iconst 0, 1) := by decide +kernel
theorem dX7_wrong_72 : decode cX7_wrong 72 = .ok (.goto 18, 3) := by decide +kernel
theorem dX7_wrong_75 : decode cX7_wrong 75 = .ok (.aload_n 0, 1) := by decide +kernel
theorem dX7_wrong_76 : decode cX7_wrong 76 = .ok (.iload_n 2, 1) := by decide +kernel
theorem dX7_wrong_77 : decode cX7_wrong 77 = .ok (.invokevirtual 60, 3) := by decide +kernel
theorem dX7_wrong_80 : decode cX7_wrong 80 = .ok (.iload_n 3, 1) := by decide +kernel
theorem dX7_wrong_81 : decode cX7_wrong 81 = .ok (.if_icmp .ge 8, 3) := by decide +kernel
theorem dX7_wrong_84 : decode cX7_wrong 84 = .ok (.bipush (-3), 2) := by decide +kernel
theorem dX7_wrong_86 : decode cX7_wrong 86 = .ok (.goto 4, 3) := by decide +kernel
theorem dX7_wrong_89 : decode cX7_wrong 89 = .ok (.iconst 0, 1) := by decide +kernel
theorem dX7_wrong_90 : decode cX7_wrong 90 = .ok (.ireturn, 1) := by decide +kernel
theorem dX7_comes_0 : decode cX7_comes 0 = .ok (.iload_n 3, 1) := by decide +kernel
theorem dX7_comes_1 : decode cX7_comes 1 = .ok (.istore 5, 2) := by decide +kernel
theorem dX7_comes_3 : decode cX7_comes 3 = .ok (.iload_n 1, 1) := by decide +kernel
theorem dX7_comes_4 : decode cX7_comes 4 = .ok (.iconst 1, 1) := by decide +kernel
theorem dX7_comes_5 : decode cX7_comes 5 = .ok (.if_icmp .ne 22, 3) := by decide +kernel
theorem dX7_comes_8 : decode cX7_comes 8 = .ok (.aload_n 0, 1) := by decide +kernel
theorem dX7_comes_9 : decode cX7_comes 9 = .ok (.getfield 7, 3) := by decide +kernel
theorem dX7_comes_12 : decode cX7_comes 12 = .ok (.bipush 20, 2) := by decide +kernel
theorem dX7_comes_14 : decode cX7_comes 14 = .ok (.iload_n 2, 1) := by decide +kernel
theorem dX7_comes_15 : decode cX7_comes 15 = .ok (.iadd, 1) := by decide +kernel
theorem dX7_comes_16 : decode cX7_comes 16 = .ok (.dup2, 1) := by decide +kernel
theorem dX7_comes_17 : decode cX7_comes 17 = .ok (.iaload, 1) := by decide +kernel
theorem dX7_comes_18 : decode cX7_comes 18 = .ok (.iload_n 3, 1) := by decide +kernel
theorem dX7_comes_19 : decode cX7_comes 19 = .ok (.iload 4, 2) := by decide +kernel
theorem dX7_comes_21 : decode cX7_comes 21 = .ok (.imul, 1) := by decide +kernel
theorem dX7_comes_22 : decode cX7_comes 22 = .ok (.isub, 1) := by decide +kernel
theorem dX7_comes_23 : decode cX7_comes 23 = .ok (.iastore, 1) := by decide +kernel
theorem dX7_comes_24 : decode cX7_comes 24 = .ok (.goto 17, 3) := by decide +kernel
theorem dX7_comes_27 : decode cX7_comes 27 = .ok (.aload_n 0, 1) := by decide +kernel
theorem dX7_comes_28 : decode cX7_comes 28 = .ok (.iload_n 2, 1) := by decide +kernel
theorem dX7_comes_29 : decode cX7_comes 29 = .ok (.invokestatic 45, 3) := by decide +kernel
theorem dX7_comes_32 : decode cX7_comes 32 = .ok (.bipush 16, 2) := by decide +kernel
theorem dX7_comes_34 : decode cX7_comes 34 = .ok (.invokestatic 53, 3) := by decide +kernel
theorem dX7_comes_37 : decode cX7_comes 37 = .ok (.iload_n 3, 1) := by decide +kernel
theorem dX7_comes_38 : decode cX7_comes 38 = .ok (.invokevirtual 56, 3) := by decide +kernel
theorem dX7_comes_41 : decode cX7_comes 41 = .ok (.aload_n 0, 1) := by decide +kernel
theorem dX7_comes_42 : decode cX7_comes 42 = .ok (.iconst 1, 1) := by decide +kernel
theorem dX7_comes_43 : decode cX7_comes 43 = .ok (.iload_n 1, 1) := by decide +kernel
theorem dX7_comes_44 : decode cX7_comes 44 = .ok (.isub, 1) := by decide +kernel
theorem dX7_comes_45 : decode cX7_comes 45 = .ok (.invokevirtual 63, 3) := by decide +kernel
theorem dX7_comes_48 : decode cX7_comes 48 = .ok (.istore 6, 2) := by decide +kernel
theorem dX7_comes_50 : decode cX7_comes 50 = .ok (.iload 5, 2) := by decide +kernel
theorem dX7_comes_52 : decode cX7_comes 52 = .ok (.ifCond .le 222, 3) := by decide +kernel
theorem dX7_comes_55 : decode cX7_comes 55 = .ok (.iload 6, 2) := by decide +kernel
theorem dX7_comes_57 : decode cX7_comes 57 = .ok (.ifCond .lt 217, 3) := by decide +kernel
theorem dX7_comes_60 : decode cX7_comes 60 = .ok (.iload_n 1, 1) := by decide +kernel
theorem dX7_comes_61 : decode cX7_comes 61 = .ok (.iconst 1, 1) := by decide +kernel
theorem dX7_comes_62 : decode cX7_comes 62 = .ok (.if_icmp .ne 22, 3) := by decide +kernel
theorem dX7_comes_65 : decode cX7_comes 65 = .ok (.aload_n 0, 1) := by decide +kernel
theorem dX7_comes_66 : decode cX7_comes 66 = .ok (.getfield 7, 3) := by decide +kernel
theorem dX7_comes_69 : decode cX7_comes 69 = .ok (.sipush 128, 3) := by decide +kernel
theorem dX7_comes_72 : decode cX7_comes 72 = .ok (.iload 6, 2) := by decide +kernel
theorem dX7_comes_74 : decode cX7_comes 74 = .ok (.iadd, 1) := by decide +kernel
theorem dX7_comes_75 : decode cX7_comes 75 = .ok (.iaload, 1) := by decide +kernel
theorem dX7_comes_76 : decode cX7_comes 76 = .ok (.iload 4, 2) := by decide +kernel
theorem dX7_comes_78 : decode cX7_comes 78 = .ok (.if_icmp .gt 196, 3) := by decide +kernel
theorem dX7_comes_81 : decode cX7_comes 81 = .ok (.goto 19, 3) := by decide +kernel
theorem dX7_comes_84 : decode cX7_comes 84 = .ok (.aload_n 0, 1) := by decide +kernel
theorem dX7_comes_85 : decode cX7_comes 85 = .ok (.getfield 7, 3) := by decide +kernel
theorem dX7_comes_88 : decode cX7_comes 88 = .ok (.sipush 128, 3) := by decide +kernel
theorem dX7_comes_91 : decode cX7_comes 91 = .ok (.iload 6, 2) := by decide +kernel
theorem dX7_comes_93 : decode cX7_comes 93 = .ok (.iadd, 1) := by decide +kernel
theorem dX7_comes_94 : decode cX7_comes 94 = .ok (.iaload, 1) := by decide +kernel
theorem dX7_comes_95 : decode cX7_comes 95 = .ok (.iload 4, 2) := by decide +kernel
theorem dX7_comes_97 : decode cX7_comes 97 = .ok (.if_icmp .lt 177, 3) := by decide +kernel
theorem dX7_comes_100 : decode cX7_comes 100 = .ok (.aload_n 0, 1) := by decide +kernel
theorem dX7_comes_101 : decode cX7_comes 101 = .ok (.getfield 7, 3) := by decide +kernel
theorem dX7_comes_104 : decode cX7_comes 104 = .ok (.bipush 112, 2) := by decide +kernel
theorem dX7_comes_106 : decode cX7_comes 106 = .ok (.iload 6, 2) := by decide +kernel
theorem dX7_comes_108 : decode cX7_comes 108 = .ok (.iadd, 1) := by decide +kernel
theorem dX7_comes_109 : decode cX7_comes 109 = .ok (.iaload, 1) := by decide +kernel
theorem dX7_comes_110 : decode cX7_comes 110 = .ok (.iload 5, 2) := by decide +kernel
theorem dX7_comes_112 : decode cX7_comes 112 = .ok (.if_icmp .ge 16, 3) := by decide +kernel
theorem dX7_comes_115 : decode cX7_comes 115 = .ok (.aload_n 0, 1) := by decide +kernel
theorem dX7_comes_116 : decode cX7_comes 116 = .ok (.getfield 7, 3) := by decide +kernel
theorem dX7_comes_119 : decode cX7_comes 119 = .ok (.bipush 112, 2) := by decide +kernel
theorem dX7_comes_121 : decode cX7_comes 121 = .ok (.iload 6, 2) := by decide +kernel
theorem dX7_comes_123 : decode cX7_comes 123 = .ok (.iadd, 1) := by decide +kernel
theorem dX7_comes_124 : decode cX7_comes 124 = .ok (.iaload, 1) := by decide +kernel
theorem dX7_comes_125 : decode cX7_comes 125 = .ok (.goto 5, 3) := by decide +kernel
theorem dX7_comes_128 : decode cX7_comes 128 = .ok (.iload 5, 2) := by decide +kernel
theorem dX7_comes_130 : decode cX7_comes 130 = .ok (.istore 7, 2) := by decide +kernel
theorem dX7_comes_132 : decode cX7_comes 132 = .ok (.aload_n 0, 1) := by decide +kernel
theorem dX7_comes_133 : decode cX7_comes 133 = .ok (.getfield 7, 3) := by decide +kernel
theorem dX7_comes_136 : decode cX7_comes 136 = .ok (.sipush 128, 3) := by decide +kernel
theorem dX7_comes_139 : decode cX7_comes 139 = .ok (.iload 6, 2) := by decide +kernel
theorem dX7_comes_141 : decode cX7_comes 141 = .ok (.iadd, 1) := by decide +kernel
theorem dX7_comes_142 : decode cX7_comes 142 = .ok (.iaload, 1) := by decide +kernel
theorem dX7_comes_143 : decode cX7_comes 143 = .ok (.istore 8, 2) := by decide +kernel
theorem dX7_comes_145 : decode cX7_comes 145 = .ok (.iload_n 1, 1) := by decide +kernel
theorem dX7_comes_146 : decode cX7_comes 146 = .ok (.iconst 1, 1) := by decide +kernel
theorem dX7_comes_147 : decode cX7_comes 147 = .ok (.if_icmp .ne 50, 3) := by decide +kernel
theorem dX7_comes_150 : decode cX7_comes 150 = .ok (.aload_n 0, 1) := by decide +kernel
theorem dX7_comes_151 : decode cX7_comes 151 = .ok (.iload_n 2, 1) := by decide +kernel
theorem dX7_comes_152 : decode cX7_comes 152 = .ok (.aload_n 0, 1) := by decide +kernel
theorem dX7_comes_153 : decode cX7_comes 153 = .ok (.getfield 7, 3) := by decide +kernel
theorem dX7_comes_156 : decode cX7_comes 156 = .ok (.bipush 80, 2) := by decide +kernel
theorem dX7_comes_158 : decode cX7_comes 158 = .ok (.iload 6, 2) := by decide +kernel
theorem dX7_comes_160 : decode cX7_comes 160 = .ok (.iadd, 1) := by decide +kernel
theorem dX7_comes_161 : decode cX7_comes 161 = .ok (.iaload, 1) := by decide +kernel
theorem dX7_comes_162 : decode cX7_comes 162 = .ok (.iload 7, 2) := by decide +kernel
theorem dX7_comes_164 : decode cX7_comes 164 = .ok (.iload 8, 2) := by decide +kernel
theorem dX7_comes_166 : decode cX7_comes 166 = .ok (.iload 6, 2) := by decide +kernel
theorem dX7_comes_168 : decode cX7_comes 168 = .ok (.invokestatic 53, 3) := by decide +kernel
theorem dX7_comes_171 : decode cX7_comes 171 = .ok (.invokevirtual 66, 3) := by decide +kernel
theorem dX7_comes_174 : decode cX7_comes 174 = .ok (.aload_n 0, 1) := by decide +kernel
theorem dX7_comes_175 : decode cX7_comes 175 = .ok (.getfield 7, 3) := by decide +kernel
theorem dX7_comes_178 : decode cX7_comes 178 = .ok (.bipush 20, 2) := by decide +kernel
theorem dX7_comes_180 : decode cX7_comes 180 = .ok (.iload_n 2, 1) := by decide +kernel
theorem dX7_comes_181 : decode cX7_comes 181 = .ok (.iadd, 1) := by decide +kernel
theorem dX7_comes_182 : decode cX7_comes 182 = .ok (.dup2, 1) := by decide +kernel
theorem dX7_comes_183 : decode cX7_comes 183 = .ok (.iaload, 1) := by decide +kernel
theorem dX7_comes_184 : decode cX7_comes 184 = .ok (.iload 7, 2) := by decide +kernel
theorem dX7_comes_186 : decode cX7_comes 186 = .ok (.iload 4, 2) := by decide +kernel
theorem dX7_comes_188 : decode cX7_comes 188 = .ok (.iload 8, 2) := by decide +kernel
theorem dX7_comes_190 : decode cX7_comes 190 = .ok (.isub, 1) := by decide +kernel
theorem dX7_comes_191 : decode cX7_comes 191 = .ok (.imul, 1) := by decide +kernel
theorem dX7_comes_192 : decode cX7_comes 192 = .ok (.iadd, 1) := by decide +kernel
theorem dX7_comes_193 : decode cX7_comes 193 = .ok (.iastore, 1) := by decide +kernel
theorem dX7_comes_194 : decode cX7_comes 194 = .ok (.goto 27, 3) := by decide +kernel
theorem dX7_comes_197 : decode cX7_comes 197 = .ok (.aload_n 0, 1) := by decide +kernel
theorem dX7_comes_198 : decode cX7_comes 198 = .ok (.aload_n 0, 1) := by decide +kernel
theorem dX7_comes_199 : decode cX7_comes 199 = .ok (.getfield 7, 3) := by decide +kernel
theorem dX7_comes_202 : decode cX7_comes 202 = .ok (.bipush 80, 2) := by decide +kernel
theorem dX7_comes_204 : decode cX7_comes 204 = .ok (.iload 6, 2) := by decide +kernel
theorem dX7_comes_206 : decode cX7_comes 206 = .ok (.iadd, 1) := by decide +kernel
theorem dX7_comes_207 : decode cX7_comes 207 = .ok (.iaload, 1) := by decide +kernel
theorem dX7_comes_208 : decode cX7_comes 208 = .ok (.iload_n 2, 1) := by decide +kernel
theorem dX7_comes_209 : decode cX7_comes 209 = .ok (.iload 7, 2) := by decide +kernel
theorem dX7_comes_211 : decode cX7_comes 211 = .ok (.iload 8, 2) := by decide +kernel
theorem dX7_comes_213 : decode cX7_comes 213 = .ok (.bipush 16, 2) := by decide +kernel
theorem dX7_comes_215 : decode cX7_comes 215 = .ok (.invokestatic 53, 3) := by decide +kernel
theorem dX7_comes_218 : decode cX7_comes 218 = .ok (.invokevirtual 66, 3) := by decide +kernel
theorem dX7_comes_221 : decode cX7_comes 221 = .ok (.iload 5, 2) := by decide +kernel
theorem dX7_comes_223 : decode cX7_comes 223 = .ok (.iload 7, 2) := by decide +kernel
theorem dX7_comes_225 : decode cX7_comes 225 = .ok (.isub, 1) := by decide +kernel
theorem dX7_comes_226 : decode cX7_comes 226 = .ok (.istore 5, 2) := by decide +kernel
theorem dX7_comes_228 : decode cX7_comes 228 = .ok (.aload_n 0, 1) := by decide +kernel
theorem dX7_comes_229 : decode cX7_comes 229 = .ok (.getfield 7, 3) := by decide +kernel
theorem dX7_comes_232 : decode cX7_comes 232 = .ok (.bipush 112, 2) := by decide +kernel
theorem dX7_comes_234 : decode cX7_comes 234 = .ok (.iload 6, 2) := by decide +kernel
theorem dX7_comes_236 : decode cX7_comes 236 = .ok (.iadd, 1) := by decide +kernel
theorem dX7_comes_237 : decode cX7_comes 237 = .ok (.dup2, 1) := by decide +kernel
theorem dX7_comes_238 : decode cX7_comes 238 = .ok (.iaload, 1) := by decide +kernel
theorem dX7_comes_239 : decode cX7_comes 239 = .ok (.iload 7, 2) := by decide +kernel
theorem dX7_comes_241 : decode cX7_comes 241 = .ok (.isub, 1) := by decide +kernel
theorem dX7_comes_242 : decode cX7_comes 242 = .ok (.iastore, 1) := by decide +kernel
theorem dX7_comes_243 : decode cX7_comes 243 = .ok (.aload_n 0, 1) := by decide +kernel
theorem dX7_comes_244 : decode cX7_comes 244 = .ok (.getfield 7, 3) := by decide +kernel
theorem dX7_comes_247 : decode cX7_comes 247 = .ok (.bipush 112, 2) := by decide +kernel
theorem dX7_comes_249 : decode cX7_comes 249 = .ok (.iload 6, 2) := by decide +kernel
theorem dX7_comes_251 : decode cX7_comes 251 = .ok (.iadd, 1) := by decide +kernel
theorem dX7_comes_252 : decode cX7_comes 252 = .ok (.iaload, 1) := by decide +kernel
theorem dX7_comes_253 : decode cX7_comes 253 = .ok (.ifCond .ne 9, 3) := by decide +kernel
theorem dX7_comes_256 : decode cX7_comes 256 = .ok (.aload_n 0, 1) := by decide +kernel
theorem dX7_comes_257 : decode cX7_comes 257 = .ok (.iload 6, 2) := by decide +kernel
theorem dX7_comes_259 : decode cX7_comes 259 = .ok (.invokevirtual 70, 3) := by decide +kernel
theorem dX7_comes_262 : decode cX7_comes 262 = .ok (.aload_n 0, 1) := by decide +kernel
theorem dX7_comes_263 : decode cX7_comes 263 = .ok (.iconst 1, 1) := by decide +kernel
theorem dX7_comes_264 : decode cX7_comes 264 = .ok (.iload_n 1, 1) := by decide +kernel
theorem dX7_comes_265 : decode cX7_comes 265 = .ok (.isub, 1) := by decide +kernel
theorem dX7_comes_266 : decode cX7_comes 266 = .ok (.invokevirtual 63, 3) := by decide +kernel
theorem dX7_comes_269 : decode cX7_comes 269 = .ok (.istore 6, 2) := by decide +kernel
theorem dX7_comes_271 : decode cX7_comes 271 = .ok (.goto (-221), 3) := by decide +kernel
theorem dX7_comes_274 : decode cX7_comes 274 = .ok (.aload_n 0, 1) := by decide +kernel
theorem dX7_comes_275 : decode cX7_comes 275 = .ok (.getfield 7, 3) := by decide +kernel
theorem dX7_comes_278 : decode cX7_comes 278 = .ok (.iconst 2, 1) := by decide +kernel
theorem dX7_comes_279 : decode cX7_comes 279 = .ok (.iaload, 1) := by decide +kernel
theorem dX7_comes_280 : decode cX7_comes 280 = .ok (.istore 7, 2) := by decide +kernel
theorem dX7_comes_282 : decode cX7_comes 282 = .ok (.aload_n 0, 1) := by decide +kernel
theorem dX7_comes_283 : decode cX7_comes 283 = .ok (.getfield 7, 3) := by decide +kernel
theorem dX7_comes_286 : decode cX7_comes 286 = .ok (.iconst 2, 1) := by decide +kernel
theorem dX7_comes_287 : decode cX7_comes 287 = .ok (.dup2, 1) := by decide +kernel
theorem dX7_comes_288 : decode cX7_comes 288 = .ok (.iaload, 1) := by decide +kernel
theorem dX7_comes_289 : decode cX7_comes 289 = .ok (.iconst 1, 1) := by decide +kernel
theorem dX7_comes_290 : decode cX7_comes 290 = .ok (.iadd, 1) := by decide +kernel
theorem dX7_comes_291 : decode cX7_comes 291 = .ok (.iastore, 1) := by decide +kernel
theorem dX7_comes_292 : decode cX7_comes 292 = .ok (.iload 5, 2) := by decide +kernel
theorem dX7_comes_294 : decode cX7_comes 294 = .ok (.ifCond .le 117, 3) := by decide +kernel
theorem dX7_comes_297 : decode cX7_comes 297 = .ok (.aload_n 0, 1) := by decide +kernel
theorem dX7_comes_298 : decode cX7_comes 298 = .ok (.getfield 7, 3) := by decide +kernel
theorem dX7_comes_301 : decode cX7_comes 301 = .ok (.bipush 11, 2) := by decide +kernel
theorem dX7_comes_303 : decode cX7_comes 303 = .ok (.iaload, 1) := by decide +kernel
theorem dX7_comes_304 : decode cX7_comes 304 = .ok (.bipush 16, 2) := by decide +kernel
theorem dX7_comes_306 : decode cX7_comes 306 = .ok (.if_icmp .ge 105, 3) := by decide +kernel
theorem dX7_comes_309 : decode cX7_comes 309 = .ok (.aload_n 0, 1) := by decide +kernel
theorem dX7_comes_310 : decode cX7_comes 310 = .ok (.getfield 7, 3) := by decide +kernel
theorem dX7_comes_313 : decode cX7_comes 313 = .ok (.bipush 11, 2) := by decide +kernel
theorem dX7_comes_315 : decode cX7_comes 315 = .ok (.iaload, 1) := by decide +kernel
theorem dX7_comes_316 : decode cX7_comes 316 = .ok (.istore 8, 2) := by decide +kernel
theorem dX7_comes_318 : decode cX7_comes 318 = .ok (.aload_n 0, 1) := by decide +kernel
theorem dX7_comes_319 : decode cX7_comes 319 = .ok (.getfield 7, 3) := by decide +kernel
theorem dX7_comes_322 : decode cX7_comes 322 = .ok (.bipush 64, 2) := by decide +kernel
theorem dX7_comes_324 : decode cX7_comes 324 = .ok (.iload 8, 2) := by decide +kernel
theorem dX7_comes_326 : decode cX7_comes 326 = .ok (.iadd, 1) := by decide +kernel
theorem dX7_comes_327 : decode cX7_comes 327 = .ok (.iload 7, 2) := by decide +kernel
theorem dX7_comes_329 : decode cX7_comes 329 = .ok (.iastore, 1) := by decide +kernel
theorem dX7_comes_330 : decode cX7_comes 330 = .ok (.aload_n 0, 1) := by decide +kernel
theorem dX7_comes_331 : decode cX7_comes 331 = .ok (.getfield 7, 3) := by decide +kernel
theorem dX7_comes_334 : decode cX7_comes 334 = .ok (.bipush 80, 2) := by decide +kernel
theorem dX7_comes_336 : decode cX7_comes 336 = .ok (.iload 8, 2) := by decide +kernel
theorem dX7_comes_338 : decode cX7_comes 338 = .ok (.iadd, 1) := by decide +kernel
theorem dX7_comes_339 : decode cX7_comes 339 = .ok (.iload_n 2, 1) := by decide +kernel
theorem dX7_comes_340 : decode cX7_comes 340 = .ok (.iastore, 1) := by decide +kernel
theorem dX7_comes_341 : decode cX7_comes 341 = .ok (.aload_n 0, 1) := by decide +kernel
theorem dX7_comes_342 : decode cX7_comes 342 = .ok (.getfield 7, 3) := by decide +kernel
theorem dX7_comes_345 : decode cX7_comes 345 = .ok (.bipush 96, 2) := by decide +kernel
theorem dX7_comes_347 : decode cX7_comes 347 = .ok (.iload 8, 2) := by decide +kernel
theorem dX7_comes_349 : decode cX7_comes 349 = .ok (.iadd, 1) := by decide +kernel
theorem dX7_comes_350 : decode cX7_comes 350 = .ok (.iload_n 1, 1) := by decide +kernel
theorem dX7_comes_351 : decode cX7_comes 351 = .ok (.iastore, 1) := by decide +kernel
theorem dX7_comes_352 : decode cX7_comes 352 = .ok (.aload_n 0, 1) := by decide +kernel
theorem dX7_comes_353 : decode cX7_comes 353 = .ok (.getfield 7, 3) := by decide +kernel
theorem dX7_comes_356 : decode cX7_comes 356 = .ok (.bipush 112, 2) := by decide +kernel
theorem dX7_comes_358 : decode cX7_comes 358 = .ok (.iload 8, 2) := by decide +kernel
theorem dX7_comes_360 : decode cX7_comes 360 = .ok (.iadd, 1) := by decide +kernel
theorem dX7_comes_361 : decode cX7_comes 361 = .ok (.iload 5, 2) := by decide +kernel
theorem dX7_comes_363 : decode cX7_comes 363 = .ok (.iastore, 1) := by decide +kernel
theorem dX7_comes_364 : decode cX7_comes 364 = .ok (.aload_n 0, 1) := by decide +kernel
theorem dX7_comes_365 : decode cX7_comes 365 = .ok (.getfield 7, 3) := by decide +kernel
theorem dX7_comes_368 : decode cX7_comes 368 = .ok (.sipush 128, 3) := by decide +kernel
theorem dX7_comes_371 : decode cX7_comes 371 = .ok (.iload 8, 2) := by decide +kernel
theorem dX7_comes_373 : decode cX7_comes 373 = .ok (.iadd, 1) := by decide +kernel
theorem dX7_comes_374 : decode cX7_comes 374 = .ok (.iload 4, 2) := by decide +kernel
theorem dX7_comes_376 : decode cX7_comes 376 = .ok (.iastore, 1) := by decide +kernel
theorem dX7_comes_377 : decode cX7_comes 377 = .ok (.iload_n 1, 1) := by decide +kernel
theorem dX7_comes_378 : decode cX7_comes 378 = .ok (.ifCond .ne 19, 3) := by decide +kernel
theorem dX7_comes_381 : decode cX7_comes 381 = .ok (.aload_n 0, 1) := by decide +kernel
theorem dX7_comes_382 : decode cX7_comes 382 = .ok (.bipush 16, 2) := by decide +kernel
theorem dX7_comes_384 : decode cX7_comes 384 = .ok (.invokestatic 53, 3) := by decide +kernel
theorem dX7_comes_387 : decode cX7_comes 387 = .ok (.iload 8, 2) := by decide +kernel
theorem dX7_comes_389 : decode cX7_comes 389 = .ok (.invokestatic 53, 3) := by decide +kernel
theorem dX7_comes_392 : decode cX7_comes 392 = .ok (.iload 5, 2) := by decide +kernel
theorem dX7_comes_394 : decode cX7_comes 394 = .ok (.invokevirtual 56, 3) := by decide +kernel
theorem dX7_comes_397 : decode cX7_comes 397 = .ok (.aload_n 0, 1) := by decide +kernel
theorem dX7_comes_398 : decode cX7_comes 398 = .ok (.getfield 7, 3) := by decide +kernel
theorem dX7_comes_401 : decode cX7_comes 401 = .ok (.bipush 11, 2) := by decide +kernel
theorem dX7_comes_403 : decode cX7_comes 403 = .ok (.dup2, 1) := by decide +kernel
theorem dX7_comes_404 : decode cX7_comes 404 = .ok (.iaload, 1) := by decide +kernel
theorem dX7_comes_405 : decode cX7_comes 405 = .ok (.iconst 1, 1) := by decide +kernel
theorem dX7_comes_406 : decode cX7_comes 406 = .ok (.iadd, 1) := by decide +kernel
theorem dX7_comes_407 : decode cX7_comes 407 = .ok (.iastore, 1) := by decide +kernel
theorem dX7_comes_408 : decode cX7_comes 408 = .ok (.goto 43, 3) := by decide +kernel
theorem dX7_comes_411 : decode cX7_comes 411 = .ok (.iload_n 1, 1) := by decide +kernel
theorem dX7_comes_412 : decode cX7_comes 412 = .ok (.iconst 1, 1) := by decide +kernel
theorem dX7_comes_413 : decode cX7_comes 413 = .ok (.if_icmp .ne 23, 3) := by decide +kernel
theorem dX7_comes_416 : decode cX7_comes 416 = .ok (.aload_n 0, 1) := by decide +kernel
theorem dX7_comes_417 : decode cX7_comes 417 = .ok (.getfield 7, 3) := by decide +kernel
theorem dX7_comes_420 : decode cX7_comes 420 = .ok (.bipush 20, 2) := by decide +kernel
theorem dX7_comes_422 : decode cX7_comes 422 = .ok (.iload_n 2, 1) := by decide +kernel
theorem dX7_comes_423 : decode cX7_comes 423 = .ok (.iadd, 1) := by decide +kernel
theorem dX7_comes_424 : decode cX7_comes 424 = .ok (.dup2, 1) := by decide +kernel
theorem dX7_comes_425 : decode cX7_comes 425 = .ok (.iaload, 1) := by decide +kernel
theorem dX7_comes_426 : decode cX7_comes 426 = .ok (.iload 5, 2) := by decide +kernel
theorem dX7_comes_428 : decode cX7_comes 428 = .ok (.iload 4, 2) := by decide +kernel
theorem dX7_comes_430 : decode cX7_comes 430 = .ok (.imul, 1) := by decide +kernel
theorem dX7_comes_431 : decode cX7_comes 431 = .ok (.iadd, 1) := by decide +kernel
theorem dX7_comes_432 : decode cX7_comes 432 = .ok (.iastore, 1) := by decide +kernel
theorem dX7_comes_433 : decode cX7_comes 433 = .ok (.goto 18, 3) := by decide +kernel
theorem dX7_comes_436 : decode cX7_comes 436 = .ok (.aload_n 0, 1) := by decide +kernel
theorem dX7_comes_437 : decode cX7_comes 437 = .ok (.bipush 16, 2) := by decide +kernel
theorem dX7_comes_439 : decode cX7_comes 439 = .ok (.invokestatic 53, 3) := by decide +kernel
theorem dX7_comes_442 : decode cX7_comes 442 = .ok (.iload_n 2, 1) := by decide +kernel
theorem dX7_comes_443 : decode cX7_comes 443 = .ok (.invokestatic 45, 3) := by decide +kernel
theorem dX7_comes_446 : decode cX7_comes 446 = .ok (.iload 5, 2) := by decide +kernel
theorem dX7_comes_448 : decode cX7_comes 448 = .ok (.invokevirtual 56, 3) := by decide +kernel
theorem dX7_comes_451 : decode cX7_comes 451 = .ok (.iload_n 3, 1) := by decide +kernel
theorem dX7_comes_452 : decode cX7_comes 452 = .ok (.iload 5, 2) := by decide +kernel
theorem dX7_comes_454 : decode cX7_comes 454 = .ok (.isub, 1) := by decide +kernel
theorem dX7_comes_455 : decode cX7_comes 455 = .ok (.ireturn, 1) := by decide +kernel
theorem dX7_ordered_0 : decode cX7_ordered 0 = .ok (.aload_n 0, 1) := by decide +kernel
theorem dX7_ordered_1 : decode cX7_ordered 1 = .ok (.iload_n 1, 1) := by decide +kernel
theorem dX7_ordered_2 : decode cX7_ordered 2 = .ok (.iload_n 2, 1) := by decide +kernel
theorem dX7_ordered_3 : decode cX7_ordered 3 = .ok (.iload_n 3, 1) := by decide +kernel
theorem dX7_ordered_4 : decode cX7_ordered 4 = .ok (.iload 4, 2) := by decide +kernel
theorem dX7_ordered_6 : decode cX7_ordered 6 = .ok (.invokevirtual 74, 3) := by decide +kernel
theorem dX7_ordered_9 : decode cX7_ordered 9 = .ok (.istore 5, 2) := by decide +kernel
theorem dX7_ordered_11 : decode cX7_ordered 11 = .ok (.iload 5, 2) := by decide +kernel
theorem dX7_ordered_13 : decode cX7_ordered 13 = .ok (.ifCond .ge 6, 3) := by decide +kernel
theorem dX7_ordered_16 : decode cX7_ordered 16 = .ok (.iload 5, 2) := by decide +kernel
theorem dX7_ordered_18 : decode cX7_ordered 18 = .ok (.ireturn, 1) := by decide +kernel
theorem dX7_ordered_19 : decode cX7_ordered 19 = .ok (.aload_n 0, 1) := by decide +kernel
theorem dX7_ordered_20 : decode cX7_ordered 20 = .ok (.invokevirtual 42, 3) := by decide +kernel
theorem dX7_ordered_23 : decode cX7_ordered 23 = .ok (.aload_n 0, 1) := by decide +kernel
theorem dX7_ordered_24 : decode cX7_ordered 24 = .ok (.iload_n 1, 1) := by decide +kernel
theorem dX7_ordered_25 : decode cX7_ordered 25 = .ok (.iload_n 2, 1) := by decide +kernel
theorem dX7_ordered_26 : decode cX7_ordered 26 = .ok (.iload_n 3, 1) := by decide +kernel
theorem dX7_ordered_27 : decode cX7_ordered 27 = .ok (.iload 4, 2) := by decide +kernel
theorem dX7_ordered_29 : decode cX7_ordered 29 = .ok (.invokevirtual 78, 3) := by decide +kernel
theorem dX7_ordered_32 : decode cX7_ordered 32 = .ok (.ireturn, 1) := by decide +kernel
theorem dX7_bid_0 : decode cX7_bid 0 = .ok (.aload_n 0, 1) := by decide +kernel
theorem dX7_bid_1 : decode cX7_bid 1 = .ok (.iconst 1, 1) := by decide +kernel
theorem dX7_bid_2 : decode cX7_bid 2 = .ok (.iload_n 1, 1) := by decide +kernel
theorem dX7_bid_3 : decode cX7_bid 3 = .ok (.iload_n 2, 1) := by decide +kernel
theorem dX7_bid_4 : decode cX7_bid 4 = .ok (.iload_n 3, 1) := by decide +kernel
theorem dX7_bid_5 : decode cX7_bid 5 = .ok (.invokevirtual 81, 3) := by decide +kernel
theorem dX7_bid_8 : decode cX7_bid 8 = .ok (.ireturn, 1) := by decide +kernel
theorem dX7_ask_0 : decode cX7_ask 0 = .ok (.aload_n 0, 1) := by decide +kernel
theorem dX7_ask_1 : decode cX7_ask 1 = .ok (.iconst 0, 1) := by decide +kernel
theorem dX7_ask_2 : decode cX7_ask 2 = .ok (.iload_n 1, 1) := by decide +kernel
theorem dX7_ask_3 : decode cX7_ask 3 = .ok (.iload_n 2, 1) := by decide +kernel
theorem dX7_ask_4 : decode cX7_ask 4 = .ok (.iload_n 3, 1) := by decide +kernel
theorem dX7_ask_5 : decode cX7_ask 5 = .ok (.invokevirtual 81, 3) := by decide +kernel
theorem dX7_ask_8 : decode cX7_ask 8 = .ok (.ireturn, 1) := by decide +kernel
theorem dX7_sign_0 : decode cX7_sign 0 = .ok (.aload_n 0, 1) := by decide +kernel
theorem dX7_sign_1 : decode cX7_sign 1 = .ok (.getfield 84, 3) := by decide +kernel
theorem dX7_sign_4 : decode cX7_sign 4 = .ok (.aload_n 0, 1) := by decide +kernel
theorem dX7_sign_5 : decode cX7_sign 5 = .ok (.getfield 87, 3) := by decide +kernel
theorem dX7_sign_8 : decode cX7_sign 8 = .ok (.if_icmp .ge 15, 3) := by decide +kernel
theorem dX7_sign_11 : decode cX7_sign 11 = .ok (.aload_n 0, 1) := by decide +kernel
theorem dX7_sign_12 : decode cX7_sign 12 = .ok (.getfield 23, 3) := by decide +kernel
theorem dX7_sign_15 : decode cX7_sign 15 = .ok (.aload_n 0, 1) := by decide +kernel
theorem dX7_sign_16 : decode cX7_sign 16 = .ok (.getfield 84, 3) := by decide +kernel
theorem dX7_sign_19 : decode cX7_sign 19 = .ok (.iaload, 1) := by decide +kernel
theorem dX7_sign_20 : decode cX7_sign 20 = .ok (.goto 4, 3) := by decide +kernel
theorem dX7_sign_23 : decode cX7_sign 23 = .ok (.iconst (-1), 1) := by decide +kernel
theorem dX7_sign_24 : decode cX7_sign 24 = .ok (.ireturn, 1) := by decide +kernel
theorem dX7_takes_0 : decode cX7_takes 0 = .ok (.aload_n 0, 1) := by decide +kernel
theorem dX7_takes_1 : decode cX7_takes 1 = .ok (.invokevirtual 90, 3) := by decide +kernel
theorem dX7_takes_4 : decode cX7_takes 4 = .ok (.iload_n 1, 1) := by decide +kernel
theorem dX7_takes_5 : decode cX7_takes 5 = .ok (.if_icmp .ne 15, 3) := by decide +kernel
theorem dX7_takes_8 : decode cX7_takes 8 = .ok (.aload_n 0, 1) := by decide +kernel
theorem dX7_takes_9 : decode cX7_takes 9 = .ok (.dup, 1) := by decide +kernel
theorem dX7_takes_10 : decode cX7_takes 10 = .ok (.getfield 84, 3) := by decide +kernel
theorem dX7_takes_13 : decode cX7_takes 13 = .ok (.iconst 1, 1) := by decide +kernel
theorem dX7_takes_14 : decode cX7_takes 14 = .ok (.iadd, 1) := by decide +kernel
theorem dX7_takes_15 : decode cX7_takes 15 = .ok (.putfield 84, 3) := by decide +kernel
theorem dX7_takes_18 : decode cX7_takes 18 = .ok (.iconst 1, 1) := by decide +kernel
theorem dX7_takes_19 : decode cX7_takes 19 = .ok (.ireturn, 1) := by decide +kernel
theorem dX7_takes_20 : decode cX7_takes 20 = .ok (.iconst 0, 1) := by decide +kernel
theorem dX7_takes_21 : decode cX7_takes 21 = .ok (.ireturn, 1) := by decide +kernel
theorem dX7_number_0 : decode cX7_number 0 = .ok (.aload_n 0, 1) := by decide +kernel
theorem dX7_number_1 : decode cX7_number 1 = .ok (.invokevirtual 90, 3) := by decide +kernel
theorem dX7_number_4 : decode cX7_number 4 = .ok (.bipush 49, 2) := by decide +kernel
theorem dX7_number_6 : decode cX7_number 6 = .ok (.bipush 57, 2) := by decide +kernel
theorem dX7_number_8 : decode cX7_number 8 = .ok (.invokestatic 29, 3) := by decide +kernel
theorem dX7_number_11 : decode cX7_number 11 = .ok (.ifCond .ne 5, 3) := by decide +kernel
theorem dX7_number_14 : decode cX7_number 14 = .ok (.iconst (-1), 1) := by decide +kernel
theorem dX7_number_15 : decode cX7_number 15 = .ok (.ireturn, 1) := by decide +kernel
theorem dX7_number_16 : decode cX7_number 16 = .ok (.aload_n 0, 1) := by decide +kernel
theorem dX7_number_17 : decode cX7_number 17 = .ok (.invokevirtual 90, 3) := by decide +kernel
theorem dX7_number_20 : decode cX7_number 20 = .ok (.bipush 48, 2) := by decide +kernel
theorem dX7_number_22 : decode cX7_number 22 = .ok (.isub, 1) := by decide +kernel
theorem dX7_number_23 : decode cX7_number 23 = .ok (.istore_n 2, 1) := by decide +kernel
theorem dX7_number_24 : decode cX7_number 24 = .ok (.aload_n 0, 1) := by decide +kernel
theorem dX7_number_25 : decode cX7_number 25 = .ok (.dup, 1) := by decide +kernel
theorem dX7_number_26 : decode cX7_number 26 = .ok (.getfield 84, 3) := by decide +kernel
theorem dX7_number_29 : decode cX7_number 29 = .ok (.iconst 1, 1) := by decide +kernel
theorem dX7_number_30 : decode cX7_number 30 = .ok (.iadd, 1) := by decide +kernel
theorem dX7_number_31 : decode cX7_number 31 = .ok (.putfield 84, 3) := by decide +kernel
theorem dX7_number_34 : decode cX7_number 34 = .ok (.aload_n 0, 1) := by decide +kernel
theorem dX7_number_35 : decode cX7_number 35 = .ok (.invokevirtual 90, 3) := by decide +kernel
theorem dX7_number_38 : decode cX7_number 38 = .ok (.bipush 48, 2) := by decide +kernel
theorem dX7_number_40 : decode cX7_number 40 = .ok (.bipush 57, 2) := by decide +kernel
theorem dX7_number_42 : decode cX7_number 42 = .ok (.invokestatic 29, 3) := by decide +kernel
theorem dX7_number_45 : decode cX7_number 45 = .ok (.ifCond .eq 45, 3) := by decide +kernel
theorem dX7_number_48 : decode cX7_number 48 = .ok (.bipush 10, 2) := by decide +kernel
theorem dX7_number_50 : decode cX7_number 50 = .ok (.iload_n 2, 1) := by decide +kernel
theorem dX7_number_51 : decode cX7_number 51 = .ok (.imul, 1) := by decide +kernel
theorem dX7_number_52 : decode cX7_number 52 = .ok (.aload_n 0, 1) := by decide +kernel
theorem dX7_number_53 : decode cX7_number 53 = .ok (.invokevirtual 90, 3) := by decide +kernel
theorem dX7_number_56 : decode cX7_number 56 = .ok (.iadd, 1) := by decide +kernel
theorem dX7_number_57 : decode cX7_number 57 = .ok (.bipush 48, 2) := by decide +kernel
theorem dX7_number_59 : decode cX7_number 59 = .ok (.isub, 1) := by decide +kernel
theorem dX7_number_60 : decode cX7_number 60 = .ok (.iload_n 1, 1) := by decide +kernel
theorem dX7_number_61 : decode cX7_number 61 = .ok (.if_icmp .gt 29, 3) := by decide +kernel
theorem dX7_number_64 : decode cX7_number 64 = .ok (.bipush 10, 2) := by decide +kernel
theorem dX7_number_66 : decode cX7_number 66 = .ok (.iload_n 2, 1) := by decide +kernel
theorem dX7_number_67 : decode cX7_number 67 = .ok (.imul, 1) := by decide +kernel
theorem dX7_number_68 : decode cX7_number 68 = .ok (.aload_n 0, 1) := by decide +kernel
theorem dX7_number_69 : decode cX7_number 69 = .ok (.invokevirtual 90, 3) := by decide +kernel
theorem dX7_number_72 : decode cX7_number 72 = .ok (.iadd, 1) := by decide +kernel
theorem dX7_number_73 : decode cX7_number 73 = .ok (.bipush 48, 2) := by decide +kernel
theorem dX7_number_75 : decode cX7_number 75 = .ok (.isub, 1) := by decide +kernel
theorem dX7_number_76 : decode cX7_number 76 = .ok (.istore_n 2, 1) := by decide +kernel
theorem dX7_number_77 : decode cX7_number 77 = .ok (.aload_n 0, 1) := by decide +kernel
theorem dX7_number_78 : decode cX7_number 78 = .ok (.dup, 1) := by decide +kernel
theorem dX7_number_79 : decode cX7_number 79 = .ok (.getfield 84, 3) := by decide +kernel
theorem dX7_number_82 : decode cX7_number 82 = .ok (.iconst 1, 1) := by decide +kernel
theorem dX7_number_83 : decode cX7_number 83 = .ok (.iadd, 1) := by decide +kernel
theorem dX7_number_84 : decode cX7_number 84 = .ok (.putfield 84, 3) := by decide +kernel
theorem dX7_number_87 : decode cX7_number 87 = .ok (.goto (-53), 3) := by decide +kernel
theorem dX7_number_90 : decode cX7_number 90 = .ok (.iload_n 2, 1) := by decide +kernel
theorem dX7_number_91 : decode cX7_number 91 = .ok (.ireturn, 1) := by decide +kernel
theorem dX7_readsOrder_0 : decode cX7_readsOrder 0 = .ok (.iconst 4, 1) := by decide +kernel
theorem dX7_readsOrder_1 : decode cX7_readsOrder 1 = .ok (.aload_n 0, 1) := by decide +kernel
theorem dX7_readsOrder_2 : decode cX7_readsOrder 2 = .ok (.getfield 94, 3) := by decide +kernel
theorem dX7_readsOrder_5 : decode cX7_readsOrder 5 = .ok (.imul, 1) := by decide +kernel
theorem dX7_readsOrder_6 : decode cX7_readsOrder 6 = .ok (.istore_n 1, 1) := by decide +kernel
theorem dX7_readsOrder_7 : decode cX7_readsOrder 7 = .ok (.aload_n 0, 1) := by decide +kernel
theorem dX7_readsOrder_8 : decode cX7_readsOrder 8 = .ok (.getfield 26, 3) := by decide +kernel
theorem dX7_readsOrder_11 : decode cX7_readsOrder 11 = .ok (.iload_n 1, 1) := by decide +kernel
theorem dX7_readsOrder_12 : decode cX7_readsOrder 12 = .ok (.aload_n 0, 1) := by decide +kernel
theorem dX7_readsOrder_13 : decode cX7_readsOrder 13 = .ok (.invokevirtual 90, 3) := by decide +kernel
theorem dX7_readsOrder_16 : decode cX7_readsOrder 16 = .ok (.bipush 98, 2) := by decide +kernel
theorem dX7_readsOrder_18 : decode cX7_readsOrder 18 = .ok (.if_icmp .ne 7, 3) := by decide +kernel
theorem dX7_readsOrder_21 : decode cX7_readsOrder 21 = .ok (.iconst 1, 1) := by decide +kernel
theorem dX7_readsOrder_22 : decode cX7_readsOrder 22 = .ok (.goto 4, 3) := by decide +kernel
theorem dX7_readsOrder_25 : decode cX7_readsOrder 25 = .ok (.iconst 0, 1) := by decide +kernel
theorem dX7_readsOrder_26 : decode cX7_readsOrder 26 = .ok (.iastore, 1) := by decide +kernel
theorem dX7_readsOrder_27 : decode cX7_readsOrder 27 = .ok (.aload_n 0, 1) := by decide +kernel
theorem dX7_readsOrder_28 : decode cX7_readsOrder 28 = .ok (.bipush 98, 2) := by decide +kernel
theorem dX7_readsOrder_30 : decode cX7_readsOrder 30 = .ok (.invokevirtual 97, 3) := by decide +kernel
theorem dX7_readsOrder_33 : decode cX7_readsOrder 33 = .ok (.ifCond .ne 14, 3) := by decide +kernel
theorem dX7_readsOrder_36 : decode cX7_readsOrder 36 = .ok (.aload_n 0, 1) := by decide +kernel
theorem dX7_readsOrder_37 : decode cX7_readsOrder 37 = .ok (.bipush 97, 2) := by decide +kernel
theorem dX7_readsOrder_39 : decode cX7_readsOrder 39 = .ok (.invokevirtual 97, 3) := by decide +kernel
theorem dX7_readsOrder_42 : decode cX7_readsOrder 42 = .ok (.ifCond .ne 5, 3) := by decide +kernel
theorem dX7_readsOrder_45 : decode cX7_readsOrder 45 = .ok (.iconst 0, 1) := by decide +kernel
theorem dX7_readsOrder_46 : decode cX7_readsOrder 46 = .ok (.ireturn, 1) := by decide +kernel
theorem dX7_readsOrder_47 : decode cX7_readsOrder 47 = .ok (.aload_n 0, 1) := by decide +kernel
theorem dX7_readsOrder_48 : decode cX7_readsOrder 48 = .ok (.invokevirtual 90, 3) := by decide +kernel
theorem dX7_readsOrder_51 : decode cX7_readsOrder 51 = .ok (.bipush 48, 2) := by decide +kernel
theorem dX7_readsOrder_53 : decode cX7_readsOrder 53 = .ok (.bipush 53, 2) := by decide +kernel
theorem dX7_readsOrder_55 : decode cX7_readsOrder 55 = .ok (.invokestatic 29, 3) := by decide +kernel
theorem dX7_readsOrder_58 : decode cX7_readsOrder 58 = .ok (.ifCond .ne 5, 3) := by decide +kernel
theorem dX7_readsOrder_61 : decode cX7_readsOrder 61 = .ok (.iconst 0, 1) := by decide +kernel
theorem dX7_readsOrder_62 : decode cX7_readsOrder 62 = .ok (.ireturn, 1) := by decide +kernel
theorem dX7_readsOrder_63 : decode cX7_readsOrder 63 = .ok (.aload_n 0, 1) := by decide +kernel
theorem dX7_readsOrder_64 : decode cX7_readsOrder 64 = .ok (.getfield 26, 3) := by decide +kernel
theorem dX7_readsOrder_67 : decode cX7_readsOrder 67 = .ok (.iload_n 1, 1) := by decide +kernel
theorem dX7_readsOrder_68 : decode cX7_readsOrder 68 = .ok (.iconst 1, 1) := by decide +kernel
theorem dX7_readsOrder_69 : decode cX7_readsOrder 69 = .ok (.iadd, 1) := by decide +kernel
theorem dX7_readsOrder_70 : decode cX7_readsOrder 70 = .ok (.aload_n 0, 1) := by decide +kernel
theorem dX7_readsOrder_71 : decode cX7_readsOrder 71 = .ok (.invokevirtual 90, 3) := by decide +kernel
theorem dX7_readsOrder_74 : decode cX7_readsOrder 74 = .ok (.bipush 48, 2) := by decide +kernel
theorem dX7_readsOrder_76 : decode cX7_readsOrder 76 = .ok (.isub, 1) := by decide +kernel
theorem dX7_readsOrder_77 : decode cX7_readsOrder 77 = .ok (.iastore, 1) := by decide +kernel
theorem dX7_readsOrder_78 : decode cX7_readsOrder 78 = .ok (.aload_n 0, 1) := by decide +kernel
theorem dX7_readsOrder_79 : decode cX7_readsOrder 79 = .ok (.dup, 1) := by decide +kernel
theorem dX7_readsOrder_80 : decode cX7_readsOrder 80 = .ok (.getfield 84, 3) := by decide +kernel
theorem dX7_readsOrder_83 : decode cX7_readsOrder 83 = .ok (.iconst 1, 1) := by decide +kernel
theorem dX7_readsOrder_84 : decode cX7_readsOrder 84 = .ok (.iadd, 1) := by decide +kernel
theorem dX7_readsOrder_85 : decode cX7_readsOrder 85 = .ok (.putfield 84, 3) := by decide +kernel
theorem dX7_readsOrder_88 : decode cX7_readsOrder 88 = .ok (.aload_n 0, 1) := by decide +kernel
theorem dX7_readsOrder_89 : decode cX7_readsOrder 89 = .ok (.getfield 26, 3) := by decide +kernel
theorem dX7_readsOrder_92 : decode cX7_readsOrder 92 = .ok (.iload_n 1, 1) := by decide +kernel
theorem dX7_readsOrder_93 : decode cX7_readsOrder 93 = .ok (.iconst 2, 1) := by decide +kernel
theorem dX7_readsOrder_94 : decode cX7_readsOrder 94 = .ok (.iadd, 1) := by decide +kernel
theorem dX7_readsOrder_95 : decode cX7_readsOrder 95 = .ok (.aload_n 0, 1) := by decide +kernel
theorem dX7_readsOrder_96 : decode cX7_readsOrder 96 = .ok (.bipush 58, 2) := by decide +kernel
theorem dX7_readsOrder_98 : decode cX7_readsOrder 98 = .ok (.invokevirtual 97, 3) := by decide +kernel
theorem dX7_readsOrder_101 : decode cX7_readsOrder 101 = .ok (.ifCond .eq 13, 3) := by decide +kernel
theorem dX7_readsOrder_104 : decode cX7_readsOrder 104 = .ok (.aload_n 0, 1) := by decide +kernel
theorem dX7_readsOrder_105 : decode cX7_readsOrder 105 = .ok (.sipush 999, 3) := by decide +kernel
theorem dX7_readsOrder_108 : decode cX7_readsOrder 108 = .ok (.invokevirtual 100, 3) := by decide +kernel
theorem dX7_readsOrder_111 : decode cX7_readsOrder 111 = .ok (.goto 4, 3) := by decide +kernel
theorem dX7_readsOrder_114 : decode cX7_readsOrder 114 = .ok (.iconst (-1), 1) := by decide +kernel
theorem dX7_readsOrder_115 : decode cX7_readsOrder 115 = .ok (.iastore, 1) := by decide +kernel
theorem dX7_readsOrder_116 : decode cX7_readsOrder 116 = .ok (.aload_n 0, 1) := by decide +kernel
theorem dX7_readsOrder_117 : decode cX7_readsOrder 117 = .ok (.getfield 26, 3) := by decide +kernel
theorem dX7_readsOrder_120 : decode cX7_readsOrder 120 = .ok (.iload_n 1, 1) := by decide +kernel
theorem dX7_readsOrder_121 : decode cX7_readsOrder 121 = .ok (.iconst 3, 1) := by decide +kernel
theorem dX7_readsOrder_122 : decode cX7_readsOrder 122 = .ok (.iadd, 1) := by decide +kernel
theorem dX7_readsOrder_123 : decode cX7_readsOrder 123 = .ok (.aload_n 0, 1) := by decide +kernel
theorem dX7_readsOrder_124 : decode cX7_readsOrder 124 = .ok (.getfield 26, 3) := by decide +kernel
theorem dX7_readsOrder_127 : decode cX7_readsOrder 127 = .ok (.iload_n 1, 1) := by decide +kernel
theorem dX7_readsOrder_128 : decode cX7_readsOrder 128 = .ok (.iconst 2, 1) := by decide +kernel
theorem dX7_readsOrder_129 : decode cX7_readsOrder 129 = .ok (.iadd, 1) := by decide +kernel
theorem dX7_readsOrder_130 : decode cX7_readsOrder 130 = .ok (.iaload, 1) := by decide +kernel
theorem dX7_readsOrder_131 : decode cX7_readsOrder 131 = .ok (.ifCond .le 22, 3) := by decide +kernel
theorem dX7_readsOrder_134 : decode cX7_readsOrder 134 = .ok (.aload_n 0, 1) := by decide +kernel
theorem dX7_readsOrder_135 : decode cX7_readsOrder 135 = .ok (.bipush 64, 2) := by decide +kernel
theorem dX7_readsOrder_137 : decode cX7_readsOrder 137 = .ok (.invokevirtual 97, 3) := by decide +kernel
theorem dX7_readsOrder_140 : decode cX7_readsOrder 140 = .ok (.ifCond .eq 13, 3) := by decide +kernel
theorem dX7_readsOrder_143 : decode cX7_readsOrder 143 = .ok (.aload_n 0, 1) := by decide +kernel
theorem dX7_readsOrder_144 : decode cX7_readsOrder 144 = .ok (.sipush 500, 3) := by decide +kernel
theorem dX7_readsOrder_147 : decode cX7_readsOrder 147 = .ok (.invokevirtual 100, 3) := by decide +kernel
theorem dX7_readsOrder_150 : decode cX7_readsOrder 150 = .ok (.goto 4, 3) := by decide +kernel
theorem dX7_readsOrder_153 : decode cX7_readsOrder 153 = .ok (.iconst (-1), 1) := by decide +kernel
theorem dX7_readsOrder_154 : decode cX7_readsOrder 154 = .ok (.iastore, 1) := by decide +kernel
theorem dX7_readsOrder_155 : decode cX7_readsOrder 155 = .ok (.aload_n 0, 1) := by decide +kernel
theorem dX7_readsOrder_156 : decode cX7_readsOrder 156 = .ok (.dup, 1) := by decide +kernel
theorem dX7_readsOrder_157 : decode cX7_readsOrder 157 = .ok (.getfield 94, 3) := by decide +kernel
theorem dX7_readsOrder_160 : decode cX7_readsOrder 160 = .ok (.iconst 1, 1) := by decide +kernel
theorem dX7_readsOrder_161 : decode cX7_readsOrder 161 = .ok (.iadd, 1) := by decide +kernel
theorem dX7_readsOrder_162 : decode cX7_readsOrder 162 = .ok (.putfield 94, 3) := by decide +kernel
theorem dX7_readsOrder_165 : decode cX7_readsOrder 165 = .ok (.aload_n 0, 1) := by decide +kernel
theorem dX7_readsOrder_166 : decode cX7_readsOrder 166 = .ok (.getfield 26, 3) := by decide +kernel
theorem dX7_readsOrder_169 : decode cX7_readsOrder 169 = .ok (.iload_n 1, 1) := by decide +kernel
theorem dX7_readsOrder_170 : decode cX7_readsOrder 170 = .ok (.iconst 3, 1) := by decide +kernel
theorem dX7_readsOrder_171 : decode cX7_readsOrder 171 = .ok (.iadd, 1) := by decide +kernel
theorem dX7_readsOrder_172 : decode cX7_readsOrder 172 = .ok (.iaload, 1) := by decide +kernel
theorem dX7_readsOrder_173 : decode cX7_readsOrder 173 = .ok (.ifCond .le 7, 3) := by decide +kernel
theorem dX7_readsOrder_176 : decode cX7_readsOrder 176 = .ok (.iconst 1, 1) := by decide +kernel
theorem dX7_readsOrder_177 : decode cX7_readsOrder 177 = .ok (.goto 4, 3) := by decide +kernel
theorem dX7_readsOrder_180 : decode cX7_readsOrder 180 = .ok (.iconst 0, 1) := by decide +kernel
theorem dX7_readsOrder_181 : decode cX7_readsOrder 181 = .ok (.ireturn, 1) := by decide +kernel
theorem dX7_reads_0 : decode cX7_reads 0 = .ok (.aload_n 0, 1) := by decide +kernel
theorem dX7_reads_1 : decode cX7_reads 1 = .ok (.iconst 0, 1) := by decide +kernel
theorem dX7_reads_2 : decode cX7_reads 2 = .ok (.putfield 84, 3) := by decide +kernel
theorem dX7_reads_5 : decode cX7_reads 5 = .ok (.aload_n 0, 1) := by decide +kernel
theorem dX7_reads_6 : decode cX7_reads 6 = .ok (.iconst 0, 1) := by decide +kernel
theorem dX7_reads_7 : decode cX7_reads 7 = .ok (.putfield 94, 3) := by decide +kernel
theorem dX7_reads_10 : decode cX7_reads 10 = .ok (.aload_n 0, 1) := by decide +kernel
theorem dX7_reads_11 : decode cX7_reads 11 = .ok (.invokevirtual 103, 3) := by decide +kernel
theorem dX7_reads_14 : decode cX7_reads 14 = .ok (.ifCond .eq 27, 3) := by decide +kernel
theorem dX7_reads_17 : decode cX7_reads 17 = .ok (.aload_n 0, 1) := by decide +kernel
theorem dX7_reads_18 : decode cX7_reads 18 = .ok (.getfield 84, 3) := by decide +kernel
theorem dX7_reads_21 : decode cX7_reads 21 = .ok (.aload_n 0, 1) := by decide +kernel
theorem dX7_reads_22 : decode cX7_reads 22 = .ok (.getfield 87, 3) := by decide +kernel
theorem dX7_reads_25 : decode cX7_reads 25 = .ok (.if_icmp .ne 5, 3) := by decide +kernel
theorem dX7_reads_28 : decode cX7_reads 28 = .ok (.iconst 1, 1) := by decide +kernel
theorem dX7_reads_29 : decode cX7_reads 29 = .ok (.ireturn, 1) := by decide +kernel
theorem dX7_reads_30 : decode cX7_reads 30 = .ok (.aload_n 0, 1) := by decide +kernel
theorem dX7_reads_31 : decode cX7_reads 31 = .ok (.bipush 59, 2) := by decide +kernel
theorem dX7_reads_33 : decode cX7_reads 33 = .ok (.invokevirtual 97, 3) := by decide +kernel
theorem dX7_reads_36 : decode cX7_reads 36 = .ok (.ifCond .ne (-26), 3) := by decide +kernel
theorem dX7_reads_39 : decode cX7_reads 39 = .ok (.iconst 0, 1) := by decide +kernel
theorem dX7_reads_40 : decode cX7_reads 40 = .ok (.ireturn, 1) := by decide +kernel
theorem dX7_reads_41 : decode cX7_reads 41 = .ok (.iconst 0, 1) := by decide +kernel
theorem dX7_reads_42 : decode cX7_reads 42 = .ok (.ireturn, 1) := by decide +kernel
theorem dX7_orderAll_0 : decode cX7_orderAll 0 = .ok (.aload_n 0, 1) := by decide +kernel
theorem dX7_orderAll_1 : decode cX7_orderAll 1 = .ok (.invokevirtual 107, 3) := by decide +kernel
theorem dX7_orderAll_4 : decode cX7_orderAll 4 = .ok (.ifCond .ne 11, 3) := by decide +kernel
theorem dX7_orderAll_7 : decode cX7_orderAll 7 = .ok (.bipush (-100), 2) := by decide +kernel
theorem dX7_orderAll_9 : decode cX7_orderAll 9 = .ok (.aload_n 0, 1) := by decide +kernel
theorem dX7_orderAll_10 : decode cX7_orderAll 10 = .ok (.getfield 84, 3) := by decide +kernel
theorem dX7_orderAll_13 : decode cX7_orderAll 13 = .ok (.isub, 1) := by decide +kernel
theorem dX7_orderAll_14 : decode cX7_orderAll 14 = .ok (.ireturn, 1) := by decide +kernel
theorem dX7_orderAll_15 : decode cX7_orderAll 15 = .ok (.iconst 0, 1) := by decide +kernel
theorem dX7_orderAll_16 : decode cX7_orderAll 16 = .ok (.istore_n 1, 1) := by decide +kernel
theorem dX7_orderAll_17 : decode cX7_orderAll 17 = .ok (.iload_n 1, 1) := by decide +kernel
theorem dX7_orderAll_18 : decode cX7_orderAll 18 = .ok (.sipush 23144, 3) := by decide +kernel
theorem dX7_orderAll_21 : decode cX7_orderAll 21 = .ok (.if_icmp .ge 21, 3) := by decide +kernel
theorem dX7_orderAll_24 : decode cX7_orderAll 24 = .ok (.aload_n 0, 1) := by decide +kernel
theorem dX7_orderAll_25 : decode cX7_orderAll 25 = .ok (.getfield 16, 3) := by decide +kernel
theorem dX7_orderAll_28 : decode cX7_orderAll 28 = .ok (.iload_n 1, 1) := by decide +kernel
theorem dX7_orderAll_29 : decode cX7_orderAll 29 = .ok (.aload_n 0, 1) := by decide +kernel
theorem dX7_orderAll_30 : decode cX7_orderAll 30 = .ok (.getfield 7, 3) := by decide +kernel
theorem dX7_orderAll_33 : decode cX7_orderAll 33 = .ok (.iload_n 1, 1) := by decide +kernel
theorem dX7_orderAll_34 : decode cX7_orderAll 34 = .ok (.iaload, 1) := by decide +kernel
theorem dX7_orderAll_35 : decode cX7_orderAll 35 = .ok (.iastore, 1) := by decide +kernel
theorem dX7_orderAll_36 : decode cX7_orderAll 36 = .ok (.iinc 1 1, 3) := by decide +kernel
theorem dX7_orderAll_39 : decode cX7_orderAll 39 = .ok (.goto (-22), 3) := by decide +kernel
theorem dX7_orderAll_42 : decode cX7_orderAll 42 = .ok (.iconst 0, 1) := by decide +kernel
theorem dX7_orderAll_43 : decode cX7_orderAll 43 = .ok (.istore_n 1, 1) := by decide +kernel
theorem dX7_orderAll_44 : decode cX7_orderAll 44 = .ok (.iconst 0, 1) := by decide +kernel
theorem dX7_orderAll_45 : decode cX7_orderAll 45 = .ok (.istore_n 2, 1) := by decide +kernel
theorem dX7_orderAll_46 : decode cX7_orderAll 46 = .ok (.iload_n 2, 1) := by decide +kernel
theorem dX7_orderAll_47 : decode cX7_orderAll 47 = .ok (.aload_n 0, 1) := by decide +kernel
theorem dX7_orderAll_48 : decode cX7_orderAll 48 = .ok (.getfield 94, 3) := by decide +kernel
theorem dX7_orderAll_51 : decode cX7_orderAll 51 = .ok (.if_icmp .ge 134, 3) := by decide +kernel
theorem dX7_orderAll_54 : decode cX7_orderAll 54 = .ok (.aload_n 0, 1) := by decide +kernel
theorem dX7_orderAll_55 : decode cX7_orderAll 55 = .ok (.aload_n 0, 1) := by decide +kernel
theorem dX7_orderAll_56 : decode cX7_orderAll 56 = .ok (.getfield 26, 3) := by decide +kernel
theorem dX7_orderAll_59 : decode cX7_orderAll 59 = .ok (.iconst 4, 1) := by decide +kernel
theorem dX7_orderAll_60 : decode cX7_orderAll 60 = .ok (.iload_n 2, 1) := by decide +kernel
theorem dX7_orderAll_61 : decode cX7_orderAll 61 = .ok (.imul, 1) := by decide +kernel
theorem dX7_orderAll_62 : decode cX7_orderAll 62 = .ok (.iaload, 1) := by decide +kernel
theorem dX7_orderAll_63 : decode cX7_orderAll 63 = .ok (.aload_n 0, 1) := by decide +kernel
theorem dX7_orderAll_64 : decode cX7_orderAll 64 = .ok (.getfield 26, 3) := by decide +kernel
theorem dX7_orderAll_67 : decode cX7_orderAll 67 = .ok (.iconst 4, 1) := by decide +kernel
theorem dX7_orderAll_68 : decode cX7_orderAll 68 = .ok (.iload_n 2, 1) := by decide +kernel
theorem dX7_orderAll_69 : decode cX7_orderAll 69 = .ok (.imul, 1) := by decide +kernel
theorem dX7_orderAll_70 : decode cX7_orderAll 70 = .ok (.iconst 1, 1) := by decide +kernel
theorem dX7_orderAll_71 : decode cX7_orderAll 71 = .ok (.iadd, 1) := by decide +kernel
theorem dX7_orderAll_72 : decode cX7_orderAll 72 = .ok (.iaload, 1) := by decide +kernel
theorem dX7_orderAll_73 : decode cX7_orderAll 73 = .ok (.aload_n 0, 1) := by decide +kernel
theorem dX7_orderAll_74 : decode cX7_orderAll 74 = .ok (.getfield 26, 3) := by decide +kernel
theorem dX7_orderAll_77 : decode cX7_orderAll 77 = .ok (.iconst 4, 1) := by decide +kernel
theorem dX7_orderAll_78 : decode cX7_orderAll 78 = .ok (.iload_n 2, 1) := by decide +kernel
theorem dX7_orderAll_79 : decode cX7_orderAll 79 = .ok (.imul, 1) := by decide +kernel
theorem dX7_orderAll_80 : decode cX7_orderAll 80 = .ok (.iconst 2, 1) := by decide +kernel
theorem dX7_orderAll_81 : decode cX7_orderAll 81 = .ok (.iadd, 1) := by decide +kernel
theorem dX7_orderAll_82 : decode cX7_orderAll 82 = .ok (.iaload, 1) := by decide +kernel
theorem dX7_orderAll_83 : decode cX7_orderAll 83 = .ok (.aload_n 0, 1) := by decide +kernel
theorem dX7_orderAll_84 : decode cX7_orderAll 84 = .ok (.getfield 26, 3) := by decide +kernel
theorem dX7_orderAll_87 : decode cX7_orderAll 87 = .ok (.iconst 4, 1) := by decide +kernel
theorem dX7_orderAll_88 : decode cX7_orderAll 88 = .ok (.iload_n 2, 1) := by decide +kernel
theorem dX7_orderAll_89 : decode cX7_orderAll 89 = .ok (.imul, 1) := by decide +kernel
theorem dX7_orderAll_90 : decode cX7_orderAll 90 = .ok (.iconst 3, 1) := by decide +kernel
theorem dX7_orderAll_91 : decode cX7_orderAll 91 = .ok (.iadd, 1) := by decide +kernel
theorem dX7_orderAll_92 : decode cX7_orderAll 92 = .ok (.iaload, 1) := by decide +kernel
theorem dX7_orderAll_93 : decode cX7_orderAll 93 = .ok (.invokevirtual 74, 3) := by decide +kernel
theorem dX7_orderAll_96 : decode cX7_orderAll 96 = .ok (.istore_n 3, 1) := by decide +kernel
theorem dX7_orderAll_97 : decode cX7_orderAll 97 = .ok (.iload_n 3, 1) := by decide +kernel
theorem dX7_orderAll_98 : decode cX7_orderAll 98 = .ok (.ifCond .ge 36, 3) := by decide +kernel
theorem dX7_orderAll_101 : decode cX7_orderAll 101 = .ok (.iconst 0, 1) := by decide +kernel
theorem dX7_orderAll_102 : decode cX7_orderAll 102 = .ok (.istore 4, 2) := by decide +kernel
theorem dX7_orderAll_104 : decode cX7_orderAll 104 = .ok (.iload 4, 2) := by decide +kernel
theorem dX7_orderAll_106 : decode cX7_orderAll 106 = .ok (.sipush 23144, 3) := by decide +kernel
theorem dX7_orderAll_109 : decode cX7_orderAll 109 = .ok (.if_icmp .ge 23, 3) := by decide +kernel
theorem dX7_orderAll_112 : decode cX7_orderAll 112 = .ok (.aload_n 0, 1) := by decide +kernel
theorem dX7_orderAll_113 : decode cX7_orderAll 113 = .ok (.getfield 7, 3) := by decide +kernel
theorem dX7_orderAll_116 : decode cX7_orderAll 116 = .ok (.iload 4, 2) := by decide +kernel
theorem dX7_orderAll_118 : decode cX7_orderAll 118 = .ok (.aload_n 0, 1) := by decide +kernel
theorem dX7_orderAll_119 : decode cX7_orderAll 119 = .ok (.getfield 16, 3) := by decide +kernel
theorem dX7_orderAll_122 : decode cX7_orderAll 122 = .ok (.iload 4, 2) := by decide +kernel
theorem dX7_orderAll_124 : decode cX7_orderAll 124 = .ok (.iaload, 1) := by decide +kernel
theorem dX7_orderAll_125 : decode cX7_orderAll 125 = .ok (.iastore, 1) := by decide +kernel
theorem dX7_orderAll_126 : decode cX7_orderAll 126 = .ok (.iinc 4 1, 3) := by decide +kernel
theorem dX7_orderAll_129 : decode cX7_orderAll 129 = .ok (.goto (-25), 3) := by decide +kernel
theorem dX7_orderAll_132 : decode cX7_orderAll 132 = .ok (.iload_n 3, 1) := by decide +kernel
theorem dX7_orderAll_133 : decode cX7_orderAll 133 = .ok (.ireturn, 1) := by decide +kernel
theorem dX7_orderAll_134 : decode cX7_orderAll 134 = .ok (.iload_n 1, 1) := by decide +kernel
theorem dX7_orderAll_135 : decode cX7_orderAll 135 = .ok (.aload_n 0, 1) := by decide +kernel
theorem dX7_orderAll_136 : decode cX7_orderAll 136 = .ok (.aload_n 0, 1) := by decide +kernel
theorem dX7_orderAll_137 : decode cX7_orderAll 137 = .ok (.getfield 26, 3) := by decide +kernel
theorem dX7_orderAll_140 : decode cX7_orderAll 140 = .ok (.iconst 4, 1) := by decide +kernel
theorem dX7_orderAll_141 : decode cX7_orderAll 141 = .ok (.iload_n 2, 1) := by decide +kernel
theorem dX7_orderAll_142 : decode cX7_orderAll 142 = .ok (.imul, 1) := by decide +kernel
theorem dX7_orderAll_143 : decode cX7_orderAll 143 = .ok (.iaload, 1) := by decide +kernel
theorem dX7_orderAll_144 : decode cX7_orderAll 144 = .ok (.aload_n 0, 1) := by decide +kernel
theorem dX7_orderAll_145 : decode cX7_orderAll 145 = .ok (.getfield 26, 3) := by decide +kernel
theorem dX7_orderAll_148 : decode cX7_orderAll 148 = .ok (.iconst 4, 1) := by decide +kernel
theorem dX7_orderAll_149 : decode cX7_orderAll 149 = .ok (.iload_n 2, 1) := by decide +kernel
theorem dX7_orderAll_150 : decode cX7_orderAll 150 = .ok (.imul, 1) := by decide +kernel
theorem dX7_orderAll_151 : decode cX7_orderAll 151 = .ok (.iconst 1, 1) := by decide +kernel
theorem dX7_orderAll_152 : decode cX7_orderAll 152 = .ok (.iadd, 1) := by decide +kernel
theorem dX7_orderAll_153 : decode cX7_orderAll 153 = .ok (.iaload, 1) := by decide +kernel
theorem dX7_orderAll_154 : decode cX7_orderAll 154 = .ok (.aload_n 0, 1) := by decide +kernel
theorem dX7_orderAll_155 : decode cX7_orderAll 155 = .ok (.getfield 26, 3) := by decide +kernel
theorem dX7_orderAll_158 : decode cX7_orderAll 158 = .ok (.iconst 4, 1) := by decide +kernel
theorem dX7_orderAll_159 : decode cX7_orderAll 159 = .ok (.iload_n 2, 1) := by decide +kernel
theorem dX7_orderAll_160 : decode cX7_orderAll 160 = .ok (.imul, 1) := by decide +kernel
theorem dX7_orderAll_161 : decode cX7_orderAll 161 = .ok (.iconst 2, 1) := by decide +kernel
theorem dX7_orderAll_162 : decode cX7_orderAll 162 = .ok (.iadd, 1) := by decide +kernel
theorem dX7_orderAll_163 : decode cX7_orderAll 163 = .ok (.iaload, 1) := by decide +kernel
theorem dX7_orderAll_164 : decode cX7_orderAll 164 = .ok (.aload_n 0, 1) := by decide +kernel
theorem dX7_orderAll_165 : decode cX7_orderAll 165 = .ok (.getfield 26, 3) := by decide +kernel
theorem dX7_orderAll_168 : decode cX7_orderAll 168 = .ok (.iconst 4, 1) := by decide +kernel
theorem dX7_orderAll_169 : decode cX7_orderAll 169 = .ok (.iload_n 2, 1) := by decide +kernel
theorem dX7_orderAll_170 : decode cX7_orderAll 170 = .ok (.imul, 1) := by decide +kernel
theorem dX7_orderAll_171 : decode cX7_orderAll 171 = .ok (.iconst 3, 1) := by decide +kernel
theorem dX7_orderAll_172 : decode cX7_orderAll 172 = .ok (.iadd, 1) := by decide +kernel
theorem dX7_orderAll_173 : decode cX7_orderAll 173 = .ok (.iaload, 1) := by decide +kernel
theorem dX7_orderAll_174 : decode cX7_orderAll 174 = .ok (.invokevirtual 78, 3) := by decide +kernel
theorem dX7_orderAll_177 : decode cX7_orderAll 177 = .ok (.iadd, 1) := by decide +kernel
theorem dX7_orderAll_178 : decode cX7_orderAll 178 = .ok (.istore_n 1, 1) := by decide +kernel
theorem dX7_orderAll_179 : decode cX7_orderAll 179 = .ok (.iinc 2 1, 3) := by decide +kernel
theorem dX7_orderAll_182 : decode cX7_orderAll 182 = .ok (.goto (-136), 3) := by decide +kernel
theorem dX7_orderAll_185 : decode cX7_orderAll 185 = .ok (.aload_n 0, 1) := by decide +kernel
theorem dX7_orderAll_186 : decode cX7_orderAll 186 = .ok (.invokevirtual 110, 3) := by decide +kernel
theorem dX7_orderAll_189 : decode cX7_orderAll 189 = .ok (.iload_n 1, 1) := by decide +kernel
theorem dX7_orderAll_190 : decode cX7_orderAll 190 = .ok (.ireturn, 1) := by decide +kernel
theorem dX7_find_0 : decode cX7_find 0 = .ok (.iconst 0, 1) := by decide +kernel
theorem dX7_find_1 : decode cX7_find 1 = .ok (.istore_n 2, 1) := by decide +kernel
theorem dX7_find_2 : decode cX7_find 2 = .ok (.iload_n 2, 1) := by decide +kernel
theorem dX7_find_3 : decode cX7_find 3 = .ok (.aload_n 0, 1) := by decide +kernel
theorem dX7_find_4 : decode cX7_find 4 = .ok (.getfield 7, 3) := by decide +kernel
theorem dX7_find_7 : decode cX7_find 7 = .ok (.bipush 11, 2) := by decide +kernel
theorem dX7_find_9 : decode cX7_find 9 = .ok (.iaload, 1) := by decide +kernel
theorem dX7_find_10 : decode cX7_find 10 = .ok (.if_icmp .ge 24, 3) := by decide +kernel
theorem dX7_find_13 : decode cX7_find 13 = .ok (.aload_n 0, 1) := by decide +kernel
theorem dX7_find_14 : decode cX7_find 14 = .ok (.getfield 7, 3) := by decide +kernel
theorem dX7_find_17 : decode cX7_find 17 = .ok (.bipush 64, 2) := by decide +kernel
theorem dX7_find_19 : decode cX7_find 19 = .ok (.iload_n 2, 1) := by decide +kernel
theorem dX7_find_20 : decode cX7_find 20 = .ok (.iadd, 1) := by decide +kernel
theorem dX7_find_21 : decode cX7_find 21 = .ok (.iaload, 1) := by decide +kernel
theorem dX7_find_22 : decode cX7_find 22 = .ok (.iload_n 1, 1) := by decide +kernel
theorem dX7_find_23 : decode cX7_find 23 = .ok (.if_icmp .ne 5, 3) := by decide +kernel
theorem dX7_find_26 : decode cX7_find 26 = .ok (.iload_n 2, 1) := by decide +kernel
theorem dX7_find_27 : decode cX7_find 27 = .ok (.ireturn, 1) := by decide +kernel
theorem dX7_find_28 : decode cX7_find 28 = .ok (.iinc 2 1, 3) := by decide +kernel
theorem dX7_find_31 : decode cX7_find 31 = .ok (.goto (-29), 3) := by decide +kernel
theorem dX7_find_34 : decode cX7_find 34 = .ok (.iconst (-1), 1) := by decide +kernel
theorem dX7_find_35 : decode cX7_find 35 = .ok (.ireturn, 1) := by decide +kernel
theorem dX7_takeBack_0 : decode cX7_takeBack 0 = .ok (.aload_n 0, 1) := by decide +kernel
theorem dX7_takeBack_1 : decode cX7_takeBack 1 = .ok (.iload_n 1, 1) := by decide +kernel
theorem dX7_takeBack_2 : decode cX7_takeBack 2 = .ok (.invokevirtual 113, 3) := by decide +kernel
theorem dX7_takeBack_5 : decode cX7_takeBack 5 = .ok (.istore_n 2, 1) := by decide +kernel
theorem dX7_takeBack_6 : decode cX7_takeBack 6 = .ok (.iload_n 2, 1) := by decide +kernel
theorem dX7_takeBack_7 : decode cX7_takeBack 7 = .ok (.ifCond .ge 5, 3) := by decide +kernel
theorem dX7_takeBack_10 : decode cX7_takeBack 10 = .ok (.iconst (-1), 1) := by decide +kernel
theorem dX7_takeBack_11 : decode cX7_takeBack 11 = .ok (.ireturn, 1) := by decide +kernel
theorem dX7_takeBack_12 : decode cX7_takeBack 12 = .ok (.aload_n 0, 1) := by decide +kernel
theorem dX7_takeBack_13 : decode cX7_takeBack 13 = .ok (.invokevirtual 42, 3) := by decide +kernel
theorem dX7_takeBack_16 : decode cX7_takeBack 16 = .ok (.aload_n 0, 1) := by decide +kernel
theorem dX7_takeBack_17 : decode cX7_takeBack 17 = .ok (.getfield 7, 3) := by decide +kernel
theorem dX7_takeBack_20 : decode cX7_takeBack 20 = .ok (.bipush 112, 2) := by decide +kernel
theorem dX7_takeBack_22 : decode cX7_takeBack 22 = .ok (.iload_n 2, 1) := by decide +kernel
theorem dX7_takeBack_23 : decode cX7_takeBack 23 = .ok (.iadd, 1) := by decide +kernel
theorem dX7_takeBack_24 : decode cX7_takeBack 24 = .ok (.iaload, 1) := by decide +kernel
theorem dX7_takeBack_25 : decode cX7_takeBack 25 = .ok (.istore_n 3, 1) := by decide +kernel
theorem dX7_takeBack_26 : decode cX7_takeBack 26 = .ok (.aload_n 0, 1) := by decide +kernel
theorem dX7_takeBack_27 : decode cX7_takeBack 27 = .ok (.getfield 7, 3) := by decide +kernel
theorem dX7_takeBack_30 : decode cX7_takeBack 30 = .ok (.bipush 96, 2) := by decide +kernel
theorem dX7_takeBack_32 : decode cX7_takeBack 32 = .ok (.iload_n 2, 1) := by decide +kernel
theorem dX7_takeBack_33 : decode cX7_takeBack 33 = .ok (.iadd, 1) := by decide +kernel
theorem dX7_takeBack_34 : decode cX7_takeBack 34 = .ok (.iaload, 1) := by decide +kernel
theorem dX7_takeBack_35 : decode cX7_takeBack 35 = .ok (.iconst 1, 1) := by decide +kernel
theorem dX7_takeBack_36 : decode cX7_takeBack 36 = .ok (.if_icmp .ne 38, 3) := by decide +kernel
theorem dX7_takeBack_39 : decode cX7_takeBack 39 = .ok (.aload_n 0, 1) := by decide +kernel
theorem dX7_takeBack_40 : decode cX7_takeBack 40 = .ok (.getfield 7, 3) := by decide +kernel
theorem dX7_takeBack_43 : decode cX7_takeBack 43 = .ok (.bipush 20, 2) := by decide +kernel
theorem dX7_takeBack_45 : decode cX7_takeBack 45 = .ok (.aload_n 0, 1) := by decide +kernel
theorem dX7_takeBack_46 : decode cX7_takeBack 46 = .ok (.getfield 7, 3) := by decide +kernel
theorem dX7_takeBack_49 : decode cX7_takeBack 49 = .ok (.bipush 80, 2) := by decide +kernel
theorem dX7_takeBack_51 : decode cX7_takeBack 51 = .ok (.iload_n 2, 1) := by decide +kernel
theorem dX7_takeBack_52 : decode cX7_takeBack 52 = .ok (.iadd, 1) := by decide +kernel
theorem dX7_takeBack_53 : decode cX7_takeBack 53 = .ok (.iaload, 1) := by decide +kernel
theorem dX7_takeBack_54 : decode cX7_takeBack 54 = .ok (.iadd, 1) := by decide +kernel
theorem dX7_takeBack_55 : decode cX7_takeBack 55 = .ok (.dup2, 1) := by decide +kernel
theorem dX7_takeBack_56 : decode cX7_takeBack 56 = .ok (.iaload, 1) := by decide +kernel
theorem dX7_takeBack_57 : decode cX7_takeBack 57 = .ok (.iload_n 3, 1) := by decide +kernel
theorem dX7_takeBack_58 : decode cX7_takeBack 58 = .ok (.aload_n 0, 1) := by decide +kernel
theorem dX7_takeBack_59 : decode cX7_takeBack 59 = .ok (.getfield 7, 3) := by decide +kernel
theorem dX7_takeBack_62 : decode cX7_takeBack 62 = .ok (.sipush 128, 3) := by decide +kernel
theorem dX7_takeBack_65 : decode cX7_takeBack 65 = .ok (.iload_n 2, 1) := by decide +kernel
theorem dX7_takeBack_66 : decode cX7_takeBack 66 = .ok (.iadd, 1) := by decide +kernel
theorem dX7_takeBack_67 : decode cX7_takeBack 67 = .ok (.iaload, 1) := by decide +kernel
theorem dX7_takeBack_68 : decode cX7_takeBack 68 = .ok (.imul, 1) := by decide +kernel
theorem dX7_takeBack_69 : decode cX7_takeBack 69 = .ok (.iadd, 1) := by decide +kernel
theorem dX7_takeBack_70 : decode cX7_takeBack 70 = .ok (.iastore, 1) := by decide +kernel
theorem dX7_takeBack_71 : decode cX7_takeBack 71 = .ok (.goto 24, 3) := by decide +kernel
theorem dX7_takeBack_74 : decode cX7_takeBack 74 = .ok (.aload_n 0, 1) := by decide +kernel
theorem dX7_takeBack_75 : decode cX7_takeBack 75 = .ok (.iload_n 2, 1) := by decide +kernel
theorem dX7_takeBack_76 : decode cX7_takeBack 76 = .ok (.invokestatic 53, 3) := by decide +kernel
theorem dX7_takeBack_79 : decode cX7_takeBack 79 = .ok (.aload_n 0, 1) := by decide +kernel
theorem dX7_takeBack_80 : decode cX7_takeBack 80 = .ok (.getfield 7, 3) := by decide +kernel
theorem dX7_takeBack_83 : decode cX7_takeBack 83 = .ok (.bipush 80, 2) := by decide +kernel
theorem dX7_takeBack_85 : decode cX7_takeBack 85 = .ok (.iload_n 2, 1) := by decide +kernel
theorem dX7_takeBack_86 : decode cX7_takeBack 86 = .ok (.iadd, 1) := by decide +kernel
theorem dX7_takeBack_87 : decode cX7_takeBack 87 = .ok (.iaload, 1) := by decide +kernel
theorem dX7_takeBack_88 : decode cX7_takeBack 88 = .ok (.invokestatic 45, 3) := by decide +kernel
theorem dX7_takeBack_91 : decode cX7_takeBack 91 = .ok (.iload_n 3, 1) := by decide +kernel
theorem dX7_takeBack_92 : decode cX7_takeBack 92 = .ok (.invokevirtual 56, 3) := by decide +kernel
theorem dX7_takeBack_95 : decode cX7_takeBack 95 = .ok (.aload_n 0, 1) := by decide +kernel
theorem dX7_takeBack_96 : decode cX7_takeBack 96 = .ok (.iload_n 2, 1) := by decide +kernel
theorem dX7_takeBack_97 : decode cX7_takeBack 97 = .ok (.invokevirtual 70, 3) := by decide +kernel
theorem dX7_takeBack_100 : decode cX7_takeBack 100 = .ok (.iload_n 3, 1) := by decide +kernel
theorem dX7_takeBack_101 : decode cX7_takeBack 101 = .ok (.ireturn, 1) := by decide +kernel
theorem dX7_buyReserve_0 : decode cX7_buyReserve 0 = .ok (.iload_n 1, 1) := by decide +kernel
theorem dX7_buyReserve_1 : decode cX7_buyReserve 1 = .ok (.invokestatic 38, 3) := by decide +kernel
theorem dX7_buyReserve_4 : decode cX7_buyReserve 4 = .ok (.ifCond .ne 5, 3) := by decide +kernel
theorem dX7_buyReserve_7 : decode cX7_buyReserve 7 = .ok (.iconst (-1), 1) := by decide +kernel
theorem dX7_buyReserve_8 : decode cX7_buyReserve 8 = .ok (.ireturn, 1) := by decide +kernel
theorem dX7_buyReserve_9 : decode cX7_buyReserve 9 = .ok (.iload_n 2, 1) := by decide +kernel
theorem dX7_buyReserve_10 : decode cX7_buyReserve 10 = .ok (.iconst 1, 1) := by decide +kernel
theorem dX7_buyReserve_11 : decode cX7_buyReserve 11 = .ok (.sipush 999, 3) := by decide +kernel
theorem dX7_buyReserve_14 : decode cX7_buyReserve 14 = .ok (.invokestatic 29, 3) := by decide +kernel
theorem dX7_buyReserve_17 : decode cX7_buyReserve 17 = .ok (.ifCond .ne 6, 3) := by decide +kernel
theorem dX7_buyReserve_20 : decode cX7_buyReserve 20 = .ok (.bipush (-2), 2) := by decide +kernel
theorem dX7_buyReserve_22 : decode cX7_buyReserve 22 = .ok (.ireturn, 1) := by decide +kernel
theorem dX7_buyReserve_23 : decode cX7_buyReserve 23 = .ok (.iload_n 2, 1) := by decide +kernel
theorem dX7_buyReserve_24 : decode cX7_buyReserve 24 = .ok (.aload_n 0, 1) := by decide +kernel
theorem dX7_buyReserve_25 : decode cX7_buyReserve 25 = .ok (.getfield 7, 3) := by decide +kernel
theorem dX7_buyReserve_28 : decode cX7_buyReserve 28 = .ok (.bipush 13, 2) := by decide +kernel
theorem dX7_buyReserve_30 : decode cX7_buyReserve 30 = .ok (.iaload, 1) := by decide +kernel
theorem dX7_buyReserve_31 : decode cX7_buyReserve 31 = .ok (.imul, 1) := by decide +kernel
theorem dX7_buyReserve_32 : decode cX7_buyReserve 32 = .ok (.istore_n 3, 1) := by decide +kernel
theorem dX7_buyReserve_33 : decode cX7_buyReserve 33 = .ok (.aload_n 0, 1) := by decide +kernel
theorem dX7_buyReserve_34 : decode cX7_buyReserve 34 = .ok (.getfield 7, 3) := by decide +kernel
theorem dX7_buyReserve_37 : decode cX7_buyReserve 37 = .ok (.iconst 1, 1) := by decide +kernel
theorem dX7_buyReserve_38 : decode cX7_buyReserve 38 = .ok (.iaload, 1) := by decide +kernel
theorem dX7_buyReserve_39 : decode cX7_buyReserve 39 = .ok (.iload_n 2, 1) := by decide +kernel
theorem dX7_buyReserve_40 : decode cX7_buyReserve 40 = .ok (.if_icmp .lt 16, 3) := by decide +kernel
theorem dX7_buyReserve_43 : decode cX7_buyReserve 43 = .ok (.aload_n 0, 1) := by decide +kernel
theorem dX7_buyReserve_44 : decode cX7_buyReserve 44 = .ok (.getfield 7, 3) := by decide +kernel
theorem dX7_buyReserve_47 : decode cX7_buyReserve 47 = .ok (.bipush 20, 2) := by decide +kernel
theorem dX7_buyReserve_49 : decode cX7_buyReserve 49 = .ok (.iload_n 1, 1) := by decide +kernel
theorem dX7_buyReserve_50 : decode cX7_buyReserve 50 = .ok (.iadd, 1) := by decide +kernel
theorem dX7_buyReserve_51 : decode cX7_buyReserve 51 = .ok (.iaload, 1) := by decide +kernel
theorem dX7_buyReserve_52 : decode cX7_buyReserve 52 = .ok (.iload_n 3, 1) := by decide +kernel
theorem dX7_buyReserve_53 : decode cX7_buyReserve 53 = .ok (.if_icmp .ge 6, 3) := by decide +kernel
theorem dX7_buyReserve_56 : decode cX7_buyReserve 56 = .ok (.bipush (-3), 2) := by decide +kernel
theorem dX7_buyReserve_58 : decode cX7_buyReserve 58 = .ok (.ireturn, 1) := by decide +kernel
theorem dX7_buyReserve_59 : decode cX7_buyReserve 59 = .ok (.aload_n 0, 1) := by decide +kernel
theorem dX7_buyReserve_60 : decode cX7_buyReserve 60 = .ok (.invokevirtual 42, 3) := by decide +kernel
theorem dX7_buyReserve_63 : decode cX7_buyReserve 63 = .ok (.aload_n 0, 1) := by decide +kernel
theorem dX7_buyReserve_64 : decode cX7_buyReserve 64 = .ok (.getfield 7, 3) := by decide +kernel
theorem dX7_buyReserve_67 : decode cX7_buyReserve 67 = .ok (.iconst 1, 1) := by decide +kernel
theorem dX7_buyReserve_68 : decode cX7_buyReserve 68 = .ok (.dup2, 1) := by decide +kernel
theorem dX7_buyReserve_69 : decode cX7_buyReserve 69 = .ok (.iaload, 1) := by decide +kernel
theorem dX7_buyReserve_70 : decode cX7_buyReserve 70 = .ok (.iload_n 2, 1) := by decide +kernel
theorem dX7_buyReserve_71 : decode cX7_buyReserve 71 = .ok (.isub, 1) := by decide +kernel
theorem dX7_buyReserve_72 : decode cX7_buyReserve 72 = .ok (.iastore, 1) := by decide +kernel
theorem dX7_buyReserve_73 : decode cX7_buyReserve 73 = .ok (.aload_n 0, 1) := by decide +kernel
theorem dX7_buyReserve_74 : decode cX7_buyReserve 74 = .ok (.getfield 7, 3) := by decide +kernel
theorem dX7_buyReserve_77 : decode cX7_buyReserve 77 = .ok (.bipush 20, 2) := by decide +kernel
theorem dX7_buyReserve_79 : decode cX7_buyReserve 79 = .ok (.iload_n 1, 1) := by decide +kernel
theorem dX7_buyReserve_80 : decode cX7_buyReserve 80 = .ok (.iadd, 1) := by decide +kernel
theorem dX7_buyReserve_81 : decode cX7_buyReserve 81 = .ok (.dup2, 1) := by decide +kernel
theorem dX7_buyReserve_82 : decode cX7_buyReserve 82 = .ok (.iaload, 1) := by decide +kernel
theorem dX7_buyReserve_83 : decode cX7_buyReserve 83 = .ok (.iload_n 3, 1) := by decide +kernel
theorem dX7_buyReserve_84 : decode cX7_buyReserve 84 = .ok (.isub, 1) := by decide +kernel
theorem dX7_buyReserve_85 : decode cX7_buyReserve 85 = .ok (.iastore, 1) := by decide +kernel
theorem dX7_buyReserve_86 : decode cX7_buyReserve 86 = .ok (.aload_n 0, 1) := by decide +kernel
theorem dX7_buyReserve_87 : decode cX7_buyReserve 87 = .ok (.getfield 7, 3) := by decide +kernel
theorem dX7_buyReserve_90 : decode cX7_buyReserve 90 = .ok (.iload_n 1, 1) := by decide +kernel
theorem dX7_buyReserve_91 : decode cX7_buyReserve 91 = .ok (.invokestatic 45, 3) := by decide +kernel
theorem dX7_buyReserve_94 : decode cX7_buyReserve 94 = .ok (.aload_n 0, 1) := by decide +kernel
theorem dX7_buyReserve_95 : decode cX7_buyReserve 95 = .ok (.getfield 7, 3) := by decide +kernel
theorem dX7_buyReserve_98 : decode cX7_buyReserve 98 = .ok (.iconst 0, 1) := by decide +kernel
theorem dX7_buyReserve_99 : decode cX7_buyReserve 99 = .ok (.iaload, 1) := by decide +kernel
theorem dX7_buyReserve_100 : decode cX7_buyReserve 100 = .ok (.iadd, 1) := by decide +kernel
theorem dX7_buyReserve_101 : decode cX7_buyReserve 101 = .ok (.dup2, 1) := by decide +kernel
theorem dX7_buyReserve_102 : decode cX7_buyReserve 102 = .ok (.iaload, 1) := by decide +kernel
theorem dX7_buyReserve_103 : decode cX7_buyReserve 103 = .ok (.iload_n 2, 1) := by decide +kernel
theorem dX7_buyReserve_104 : decode cX7_buyReserve 104 = .ok (.iadd, 1) := by decide +kernel
theorem dX7_buyReserve_105 : decode cX7_buyReserve 105 = .ok (.iastore, 1) := by decide +kernel
theorem dX7_buyReserve_106 : decode cX7_buyReserve 106 = .ok (.aload_n 0, 1) := by decide +kernel
theorem dX7_buyReserve_107 : decode cX7_buyReserve 107 = .ok (.getfield 7, 3) := by decide +kernel
theorem dX7_buyReserve_110 : decode cX7_buyReserve 110 = .ok (.bipush 6, 2) := by decide +kernel
theorem dX7_buyReserve_112 : decode cX7_buyReserve 112 = .ok (.dup2, 1) := by decide +kernel
theorem dX7_buyReserve_113 : decode cX7_buyReserve 113 = .ok (.iaload, 1) := by decide +kernel
theorem dX7_buyReserve_114 : decode cX7_buyReserve 114 = .ok (.iload_n 2, 1) := by decide +kernel
theorem dX7_buyReserve_115 : decode cX7_buyReserve 115 = .ok (.iadd, 1) := by decide +kernel
theorem dX7_buyReserve_116 : decode cX7_buyReserve 116 = .ok (.iastore, 1) := by decide +kernel
theorem dX7_buyReserve_117 : decode cX7_buyReserve 117 = .ok (.aload_n 0, 1) := by decide +kernel
theorem dX7_buyReserve_118 : decode cX7_buyReserve 118 = .ok (.getfield 7, 3) := by decide +kernel
theorem dX7_buyReserve_121 : decode cX7_buyReserve 121 = .ok (.bipush 10, 2) := by decide +kernel
theorem dX7_buyReserve_123 : decode cX7_buyReserve 123 = .ok (.dup2, 1) := by decide +kernel
theorem dX7_buyReserve_124 : decode cX7_buyReserve 124 = .ok (.iaload, 1) := by decide +kernel
theorem dX7_buyReserve_125 : decode cX7_buyReserve 125 = .ok (.iload_n 3, 1) := by decide +kernel
theorem dX7_buyReserve_126 : decode cX7_buyReserve 126 = .ok (.iadd, 1) := by decide +kernel
theorem dX7_buyReserve_127 : decode cX7_buyReserve 127 = .ok (.iastore, 1) := by decide +kernel
theorem dX7_buyReserve_128 : decode cX7_buyReserve 128 = .ok (.aload_n 0, 1) := by decide +kernel
theorem dX7_buyReserve_129 : decode cX7_buyReserve 129 = .ok (.getfield 7, 3) := by decide +kernel
theorem dX7_buyReserve_132 : decode cX7_buyReserve 132 = .ok (.iconst 1, 1) := by decide +kernel
theorem dX7_buyReserve_133 : decode cX7_buyReserve 133 = .ok (.iaload, 1) := by decide +kernel
theorem dX7_buyReserve_134 : decode cX7_buyReserve 134 = .ok (.ireturn, 1) := by decide +kernel
theorem dX7_borrow_0 : decode cX7_borrow 0 = .ok (.iload_n 1, 1) := by decide +kernel
theorem dX7_borrow_1 : decode cX7_borrow 1 = .ok (.invokestatic 38, 3) := by decide +kernel
theorem dX7_borrow_4 : decode cX7_borrow 4 = .ok (.ifCond .ne 5, 3) := by decide +kernel
theorem dX7_borrow_7 : decode cX7_borrow 7 = .ok (.iconst (-1), 1) := by decide +kernel
theorem dX7_borrow_8 : decode cX7_borrow 8 = .ok (.ireturn, 1) := by decide +kernel
theorem dX7_borrow_9 : decode cX7_borrow 9 = .ok (.iload_n 2, 1) := by decide +kernel
theorem dX7_borrow_10 : decode cX7_borrow 10 = .ok (.iconst 1, 1) := by decide +kernel
theorem dX7_borrow_11 : decode cX7_borrow 11 = .ok (.sipush 999, 3) := by decide +kernel
theorem dX7_borrow_14 : decode cX7_borrow 14 = .ok (.invokestatic 29, 3) := by decide +kernel
theorem dX7_borrow_17 : decode cX7_borrow 17 = .ok (.ifCond .ne 6, 3) := by decide +kernel
theorem dX7_borrow_20 : decode cX7_borrow 20 = .ok (.bipush (-2), 2) := by decide +kernel
theorem dX7_borrow_22 : decode cX7_borrow 22 = .ok (.ireturn, 1) := by decide +kernel
theorem dX7_borrow_23 : decode cX7_borrow 23 = .ok (.aload_n 0, 1) := by decide +kernel
theorem dX7_borrow_24 : decode cX7_borrow 24 = .ok (.getfield 7, 3) := by decide +kernel
theorem dX7_borrow_27 : decode cX7_borrow 27 = .ok (.bipush 38, 2) := by decide +kernel
theorem dX7_borrow_29 : decode cX7_borrow 29 = .ok (.iload_n 1, 1) := by decide +kernel
theorem dX7_borrow_30 : decode cX7_borrow 30 = .ok (.iadd, 1) := by decide +kernel
theorem dX7_borrow_31 : decode cX7_borrow 31 = .ok (.iaload, 1) := by decide +kernel
theorem dX7_borrow_32 : decode cX7_borrow 32 = .ok (.iload_n 2, 1) := by decide +kernel
theorem dX7_borrow_33 : decode cX7_borrow 33 = .ok (.iadd, 1) := by decide +kernel
theorem dX7_borrow_34 : decode cX7_borrow 34 = .ok (.aload_n 0, 1) := by decide +kernel
theorem dX7_borrow_35 : decode cX7_borrow 35 = .ok (.getfield 7, 3) := by decide +kernel
theorem dX7_borrow_38 : decode cX7_borrow 38 = .ok (.bipush 32, 2) := by decide +kernel
theorem dX7_borrow_40 : decode cX7_borrow 40 = .ok (.iload_n 1, 1) := by decide +kernel
theorem dX7_borrow_41 : decode cX7_borrow 41 = .ok (.iadd, 1) := by decide +kernel
theorem dX7_borrow_42 : decode cX7_borrow 42 = .ok (.iaload, 1) := by decide +kernel
theorem dX7_borrow_43 : decode cX7_borrow 43 = .ok (.aload_n 0, 1) := by decide +kernel
theorem dX7_borrow_44 : decode cX7_borrow 44 = .ok (.getfield 7, 3) := by decide +kernel
theorem dX7_borrow_47 : decode cX7_borrow 47 = .ok (.bipush 14, 2) := by decide +kernel
theorem dX7_borrow_49 : decode cX7_borrow 49 = .ok (.iaload, 1) := by decide +kernel
theorem dX7_borrow_50 : decode cX7_borrow 50 = .ok (.imul, 1) := by decide +kernel
theorem dX7_borrow_51 : decode cX7_borrow 51 = .ok (.bipush 100, 2) := by decide +kernel
theorem dX7_borrow_53 : decode cX7_borrow 53 = .ok (.idiv, 1) := by decide +kernel
theorem dX7_borrow_54 : decode cX7_borrow 54 = .ok (.if_icmp .le 6, 3) := by decide +kernel
theorem dX7_borrow_57 : decode cX7_borrow 57 = .ok (.bipush (-3), 2) := by decide +kernel
theorem dX7_borrow_59 : decode cX7_borrow 59 = .ok (.ireturn, 1) := by decide +kernel
theorem dX7_borrow_60 : decode cX7_borrow 60 = .ok (.aload_n 0, 1) := by decide +kernel
theorem dX7_borrow_61 : decode cX7_borrow 61 = .ok (.invokevirtual 42, 3) := by decide +kernel
theorem dX7_borrow_64 : decode cX7_borrow 64 = .ok (.aload_n 0, 1) := by decide +kernel
theorem dX7_borrow_65 : decode cX7_borrow 65 = .ok (.getfield 7, 3) := by decide +kernel
theorem dX7_borrow_68 : decode cX7_borrow 68 = .ok (.bipush 38, 2) := by decide +kernel
theorem dX7_borrow_70 : decode cX7_borrow 70 = .ok (.iload_n 1, 1) := by decide +kernel
theorem dX7_borrow_71 : decode cX7_borrow 71 = .ok (.iadd, 1) := by decide +kernel
theorem dX7_borrow_72 : decode cX7_borrow 72 = .ok (.dup2, 1) := by decide +kernel
theorem dX7_borrow_73 : decode cX7_borrow 73 = .ok (.iaload, 1) := by decide +kernel
theorem dX7_borrow_74 : decode cX7_borrow 74 = .ok (.iload_n 2, 1) := by decide +kernel
theorem dX7_borrow_75 : decode cX7_borrow 75 = .ok (.iadd, 1) := by decide +kernel
theorem dX7_borrow_76 : decode cX7_borrow 76 = .ok (.iastore, 1) := by decide +kernel
theorem dX7_borrow_77 : decode cX7_borrow 77 = .ok (.aload_n 0, 1) := by decide +kernel
theorem dX7_borrow_78 : decode cX7_borrow 78 = .ok (.getfield 7, 3) := by decide +kernel
theorem dX7_borrow_81 : decode cX7_borrow 81 = .ok (.bipush 38, 2) := by decide +kernel
theorem dX7_borrow_83 : decode cX7_borrow 83 = .ok (.iload_n 1, 1) := by decide +kernel
theorem dX7_borrow_84 : decode cX7_borrow 84 = .ok (.iadd, 1) := by decide +kernel
theorem dX7_borrow_85 : decode cX7_borrow 85 = .ok (.iaload, 1) := by decide +kernel
theorem dX7_borrow_86 : decode cX7_borrow 86 = .ok (.ireturn, 1) := by decide +kernel
theorem dX7_set_0 : decode cX7_set 0 = .ok (.iload_n 1, 1) := by decide +kernel
theorem dX7_set_1 : decode cX7_set 1 = .ok (.iconst 2, 1) := by decide +kernel
theorem dX7_set_2 : decode cX7_set 2 = .ok (.if_icmp .eq 8, 3) := by decide +kernel
theorem dX7_set_5 : decode cX7_set 5 = .ok (.iload_n 1, 1) := by decide +kernel
theorem dX7_set_6 : decode cX7_set 6 = .ok (.iconst 3, 1) := by decide +kernel
theorem dX7_set_7 : decode cX7_set 7 = .ok (.if_icmp .ne 7, 3) := by decide +kernel
theorem dX7_set_10 : decode cX7_set 10 = .ok (.iconst 0, 1) := by decide +kernel
theorem dX7_set_11 : decode cX7_set 11 = .ok (.goto 14, 3) := by decide +kernel
theorem dX7_set_14 : decode cX7_set 14 = .ok (.iload_n 1, 1) := by decide +kernel
theorem dX7_set_15 : decode cX7_set 15 = .ok (.iconst 1, 1) := by decide +kernel
theorem dX7_set_16 : decode cX7_set 16 = .ok (.if_icmp .ne 8, 3) := by decide +kernel
theorem dX7_set_19 : decode cX7_set 19 = .ok (.bipush 100, 2) := by decide +kernel
theorem dX7_set_21 : decode cX7_set 21 = .ok (.goto 4, 3) := by decide +kernel
theorem dX7_set_24 : decode cX7_set 24 = .ok (.iconst 1, 1) := by decide +kernel
theorem dX7_set_25 : decode cX7_set 25 = .ok (.istore_n 3, 1) := by decide +kernel
theorem dX7_set_26 : decode cX7_set 26 = .ok (.iload_n 1, 1) := by decide +kernel
theorem dX7_set_27 : decode cX7_set 27 = .ok (.ifCond .ne 8, 3) := by decide +kernel
theorem dX7_set_30 : decode cX7_set 30 = .ok (.bipush 99, 2) := by decide +kernel
theorem dX7_set_32 : decode cX7_set 32 = .ok (.goto 25, 3) := by decide +kernel
theorem dX7_set_35 : decode cX7_set 35 = .ok (.iload_n 1, 1) := by decide +kernel
theorem dX7_set_36 : decode cX7_set 36 = .ok (.iconst 1, 1) := by decide +kernel
theorem dX7_set_37 : decode cX7_set 37 = .ok (.if_icmp .ne 9, 3) := by decide +kernel
theorem dX7_set_40 : decode cX7_set 40 = .ok (.sipush 500, 3) := by decide +kernel
theorem dX7_set_43 : decode cX7_set 43 = .ok (.goto 14, 3) := by decide +kernel
theorem dX7_set_46 : decode cX7_set 46 = .ok (.iload_n 1, 1) := by decide +kernel
theorem dX7_set_47 : decode cX7_set 47 = .ok (.iconst 4, 1) := by decide +kernel
theorem dX7_set_48 : decode cX7_set 48 = .ok (.if_icmp .ne 7, 3) := by decide +kernel
theorem dX7_set_51 : decode cX7_set 51 = .ok (.iconst 5, 1) := by decide +kernel
theorem dX7_set_52 : decode cX7_set 52 = .ok (.goto 5, 3) := by decide +kernel
theorem dX7_set_55 : decode cX7_set 55 = .ok (.bipush 100, 2) := by decide +kernel
theorem dX7_set_57 : decode cX7_set 57 = .ok (.istore 4, 2) := by decide +kernel
theorem dX7_set_59 : decode cX7_set 59 = .ok (.iload_n 1, 1) := by decide +kernel
theorem dX7_set_60 : decode cX7_set 60 = .ok (.iconst 0, 1) := by decide +kernel
theorem dX7_set_61 : decode cX7_set 61 = .ok (.iconst 4, 1) := by decide +kernel
theorem dX7_set_62 : decode cX7_set 62 = .ok (.invokestatic 29, 3) := by decide +kernel
theorem dX7_set_65 : decode cX7_set 65 = .ok (.ifCond .eq 13, 3) := by decide +kernel
theorem dX7_set_68 : decode cX7_set 68 = .ok (.iload_n 2, 1) := by decide +kernel
theorem dX7_set_69 : decode cX7_set 69 = .ok (.iload_n 3, 1) := by decide +kernel
theorem dX7_set_70 : decode cX7_set 70 = .ok (.iload 4, 2) := by decide +kernel
theorem dX7_set_72 : decode cX7_set 72 = .ok (.invokestatic 29, 3) := by decide +kernel
theorem dX7_set_75 : decode cX7_set 75 = .ok (.ifCond .ne 6, 3) := by decide +kernel
theorem dX7_set_78 : decode cX7_set 78 = .ok (.bipush (-2), 2) := by decide +kernel
theorem dX7_set_80 : decode cX7_set 80 = .ok (.ireturn, 1) := by decide +kernel
theorem dX7_set_81 : decode cX7_set 81 = .ok (.aload_n 0, 1) := by decide +kernel
theorem dX7_set_82 : decode cX7_set 82 = .ok (.getfield 7, 3) := by decide +kernel
theorem dX7_set_85 : decode cX7_set 85 = .ok (.bipush 12, 2) := by decide +kernel
theorem dX7_set_87 : decode cX7_set 87 = .ok (.iload_n 1, 1) := by decide +kernel
theorem dX7_set_88 : decode cX7_set 88 = .ok (.iadd, 1) := by decide +kernel
theorem dX7_set_89 : decode cX7_set 89 = .ok (.iaload, 1) := by decide +kernel
theorem dX7_set_90 : decode cX7_set 90 = .ok (.istore 5, 2) := by decide +kernel
theorem dX7_set_92 : decode cX7_set 92 = .ok (.iload 5, 2) := by decide +kernel
theorem dX7_set_94 : decode cX7_set 94 = .ok (.iload_n 2, 1) := by decide +kernel
theorem dX7_set_95 : decode cX7_set 95 = .ok (.if_icmp .ne 6, 3) := by decide +kernel
theorem dX7_set_98 : decode cX7_set 98 = .ok (.bipush (-5), 2) := by decide +kernel
theorem dX7_set_100 : decode cX7_set 100 = .ok (.ireturn, 1) := by decide +kernel
theorem dX7_set_101 : decode cX7_set 101 = .ok (.aload_n 0, 1) := by decide +kernel
theorem dX7_set_102 : decode cX7_set 102 = .ok (.invokevirtual 42, 3) := by decide +kernel
theorem dX7_set_105 : decode cX7_set 105 = .ok (.aload_n 0, 1) := by decide +kernel
theorem dX7_set_106 : decode cX7_set 106 = .ok (.getfield 7, 3) := by decide +kernel
theorem dX7_set_109 : decode cX7_set 109 = .ok (.bipush 12, 2) := by decide +kernel
theorem dX7_set_111 : decode cX7_set 111 = .ok (.iload_n 1, 1) := by decide +kernel
theorem dX7_set_112 : decode cX7_set 112 = .ok (.iadd, 1) := by decide +kernel
theorem dX7_set_113 : decode cX7_set 113 = .ok (.iload_n 2, 1) := by decide +kernel
theorem dX7_set_114 : decode cX7_set 114 = .ok (.iastore, 1) := by decide +kernel
theorem dX7_set_115 : decode cX7_set 115 = .ok (.iload 5, 2) := by decide +kernel
theorem dX7_set_117 : decode cX7_set 117 = .ok (.ireturn, 1) := by decide +kernel
theorem dX7_needs_0 : decode cX7_needs 0 = .ok (.aload_n 0, 1) := by decide +kernel
theorem dX7_needs_1 : decode cX7_needs 1 = .ok (.getfield 7, 3) := by decide +kernel
theorem dX7_needs_4 : decode cX7_needs 4 = .ok (.bipush 32, 2) := by decide +kernel
theorem dX7_needs_6 : decode cX7_needs 6 = .ok (.iload_n 1, 1) := by decide +kernel
theorem dX7_needs_7 : decode cX7_needs 7 = .ok (.iadd, 1) := by decide +kernel
theorem dX7_needs_8 : decode cX7_needs 8 = .ok (.iaload, 1) := by decide +kernel
theorem dX7_needs_9 : decode cX7_needs 9 = .ok (.aload_n 0, 1) := by decide +kernel
theorem dX7_needs_10 : decode cX7_needs 10 = .ok (.getfield 7, 3) := by decide +kernel
theorem dX7_needs_13 : decode cX7_needs 13 = .ok (.bipush 44, 2) := by decide +kernel
theorem dX7_needs_15 : decode cX7_needs 15 = .ok (.iload_n 1, 1) := by decide +kernel
theorem dX7_needs_16 : decode cX7_needs 16 = .ok (.iadd, 1) := by decide +kernel
theorem dX7_needs_17 : decode cX7_needs 17 = .ok (.iaload, 1) := by decide +kernel
theorem dX7_needs_18 : decode cX7_needs 18 = .ok (.iadd, 1) := by decide +kernel
theorem dX7_needs_19 : decode cX7_needs 19 = .ok (.aload_n 0, 1) := by decide +kernel
theorem dX7_needs_20 : decode cX7_needs 20 = .ok (.getfield 7, 3) := by decide +kernel
theorem dX7_needs_23 : decode cX7_needs 23 = .ok (.bipush 50, 2) := by decide +kernel
theorem dX7_needs_25 : decode cX7_needs 25 = .ok (.iload_n 1, 1) := by decide +kernel
theorem dX7_needs_26 : decode cX7_needs 26 = .ok (.iadd, 1) := by decide +kernel
theorem dX7_needs_27 : decode cX7_needs 27 = .ok (.iaload, 1) := by decide +kernel
theorem dX7_needs_28 : decode cX7_needs 28 = .ok (.iadd, 1) := by decide +kernel
theorem dX7_needs_29 : decode cX7_needs 29 = .ok (.ireturn, 1) := by decide +kernel
theorem dX7_covers_0 : decode cX7_covers 0 = .ok (.aload_n 0, 1) := by decide +kernel
theorem dX7_covers_1 : decode cX7_covers 1 = .ok (.iload_n 1, 1) := by decide +kernel
theorem dX7_covers_2 : decode cX7_covers 2 = .ok (.invokevirtual 116, 3) := by decide +kernel
theorem dX7_covers_5 : decode cX7_covers 5 = .ok (.istore_n 2, 1) := by decide +kernel
theorem dX7_covers_6 : decode cX7_covers 6 = .ok (.aload_n 0, 1) := by decide +kernel
theorem dX7_covers_7 : decode cX7_covers 7 = .ok (.getfield 7, 3) := by decide +kernel
theorem dX7_covers_10 : decode cX7_covers 10 = .ok (.bipush 38, 2) := by decide +kernel
theorem dX7_covers_12 : decode cX7_covers 12 = .ok (.iload_n 1, 1) := by decide +kernel
theorem dX7_covers_13 : decode cX7_covers 13 = .ok (.iadd, 1) := by decide +kernel
theorem dX7_covers_14 : decode cX7_covers 14 = .ok (.iaload, 1) := by decide +kernel
theorem dX7_covers_15 : decode cX7_covers 15 = .ok (.istore_n 3, 1) := by decide +kernel
theorem dX7_covers_16 : decode cX7_covers 16 = .ok (.iload_n 3, 1) := by decide +kernel
theorem dX7_covers_17 : decode cX7_covers 17 = .ok (.iload_n 2, 1) := by decide +kernel
theorem dX7_covers_18 : decode cX7_covers 18 = .ok (.if_icmp .ge 7, 3) := by decide +kernel
theorem dX7_covers_21 : decode cX7_covers 21 = .ok (.iload_n 3, 1) := by decide +kernel
theorem dX7_covers_22 : decode cX7_covers 22 = .ok (.goto 4, 3) := by decide +kernel
theorem dX7_covers_25 : decode cX7_covers 25 = .ok (.iload_n 2, 1) := by decide +kernel
theorem dX7_covers_26 : decode cX7_covers 26 = .ok (.istore 4, 2) := by decide +kernel
theorem dX7_covers_28 : decode cX7_covers 28 = .ok (.aload_n 0, 1) := by decide +kernel
theorem dX7_covers_29 : decode cX7_covers 29 = .ok (.getfield 7, 3) := by decide +kernel
theorem dX7_covers_32 : decode cX7_covers 32 = .ok (.iconst 5, 1) := by decide +kernel
theorem dX7_covers_33 : decode cX7_covers 33 = .ok (.dup2, 1) := by decide +kernel
theorem dX7_covers_34 : decode cX7_covers 34 = .ok (.iaload, 1) := by decide +kernel
theorem dX7_covers_35 : decode cX7_covers 35 = .ok (.iload 4, 2) := by decide +kernel
theorem dX7_covers_37 : decode cX7_covers 37 = .ok (.iadd, 1) := by decide +kernel
theorem dX7_covers_38 : decode cX7_covers 38 = .ok (.iastore, 1) := by decide +kernel
theorem dX7_covers_39 : decode cX7_covers 39 = .ok (.iload_n 2, 1) := by decide +kernel
theorem dX7_covers_40 : decode cX7_covers 40 = .ok (.iload 4, 2) := by decide +kernel
theorem dX7_covers_42 : decode cX7_covers 42 = .ok (.isub, 1) := by decide +kernel
theorem dX7_covers_43 : decode cX7_covers 43 = .ok (.istore_n 2, 1) := by decide +kernel
theorem dX7_covers_44 : decode cX7_covers 44 = .ok (.aload_n 0, 1) := by decide +kernel
theorem dX7_covers_45 : decode cX7_covers 45 = .ok (.iload_n 1, 1) := by decide +kernel
theorem dX7_covers_46 : decode cX7_covers 46 = .ok (.invokevirtual 60, 3) := by decide +kernel
theorem dX7_covers_49 : decode cX7_covers 49 = .ok (.istore 5, 2) := by decide +kernel
theorem dX7_covers_51 : decode cX7_covers 51 = .ok (.iload 5, 2) := by decide +kernel
theorem dX7_covers_53 : decode cX7_covers 53 = .ok (.iload_n 2, 1) := by decide +kernel
theorem dX7_covers_54 : decode cX7_covers 54 = .ok (.if_icmp .ge 8, 3) := by decide +kernel
theorem dX7_covers_57 : decode cX7_covers 57 = .ok (.iload 5, 2) := by decide +kernel
theorem dX7_covers_59 : decode cX7_covers 59 = .ok (.goto 4, 3) := by decide +kernel
theorem dX7_covers_62 : decode cX7_covers 62 = .ok (.iload_n 2, 1) := by decide +kernel
theorem dX7_covers_63 : decode cX7_covers 63 = .ok (.istore 4, 2) := by decide +kernel
theorem dX7_covers_65 : decode cX7_covers 65 = .ok (.aload_n 0, 1) := by decide +kernel
theorem dX7_covers_66 : decode cX7_covers 66 = .ok (.iload_n 1, 1) := by decide +kernel
theorem dX7_covers_67 : decode cX7_covers 67 = .ok (.invokestatic 45, 3) := by decide +kernel
theorem dX7_covers_70 : decode cX7_covers 70 = .ok (.iconst (-1), 1) := by decide +kernel
theorem dX7_covers_71 : decode cX7_covers 71 = .ok (.iload 4, 2) := by decide +kernel
theorem dX7_covers_73 : decode cX7_covers 73 = .ok (.invokevirtual 56, 3) := by decide +kernel
theorem dX7_covers_76 : decode cX7_covers 76 = .ok (.aload_n 0, 1) := by decide +kernel
theorem dX7_covers_77 : decode cX7_covers 77 = .ok (.getfield 7, 3) := by decide +kernel
theorem dX7_covers_80 : decode cX7_covers 80 = .ok (.iconst 4, 1) := by decide +kernel
theorem dX7_covers_81 : decode cX7_covers 81 = .ok (.dup2, 1) := by decide +kernel
theorem dX7_covers_82 : decode cX7_covers 82 = .ok (.iaload, 1) := by decide +kernel
theorem dX7_covers_83 : decode cX7_covers 83 = .ok (.iload 4, 2) := by decide +kernel
theorem dX7_covers_85 : decode cX7_covers 85 = .ok (.iadd, 1) := by decide +kernel
theorem dX7_covers_86 : decode cX7_covers 86 = .ok (.iastore, 1) := by decide +kernel
theorem dX7_covers_87 : decode cX7_covers 87 = .ok (.iload_n 2, 1) := by decide +kernel
theorem dX7_covers_88 : decode cX7_covers 88 = .ok (.iload 4, 2) := by decide +kernel
theorem dX7_covers_90 : decode cX7_covers 90 = .ok (.isub, 1) := by decide +kernel
theorem dX7_covers_91 : decode cX7_covers 91 = .ok (.istore_n 2, 1) := by decide +kernel
theorem dX7_covers_92 : decode cX7_covers 92 = .ok (.aload_n 0, 1) := by decide +kernel
theorem dX7_covers_93 : decode cX7_covers 93 = .ok (.getfield 7, 3) := by decide +kernel
theorem dX7_covers_96 : decode cX7_covers 96 = .ok (.bipush 50, 2) := by decide +kernel
theorem dX7_covers_98 : decode cX7_covers 98 = .ok (.iload_n 1, 1) := by decide +kernel
theorem dX7_covers_99 : decode cX7_covers 99 = .ok (.iadd, 1) := by decide +kernel
theorem dX7_covers_100 : decode cX7_covers 100 = .ok (.iload_n 2, 1) := by decide +kernel
theorem dX7_covers_101 : decode cX7_covers 101 = .ok (.iastore, 1) := by decide +kernel
theorem dX7_covers_102 : decode cX7_covers 102 = .ok (.iload_n 2, 1) := by decide +kernel
theorem dX7_covers_103 : decode cX7_covers 103 = .ok (.i2l, 1) := by decide +kernel
theorem dX7_covers_104 : decode cX7_covers 104 = .ok (.aload_n 0, 1) := by decide +kernel
theorem dX7_covers_105 : decode cX7_covers 105 = .ok (.getfield 7, 3) := by decide +kernel
theorem dX7_covers_108 : decode cX7_covers 108 = .ok (.bipush 13, 2) := by decide +kernel
theorem dX7_covers_110 : decode cX7_covers 110 = .ok (.iaload, 1) := by decide +kernel
theorem dX7_covers_111 : decode cX7_covers 111 = .ok (.i2l, 1) := by decide +kernel
theorem dX7_covers_112 : decode cX7_covers 112 = .ok (.lmul, 1) := by decide +kernel
theorem dX7_covers_113 : decode cX7_covers 113 = .ok (.lstore 6, 2) := by decide +kernel
theorem dX7_covers_115 : decode cX7_covers 115 = .ok (.aload_n 0, 1) := by decide +kernel
theorem dX7_covers_116 : decode cX7_covers 116 = .ok (.getfield 7, 3) := by decide +kernel
theorem dX7_covers_119 : decode cX7_covers 119 = .ok (.bipush 20, 2) := by decide +kernel
theorem dX7_covers_121 : decode cX7_covers 121 = .ok (.iload_n 1, 1) := by decide +kernel
theorem dX7_covers_122 : decode cX7_covers 122 = .ok (.iadd, 1) := by decide +kernel
theorem dX7_covers_123 : decode cX7_covers 123 = .ok (.iaload, 1) := by decide +kernel
theorem dX7_covers_124 : decode cX7_covers 124 = .ok (.i2l, 1) := by decide +kernel
theorem dX7_covers_125 : decode cX7_covers 125 = .ok (.lload 6, 2) := by decide +kernel
theorem dX7_covers_127 : decode cX7_covers 127 = .ok (.lcmp, 1) := by decide +kernel
theorem dX7_covers_128 : decode cX7_covers 128 = .ok (.ifCond .ge 15, 3) := by decide +kernel
theorem dX7_covers_131 : decode cX7_covers 131 = .ok (.aload_n 0, 1) := by decide +kernel
theorem dX7_covers_132 : decode cX7_covers 132 = .ok (.getfield 7, 3) := by decide +kernel
theorem dX7_covers_135 : decode cX7_covers 135 = .ok (.bipush 20, 2) := by decide +kernel
theorem dX7_covers_137 : decode cX7_covers 137 = .ok (.iload_n 1, 1) := by decide +kernel
theorem dX7_covers_138 : decode cX7_covers 138 = .ok (.iadd, 1) := by decide +kernel
theorem dX7_covers_139 : decode cX7_covers 139 = .ok (.iaload, 1) := by decide +kernel
theorem dX7_covers_140 : decode cX7_covers 140 = .ok (.goto 6, 3) := by decide +kernel
theorem dX7_covers_143 : decode cX7_covers 143 = .ok (.lload 6, 2) := by decide +kernel
theorem dX7_covers_145 : decode cX7_covers 145 = .ok (.l2i, 1) := by decide +kernel
theorem dX7_covers_146 : decode cX7_covers 146 = .ok (.istore 8, 2) := by decide +kernel
theorem dX7_covers_148 : decode cX7_covers 148 = .ok (.aload_n 0, 1) := by decide +kernel
theorem dX7_covers_149 : decode cX7_covers 149 = .ok (.getfield 7, 3) := by decide +kernel
theorem dX7_covers_152 : decode cX7_covers 152 = .ok (.bipush 20, 2) := by decide +kernel
theorem dX7_covers_154 : decode cX7_covers 154 = .ok (.iload_n 1, 1) := by decide +kernel
theorem dX7_covers_155 : decode cX7_covers 155 = .ok (.iadd, 1) := by decide +kernel
theorem dX7_covers_156 : decode cX7_covers 156 = .ok (.dup2, 1) := by decide +kernel
theorem dX7_covers_157 : decode cX7_covers 157 = .ok (.iaload, 1) := by decide +kernel
theorem dX7_covers_158 : decode cX7_covers 158 = .ok (.iload 8, 2) := by decide +kernel
theorem dX7_covers_160 : decode cX7_covers 160 = .ok (.isub, 1) := by decide +kernel
theorem dX7_covers_161 : decode cX7_covers 161 = .ok (.iastore, 1) := by decide +kernel
theorem dX7_covers_162 : decode cX7_covers 162 = .ok (.aload_n 0, 1) := by decide +kernel
theorem dX7_covers_163 : decode cX7_covers 163 = .ok (.getfield 7, 3) := by decide +kernel
theorem dX7_covers_166 : decode cX7_covers 166 = .ok (.bipush 9, 2) := by decide +kernel
theorem dX7_covers_168 : decode cX7_covers 168 = .ok (.dup2, 1) := by decide +kernel
theorem dX7_covers_169 : decode cX7_covers 169 = .ok (.iaload, 1) := by decide +kernel
theorem dX7_covers_170 : decode cX7_covers 170 = .ok (.iload 8, 2) := by decide +kernel
theorem dX7_covers_172 : decode cX7_covers 172 = .ok (.iadd, 1) := by decide +kernel
theorem dX7_covers_173 : decode cX7_covers 173 = .ok (.iastore, 1) := by decide +kernel
theorem dX7_covers_174 : decode cX7_covers 174 = .ok (.aload_n 0, 1) := by decide +kernel
theorem dX7_covers_175 : decode cX7_covers 175 = .ok (.getfield 7, 3) := by decide +kernel
theorem dX7_covers_178 : decode cX7_covers 178 = .ok (.bipush 56, 2) := by decide +kernel
theorem dX7_covers_180 : decode cX7_covers 180 = .ok (.iload_n 1, 1) := by decide +kernel
theorem dX7_covers_181 : decode cX7_covers 181 = .ok (.iadd, 1) := by decide +kernel
theorem dX7_covers_182 : decode cX7_covers 182 = .ok (.dup2, 1) := by decide +kernel
theorem dX7_covers_183 : decode cX7_covers 183 = .ok (.iaload, 1) := by decide +kernel
theorem dX7_covers_184 : decode cX7_covers 184 = .ok (.iload_n 3, 1) := by decide +kernel
theorem dX7_covers_185 : decode cX7_covers 185 = .ok (.bipush 100, 2) := by decide +kernel
theorem dX7_covers_187 : decode cX7_covers 187 = .ok (.aload_n 0, 1) := by decide +kernel
theorem dX7_covers_188 : decode cX7_covers 188 = .ok (.getfield 7, 3) := by decide +kernel
theorem dX7_covers_191 : decode cX7_covers 191 = .ok (.bipush 15, 2) := by decide +kernel
theorem dX7_covers_193 : decode cX7_covers 193 = .ok (.iaload, 1) := by decide +kernel
theorem dX7_covers_194 : decode cX7_covers 194 = .ok (.iadd, 1) := by decide +kernel
theorem dX7_covers_195 : decode cX7_covers 195 = .ok (.imul, 1) := by decide +kernel
theorem dX7_covers_196 : decode cX7_covers 196 = .ok (.bipush 99, 2) := by decide +kernel
theorem dX7_covers_198 : decode cX7_covers 198 = .ok (.iadd, 1) := by decide +kernel
theorem dX7_covers_199 : decode cX7_covers 199 = .ok (.bipush 100, 2) := by decide +kernel
theorem dX7_covers_201 : decode cX7_covers 201 = .ok (.idiv, 1) := by decide +kernel
theorem dX7_covers_202 : decode cX7_covers 202 = .ok (.iadd, 1) := by decide +kernel
theorem dX7_covers_203 : decode cX7_covers 203 = .ok (.iastore, 1) := by decide +kernel
theorem dX7_covers_204 : decode cX7_covers 204 = .ok (.aload_n 0, 1) := by decide +kernel
theorem dX7_covers_205 : decode cX7_covers 205 = .ok (.getfield 7, 3) := by decide +kernel
theorem dX7_covers_208 : decode cX7_covers 208 = .ok (.bipush 26, 2) := by decide +kernel
theorem dX7_covers_210 : decode cX7_covers 210 = .ok (.iload_n 1, 1) := by decide +kernel
theorem dX7_covers_211 : decode cX7_covers 211 = .ok (.iadd, 1) := by decide +kernel
theorem dX7_covers_212 : decode cX7_covers 212 = .ok (.iconst 0, 1) := by decide +kernel
theorem dX7_covers_213 : decode cX7_covers 213 = .ok (.iastore, 1) := by decide +kernel
theorem dX7_covers_214 : decode cX7_covers 214 = .ok (.aload_n 0, 1) := by decide +kernel
theorem dX7_covers_215 : decode cX7_covers 215 = .ok (.getfield 7, 3) := by decide +kernel
theorem dX7_covers_218 : decode cX7_covers 218 = .ok (.bipush 32, 2) := by decide +kernel
theorem dX7_covers_220 : decode cX7_covers 220 = .ok (.iload_n 1, 1) := by decide +kernel
theorem dX7_covers_221 : decode cX7_covers 221 = .ok (.iadd, 1) := by decide +kernel
theorem dX7_covers_222 : decode cX7_covers 222 = .ok (.iconst 0, 1) := by decide +kernel
theorem dX7_covers_223 : decode cX7_covers 223 = .ok (.iastore, 1) := by decide +kernel
theorem dX7_covers_224 : decode cX7_covers 224 = .ok (.aload_n 0, 1) := by decide +kernel
theorem dX7_covers_225 : decode cX7_covers 225 = .ok (.getfield 7, 3) := by decide +kernel
theorem dX7_covers_228 : decode cX7_covers 228 = .ok (.bipush 38, 2) := by decide +kernel
theorem dX7_covers_230 : decode cX7_covers 230 = .ok (.iload_n 1, 1) := by decide +kernel
theorem dX7_covers_231 : decode cX7_covers 231 = .ok (.iadd, 1) := by decide +kernel
theorem dX7_covers_232 : decode cX7_covers 232 = .ok (.iconst 0, 1) := by decide +kernel
theorem dX7_covers_233 : decode cX7_covers 233 = .ok (.iastore, 1) := by decide +kernel
theorem dX7_covers_234 : decode cX7_covers 234 = .ok (.aload_n 0, 1) := by decide +kernel
theorem dX7_covers_235 : decode cX7_covers 235 = .ok (.getfield 7, 3) := by decide +kernel
theorem dX7_covers_238 : decode cX7_covers 238 = .ok (.bipush 44, 2) := by decide +kernel
theorem dX7_covers_240 : decode cX7_covers 240 = .ok (.iload_n 1, 1) := by decide +kernel
theorem dX7_covers_241 : decode cX7_covers 241 = .ok (.iadd, 1) := by decide +kernel
theorem dX7_covers_242 : decode cX7_covers 242 = .ok (.iconst 0, 1) := by decide +kernel
theorem dX7_covers_243 : decode cX7_covers 243 = .ok (.iastore, 1) := by decide +kernel
theorem dX7_covers_244 : decode cX7_covers 244 = .ok (.iload_n 2, 1) := by decide +kernel
theorem dX7_covers_245 : decode cX7_covers 245 = .ok (.ireturn, 1) := by decide +kernel
theorem dX7_endYear_0 : decode cX7_endYear 0 = .ok (.aload_n 0, 1) := by decide +kernel
theorem dX7_endYear_1 : decode cX7_endYear 1 = .ok (.getfield 7, 3) := by decide +kernel
theorem dX7_endYear_4 : decode cX7_endYear 4 = .ok (.iconst 0, 1) := by decide +kernel
theorem dX7_endYear_5 : decode cX7_endYear 5 = .ok (.iaload, 1) := by decide +kernel
theorem dX7_endYear_6 : decode cX7_endYear 6 = .ok (.sipush 999, 3) := by decide +kernel
theorem dX7_endYear_9 : decode cX7_endYear 9 = .ok (.if_icmp .ne 6, 3) := by decide +kernel
theorem dX7_endYear_12 : decode cX7_endYear 12 = .ok (.bipush (-3), 2) := by decide +kernel
theorem dX7_endYear_14 : decode cX7_endYear 14 = .ok (.ireturn, 1) := by decide +kernel
theorem dX7_endYear_15 : decode cX7_endYear 15 = .ok (.aload_n 0, 1) := by decide +kernel
theorem dX7_endYear_16 : decode cX7_endYear 16 = .ok (.invokevirtual 42, 3) := by decide +kernel
theorem dX7_endYear_19 : decode cX7_endYear 19 = .ok (.iconst 0, 1) := by decide +kernel
theorem dX7_endYear_20 : decode cX7_endYear 20 = .ok (.istore_n 1, 1) := by decide +kernel
theorem dX7_endYear_21 : decode cX7_endYear 21 = .ok (.iconst 0, 1) := by decide +kernel
theorem dX7_endYear_22 : decode cX7_endYear 22 = .ok (.istore_n 2, 1) := by decide +kernel
theorem dX7_endYear_23 : decode cX7_endYear 23 = .ok (.iload_n 2, 1) := by decide +kernel
theorem dX7_endYear_24 : decode cX7_endYear 24 = .ok (.bipush 6, 2) := by decide +kernel
theorem dX7_endYear_26 : decode cX7_endYear 26 = .ok (.if_icmp .ge 17, 3) := by decide +kernel
theorem dX7_endYear_29 : decode cX7_endYear 29 = .ok (.iload_n 1, 1) := by decide +kernel
theorem dX7_endYear_30 : decode cX7_endYear 30 = .ok (.aload_n 0, 1) := by decide +kernel
theorem dX7_endYear_31 : decode cX7_endYear 31 = .ok (.iload_n 2, 1) := by decide +kernel
theorem dX7_endYear_32 : decode cX7_endYear 32 = .ok (.invokevirtual 119, 3) := by decide +kernel
theorem dX7_endYear_35 : decode cX7_endYear 35 = .ok (.iadd, 1) := by decide +kernel
theorem dX7_endYear_36 : decode cX7_endYear 36 = .ok (.istore_n 1, 1) := by decide +kernel
theorem dX7_endYear_37 : decode cX7_endYear 37 = .ok (.iinc 2 1, 3) := by decide +kernel
theorem dX7_endYear_40 : decode cX7_endYear 40 = .ok (.goto (-17), 3) := by decide +kernel
theorem dX7_endYear_43 : decode cX7_endYear 43 = .ok (.aload_n 0, 1) := by decide +kernel
theorem dX7_endYear_44 : decode cX7_endYear 44 = .ok (.getfield 7, 3) := by decide +kernel
theorem dX7_endYear_47 : decode cX7_endYear 47 = .ok (.iconst 0, 1) := by decide +kernel
theorem dX7_endYear_48 : decode cX7_endYear 48 = .ok (.dup2, 1) := by decide +kernel
theorem dX7_endYear_49 : decode cX7_endYear 49 = .ok (.iaload, 1) := by decide +kernel
theorem dX7_endYear_50 : decode cX7_endYear 50 = .ok (.iconst 1, 1) := by decide +kernel
theorem dX7_endYear_51 : decode cX7_endYear 51 = .ok (.iadd, 1) := by decide +kernel
theorem dX7_endYear_52 : decode cX7_endYear 52 = .ok (.iastore, 1) := by decide +kernel
theorem dX7_endYear_53 : decode cX7_endYear 53 = .ok (.iload_n 1, 1) := by decide +kernel
theorem dX7_endYear_54 : decode cX7_endYear 54 = .ok (.ireturn, 1) := by decide +kernel
theorem dX7_type_0 : decode cX7_type 0 = .ok (.aload_n 0, 1) := by decide +kernel
theorem dX7_type_1 : decode cX7_type 1 = .ok (.getfield 87, 3) := by decide +kernel
theorem dX7_type_4 : decode cX7_type 4 = .ok (.bipush 60, 2) := by decide +kernel
theorem dX7_type_6 : decode cX7_type 6 = .ok (.if_icmp .ne 6, 3) := by decide +kernel
theorem dX7_type_9 : decode cX7_type 9 = .ok (.bipush (-3), 2) := by decide +kernel
theorem dX7_type_11 : decode cX7_type 11 = .ok (.ireturn, 1) := by decide +kernel
theorem dX7_type_12 : decode cX7_type 12 = .ok (.aload_n 0, 1) := by decide +kernel
theorem dX7_type_13 : decode cX7_type 13 = .ok (.getfield 23, 3) := by decide +kernel
theorem dX7_type_16 : decode cX7_type 16 = .ok (.aload_n 0, 1) := by decide +kernel
theorem dX7_type_17 : decode cX7_type 17 = .ok (.getfield 87, 3) := by decide +kernel
theorem dX7_type_20 : decode cX7_type 20 = .ok (.iload_n 1, 1) := by decide +kernel
theorem dX7_type_21 : decode cX7_type 21 = .ok (.iastore, 1) := by decide +kernel
theorem dX7_type_22 : decode cX7_type 22 = .ok (.aload_n 0, 1) := by decide +kernel
theorem dX7_type_23 : decode cX7_type 23 = .ok (.dup, 1) := by decide +kernel
theorem dX7_type_24 : decode cX7_type 24 = .ok (.getfield 87, 3) := by decide +kernel
theorem dX7_type_27 : decode cX7_type 27 = .ok (.iconst 1, 1) := by decide +kernel
theorem dX7_type_28 : decode cX7_type 28 = .ok (.iadd, 1) := by decide +kernel
theorem dX7_type_29 : decode cX7_type 29 = .ok (.putfield 87, 3) := by decide +kernel
theorem dX7_type_32 : decode cX7_type 32 = .ok (.aload_n 0, 1) := by decide +kernel
theorem dX7_type_33 : decode cX7_type 33 = .ok (.getfield 87, 3) := by decide +kernel
theorem dX7_type_36 : decode cX7_type 36 = .ok (.ireturn, 1) := by decide +kernel
theorem dX7_clearText_0 : decode cX7_clearText 0 = .ok (.aload_n 0, 1) := by decide +kernel
theorem dX7_clearText_1 : decode cX7_clearText 1 = .ok (.getfield 87, 3) := by decide +kernel
theorem dX7_clearText_4 : decode cX7_clearText 4 = .ok (.istore_n 1, 1) := by decide +kernel
theorem dX7_clearText_5 : decode cX7_clearText 5 = .ok (.aload_n 0, 1) := by decide +kernel
theorem dX7_clearText_6 : decode cX7_clearText 6 = .ok (.iconst 0, 1) := by decide +kernel
theorem dX7_clearText_7 : decode cX7_clearText 7 = .ok (.putfield 87, 3) := by decide +kernel
theorem dX7_clearText_10 : decode cX7_clearText 10 = .ok (.iload_n 1, 1) := by decide +kernel
theorem dX7_clearText_11 : decode cX7_clearText 11 = .ok (.ireturn, 1) := by decide +kernel
theorem dX7_undo_0 : decode cX7_undo 0 = .ok (.aload_n 0, 1) := by decide +kernel
theorem dX7_undo_1 : decode cX7_undo 1 = .ok (.getfield 33, 3) := by decide +kernel
theorem dX7_undo_4 : decode cX7_undo 4 = .ok (.ifCond .ne 6, 3) := by decide +kernel
theorem dX7_undo_7 : decode cX7_undo 7 = .ok (.bipush (-5), 2) := by decide +kernel
theorem dX7_undo_9 : decode cX7_undo 9 = .ok (.ireturn, 1) := by decide +kernel
theorem dX7_undo_10 : decode cX7_undo 10 = .ok (.aload_n 0, 1) := by decide +kernel
theorem dX7_undo_11 : decode cX7_undo 11 = .ok (.dup, 1) := by decide +kernel
theorem dX7_undo_12 : decode cX7_undo 12 = .ok (.getfield 33, 3) := by decide +kernel
theorem dX7_undo_15 : decode cX7_undo 15 = .ok (.iconst 1, 1) := by decide +kernel
theorem dX7_undo_16 : decode cX7_undo 16 = .ok (.isub, 1) := by decide +kernel
theorem dX7_undo_17 : decode cX7_undo 17 = .ok (.putfield 33, 3) := by decide +kernel
theorem dX7_undo_20 : decode cX7_undo 20 = .ok (.iconst 0, 1) := by decide +kernel
theorem dX7_undo_21 : decode cX7_undo 21 = .ok (.istore_n 1, 1) := by decide +kernel
theorem dX7_undo_22 : decode cX7_undo 22 = .ok (.iload_n 1, 1) := by decide +kernel
theorem dX7_undo_23 : decode cX7_undo 23 = .ok (.sipush 23144, 3) := by decide +kernel
theorem dX7_undo_26 : decode cX7_undo 26 = .ok (.if_icmp .ge 30, 3) := by decide +kernel
theorem dX7_undo_29 : decode cX7_undo 29 = .ok (.aload_n 0, 1) := by decide +kernel
theorem dX7_undo_30 : decode cX7_undo 30 = .ok (.getfield 7, 3) := by decide +kernel
theorem dX7_undo_33 : decode cX7_undo 33 = .ok (.iload_n 1, 1) := by decide +kernel
theorem dX7_undo_34 : decode cX7_undo 34 = .ok (.aload_n 0, 1) := by decide +kernel
theorem dX7_undo_35 : decode cX7_undo 35 = .ok (.getfield 20, 3) := by decide +kernel
theorem dX7_undo_38 : decode cX7_undo 38 = .ok (.sipush 23144, 3) := by decide +kernel
theorem dX7_undo_41 : decode cX7_undo 41 = .ok (.aload_n 0, 1) := by decide +kernel
theorem dX7_undo_42 : decode cX7_undo 42 = .ok (.getfield 33, 3) := by decide +kernel
theorem dX7_undo_45 : decode cX7_undo 45 = .ok (.imul, 1) := by decide +kernel
theorem dX7_undo_46 : decode cX7_undo 46 = .ok (.iload_n 1, 1) := by decide +kernel
theorem dX7_undo_47 : decode cX7_undo 47 = .ok (.iadd, 1) := by decide +kernel
theorem dX7_undo_48 : decode cX7_undo 48 = .ok (.iaload, 1) := by decide +kernel
theorem dX7_undo_49 : decode cX7_undo 49 = .ok (.iastore, 1) := by decide +kernel
theorem dX7_undo_50 : decode cX7_undo 50 = .ok (.iinc 1 1, 3) := by decide +kernel
theorem dX7_undo_53 : decode cX7_undo 53 = .ok (.goto (-31), 3) := by decide +kernel
theorem dX7_undo_56 : decode cX7_undo 56 = .ok (.aload_n 0, 1) := by decide +kernel
theorem dX7_undo_57 : decode cX7_undo 57 = .ok (.getfield 33, 3) := by decide +kernel
theorem dX7_undo_60 : decode cX7_undo 60 = .ok (.ireturn, 1) := by decide +kernel
theorem dX7_keep_0 : decode cX7_keep 0 = .ok (.iconst 0, 1) := by decide +kernel
theorem dX7_keep_1 : decode cX7_keep 1 = .ok (.istore_n 1, 1) := by decide +kernel
theorem dX7_keep_2 : decode cX7_keep 2 = .ok (.iload_n 1, 1) := by decide +kernel
theorem dX7_keep_3 : decode cX7_keep 3 = .ok (.sipush 23144, 3) := by decide +kernel
theorem dX7_keep_6 : decode cX7_keep 6 = .ok (.if_icmp .ge 21, 3) := by decide +kernel
theorem dX7_keep_9 : decode cX7_keep 9 = .ok (.aload_n 0, 1) := by decide +kernel
theorem dX7_keep_10 : decode cX7_keep 10 = .ok (.getfield 13, 3) := by decide +kernel
theorem dX7_keep_13 : decode cX7_keep 13 = .ok (.iload_n 1, 1) := by decide +kernel
theorem dX7_keep_14 : decode cX7_keep 14 = .ok (.aload_n 0, 1) := by decide +kernel
theorem dX7_keep_15 : decode cX7_keep 15 = .ok (.getfield 7, 3) := by decide +kernel
theorem dX7_keep_18 : decode cX7_keep 18 = .ok (.iload_n 1, 1) := by decide +kernel
theorem dX7_keep_19 : decode cX7_keep 19 = .ok (.iaload, 1) := by decide +kernel
theorem dX7_keep_20 : decode cX7_keep 20 = .ok (.iastore, 1) := by decide +kernel
theorem dX7_keep_21 : decode cX7_keep 21 = .ok (.iinc 1 1, 3) := by decide +kernel
theorem dX7_keep_24 : decode cX7_keep 24 = .ok (.goto (-22), 3) := by decide +kernel
theorem dX7_keep_27 : decode cX7_keep 27 = .ok (.aload_n 0, 1) := by decide +kernel
theorem dX7_keep_28 : decode cX7_keep 28 = .ok (.iconst 1, 1) := by decide +kernel
theorem dX7_keep_29 : decode cX7_keep 29 = .ok (.putfield 122, 3) := by decide +kernel
theorem dX7_keep_32 : decode cX7_keep 32 = .ok (.aload_n 0, 1) := by decide +kernel
theorem dX7_keep_33 : decode cX7_keep 33 = .ok (.getfield 7, 3) := by decide +kernel
theorem dX7_keep_36 : decode cX7_keep 36 = .ok (.iconst 0, 1) := by decide +kernel
theorem dX7_keep_37 : decode cX7_keep 37 = .ok (.iaload, 1) := by decide +kernel
theorem dX7_keep_38 : decode cX7_keep 38 = .ok (.ireturn, 1) := by decide +kernel
theorem dX7_restore_0 : decode cX7_restore 0 = .ok (.aload_n 0, 1) := by decide +kernel
theorem dX7_restore_1 : decode cX7_restore 1 = .ok (.getfield 122, 3) := by decide +kernel
theorem dX7_restore_4 : decode cX7_restore 4 = .ok (.ifCond .ne 6, 3) := by decide +kernel
theorem dX7_restore_7 : decode cX7_restore 7 = .ok (.bipush (-5), 2) := by decide +kernel
theorem dX7_restore_9 : decode cX7_restore 9 = .ok (.ireturn, 1) := by decide +kernel
theorem dX7_restore_10 : decode cX7_restore 10 = .ok (.aload_n 0, 1) := by decide +kernel
theorem dX7_restore_11 : decode cX7_restore 11 = .ok (.invokevirtual 42, 3) := by decide +kernel
theorem dX7_restore_14 : decode cX7_restore 14 = .ok (.iconst 0, 1) := by decide +kernel
theorem dX7_restore_15 : decode cX7_restore 15 = .ok (.istore_n 1, 1) := by decide +kernel
theorem dX7_restore_16 : decode cX7_restore 16 = .ok (.iload_n 1, 1) := by decide +kernel
theorem dX7_restore_17 : decode cX7_restore 17 = .ok (.sipush 23144, 3) := by decide +kernel
theorem dX7_restore_20 : decode cX7_restore 20 = .ok (.if_icmp .ge 21, 3) := by decide +kernel
theorem dX7_restore_23 : decode cX7_restore 23 = .ok (.aload_n 0, 1) := by decide +kernel
theorem dX7_restore_24 : decode cX7_restore 24 = .ok (.getfield 7, 3) := by decide +kernel
theorem dX7_restore_27 : decode cX7_restore 27 = .ok (.iload_n 1, 1) := by decide +kernel
theorem dX7_restore_28 : decode cX7_restore 28 = .ok (.aload_n 0, 1) := by decide +kernel
theorem dX7_restore_29 : decode cX7_restore 29 = .ok (.getfield 13, 3) := by decide +kernel
theorem dX7_restore_32 : decode cX7_restore 32 = .ok (.iload_n 1, 1) := by decide +kernel
theorem dX7_restore_33 : decode cX7_restore 33 = .ok (.iaload, 1) := by decide +kernel
theorem dX7_restore_34 : decode cX7_restore 34 = .ok (.iastore, 1) := by decide +kernel
theorem dX7_restore_35 : decode cX7_restore 35 = .ok (.iinc 1 1, 3) := by decide +kernel
theorem dX7_restore_38 : decode cX7_restore 38 = .ok (.goto (-22), 3) := by decide +kernel
theorem dX7_restore_41 : decode cX7_restore 41 = .ok (.aload_n 0, 1) := by decide +kernel
theorem dX7_restore_42 : decode cX7_restore 42 = .ok (.getfield 7, 3) := by decide +kernel
theorem dX7_restore_45 : decode cX7_restore 45 = .ok (.iconst 0, 1) := by decide +kernel
theorem dX7_restore_46 : decode cX7_restore 46 = .ok (.iaload, 1) := by decide +kernel
theorem dX7_restore_47 : decode cX7_restore 47 = .ok (.ireturn, 1) := by decide +kernel
theorem dX7_oldest_0 : decode cX7_oldest 0 = .ok (.iconst 0, 1) := by decide +kernel
theorem dX7_oldest_1 : decode cX7_oldest 1 = .ok (.istore_n 2, 1) := by decide +kernel
theorem dX7_oldest_2 : decode cX7_oldest 2 = .ok (.iload_n 2, 1) := by decide +kernel
theorem dX7_oldest_3 : decode cX7_oldest 3 = .ok (.aload_n 0, 1) := by decide +kernel

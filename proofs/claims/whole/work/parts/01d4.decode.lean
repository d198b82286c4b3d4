theorem dX7_oldest_4 : decode cX7_oldest 4 = .ok (.getfield 7, 3) := by decide +kernel
theorem dX7_oldest_7 : decode cX7_oldest 7 = .ok (.iconst 0, 1) := by decide +kernel
theorem dX7_oldest_8 : decode cX7_oldest 8 = .ok (.iaload, 1) := by decide +kernel
theorem dX7_oldest_9 : decode cX7_oldest 9 = .ok (.if_icmp .gt 25, 3) := by decide +kernel
theorem dX7_oldest_12 : decode cX7_oldest 12 = .ok (.aload_n 0, 1) := by decide +kernel
theorem dX7_oldest_13 : decode cX7_oldest 13 = .ok (.getfield 7, 3) := by decide +kernel
theorem dX7_oldest_16 : decode cX7_oldest 16 = .ok (.iload_n 1, 1) := by decide +kernel
theorem dX7_oldest_17 : decode cX7_oldest 17 = .ok (.invokestatic 45, 3) := by decide +kernel
theorem dX7_oldest_20 : decode cX7_oldest 20 = .ok (.iload_n 2, 1) := by decide +kernel
theorem dX7_oldest_21 : decode cX7_oldest 21 = .ok (.iadd, 1) := by decide +kernel
theorem dX7_oldest_22 : decode cX7_oldest 22 = .ok (.iaload, 1) := by decide +kernel
theorem dX7_oldest_23 : decode cX7_oldest 23 = .ok (.ifCond .le 5, 3) := by decide +kernel
theorem dX7_oldest_26 : decode cX7_oldest 26 = .ok (.iload_n 2, 1) := by decide +kernel
theorem dX7_oldest_27 : decode cX7_oldest 27 = .ok (.ireturn, 1) := by decide +kernel
theorem dX7_oldest_28 : decode cX7_oldest 28 = .ok (.iinc 2 1, 3) := by decide +kernel
theorem dX7_oldest_31 : decode cX7_oldest 31 = .ok (.goto (-29), 3) := by decide +kernel
theorem dX7_oldest_34 : decode cX7_oldest 34 = .ok (.bipush (-5), 2) := by decide +kernel
theorem dX7_oldest_36 : decode cX7_oldest 36 = .ok (.ireturn, 1) := by decide +kernel
theorem dX7_held_0 : decode cX7_held 0 = .ok (.iconst 0, 1) := by decide +kernel
theorem dX7_held_1 : decode cX7_held 1 = .ok (.istore_n 3, 1) := by decide +kernel
theorem dX7_held_2 : decode cX7_held 2 = .ok (.iconst 0, 1) := by decide +kernel
theorem dX7_held_3 : decode cX7_held 3 = .ok (.istore 4, 2) := by decide +kernel
theorem dX7_held_5 : decode cX7_held 5 = .ok (.iload 4, 2) := by decide +kernel
theorem dX7_held_7 : decode cX7_held 7 = .ok (.aload_n 0, 1) := by decide +kernel
theorem dX7_held_8 : decode cX7_held 8 = .ok (.getfield 7, 3) := by decide +kernel
theorem dX7_held_11 : decode cX7_held 11 = .ok (.bipush 11, 2) := by decide +kernel
theorem dX7_held_13 : decode cX7_held 13 = .ok (.iaload, 1) := by decide +kernel
theorem dX7_held_14 : decode cX7_held 14 = .ok (.if_icmp .ge 84, 3) := by decide +kernel
theorem dX7_held_17 : decode cX7_held 17 = .ok (.aload_n 0, 1) := by decide +kernel
theorem dX7_held_18 : decode cX7_held 18 = .ok (.getfield 7, 3) := by decide +kernel
theorem dX7_held_21 : decode cX7_held 21 = .ok (.bipush 96, 2) := by decide +kernel
theorem dX7_held_23 : decode cX7_held 23 = .ok (.iload 4, 2) := by decide +kernel
theorem dX7_held_25 : decode cX7_held 25 = .ok (.iadd, 1) := by decide +kernel
theorem dX7_held_26 : decode cX7_held 26 = .ok (.iaload, 1) := by decide +kernel
theorem dX7_held_27 : decode cX7_held 27 = .ok (.iload_n 2, 1) := by decide +kernel
theorem dX7_held_28 : decode cX7_held 28 = .ok (.if_icmp .ne 64, 3) := by decide +kernel
theorem dX7_held_31 : decode cX7_held 31 = .ok (.iload_n 1, 1) := by decide +kernel
theorem dX7_held_32 : decode cX7_held 32 = .ok (.ifCond .lt 17, 3) := by decide +kernel
theorem dX7_held_35 : decode cX7_held 35 = .ok (.aload_n 0, 1) := by decide +kernel
theorem dX7_held_36 : decode cX7_held 36 = .ok (.getfield 7, 3) := by decide +kernel
theorem dX7_held_39 : decode cX7_held 39 = .ok (.bipush 80, 2) := by decide +kernel
theorem dX7_held_41 : decode cX7_held 41 = .ok (.iload 4, 2) := by decide +kernel
theorem dX7_held_43 : decode cX7_held 43 = .ok (.iadd, 1) := by decide +kernel
theorem dX7_held_44 : decode cX7_held 44 = .ok (.iaload, 1) := by decide +kernel
theorem dX7_held_45 : decode cX7_held 45 = .ok (.iload_n 1, 1) := by decide +kernel
theorem dX7_held_46 : decode cX7_held 46 = .ok (.if_icmp .ne 46, 3) := by decide +kernel
theorem dX7_held_49 : decode cX7_held 49 = .ok (.iload_n 3, 1) := by decide +kernel
theorem dX7_held_50 : decode cX7_held 50 = .ok (.iload_n 2, 1) := by decide +kernel
theorem dX7_held_51 : decode cX7_held 51 = .ok (.iconst 1, 1) := by decide +kernel
theorem dX7_held_52 : decode cX7_held 52 = .ok (.if_icmp .ne 28, 3) := by decide +kernel
theorem dX7_held_55 : decode cX7_held 55 = .ok (.aload_n 0, 1) := by decide +kernel
theorem dX7_held_56 : decode cX7_held 56 = .ok (.getfield 7, 3) := by decide +kernel
theorem dX7_held_59 : decode cX7_held 59 = .ok (.bipush 112, 2) := by decide +kernel
theorem dX7_held_61 : decode cX7_held 61 = .ok (.iload 4, 2) := by decide +kernel
theorem dX7_held_63 : decode cX7_held 63 = .ok (.iadd, 1) := by decide +kernel
theorem dX7_held_64 : decode cX7_held 64 = .ok (.iaload, 1) := by decide +kernel
theorem dX7_held_65 : decode cX7_held 65 = .ok (.aload_n 0, 1) := by decide +kernel
theorem dX7_held_66 : decode cX7_held 66 = .ok (.getfield 7, 3) := by decide +kernel
theorem dX7_held_69 : decode cX7_held 69 = .ok (.sipush 128, 3) := by decide +kernel
theorem dX7_held_72 : decode cX7_held 72 = .ok (.iload 4, 2) := by decide +kernel
theorem dX7_held_74 : decode cX7_held 74 = .ok (.iadd, 1) := by decide +kernel
theorem dX7_held_75 : decode cX7_held 75 = .ok (.iaload, 1) := by decide +kernel
theorem dX7_held_76 : decode cX7_held 76 = .ok (.imul, 1) := by decide +kernel
theorem dX7_held_77 : decode cX7_held 77 = .ok (.goto 13, 3) := by decide +kernel
theorem dX7_held_80 : decode cX7_held 80 = .ok (.aload_n 0, 1) := by decide +kernel
theorem dX7_held_81 : decode cX7_held 81 = .ok (.getfield 7, 3) := by decide +kernel
theorem dX7_held_84 : decode cX7_held 84 = .ok (.bipush 112, 2) := by decide +kernel
theorem dX7_held_86 : decode cX7_held 86 = .ok (.iload 4, 2) := by decide +kernel
theorem dX7_held_88 : decode cX7_held 88 = .ok (.iadd, 1) := by decide +kernel
theorem dX7_held_89 : decode cX7_held 89 = .ok (.iaload, 1) := by decide +kernel
theorem dX7_held_90 : decode cX7_held 90 = .ok (.iadd, 1) := by decide +kernel
theorem dX7_held_91 : decode cX7_held 91 = .ok (.istore_n 3, 1) := by decide +kernel
theorem dX7_held_92 : decode cX7_held 92 = .ok (.iinc 4 1, 3) := by decide +kernel
theorem dX7_held_95 : decode cX7_held 95 = .ok (.goto (-90), 3) := by decide +kernel
theorem dX7_held_98 : decode cX7_held 98 = .ok (.iload_n 3, 1) := by decide +kernel
theorem dX7_held_99 : decode cX7_held 99 = .ok (.ireturn, 1) := by decide +kernel
theorem dX7_kiln_0 : decode cX7_kiln 0 = .ok (.iload_n 1, 1) := by decide +kernel
theorem dX7_kiln_1 : decode cX7_kiln 1 = .ok (.invokestatic 38, 3) := by decide +kernel
theorem dX7_kiln_4 : decode cX7_kiln 4 = .ok (.ifCond .ne 5, 3) := by decide +kernel
theorem dX7_kiln_7 : decode cX7_kiln 7 = .ok (.iconst (-1), 1) := by decide +kernel
theorem dX7_kiln_8 : decode cX7_kiln 8 = .ok (.ireturn, 1) := by decide +kernel
theorem dX7_kiln_9 : decode cX7_kiln 9 = .ok (.iload_n 2, 1) := by decide +kernel
theorem dX7_kiln_10 : decode cX7_kiln 10 = .ok (.iconst 0, 1) := by decide +kernel
theorem dX7_kiln_11 : decode cX7_kiln 11 = .ok (.bipush 11, 2) := by decide +kernel
theorem dX7_kiln_13 : decode cX7_kiln 13 = .ok (.invokestatic 29, 3) := by decide +kernel
theorem dX7_kiln_16 : decode cX7_kiln 16 = .ok (.ifCond .ne 6, 3) := by decide +kernel
theorem dX7_kiln_19 : decode cX7_kiln 19 = .ok (.bipush (-2), 2) := by decide +kernel
theorem dX7_kiln_21 : decode cX7_kiln 21 = .ok (.ireturn, 1) := by decide +kernel
theorem dX7_kiln_22 : decode cX7_kiln 22 = .ok (.iload_n 2, 1) := by decide +kernel
theorem dX7_kiln_23 : decode cX7_kiln 23 = .ok (.iconst 1, 1) := by decide +kernel
theorem dX7_kiln_24 : decode cX7_kiln 24 = .ok (.if_icmp .ne 9, 3) := by decide +kernel
theorem dX7_kiln_27 : decode cX7_kiln 27 = .ok (.aload_n 0, 1) := by decide +kernel
theorem dX7_kiln_28 : decode cX7_kiln 28 = .ok (.iload_n 1, 1) := by decide +kernel
theorem dX7_kiln_29 : decode cX7_kiln 29 = .ok (.invokevirtual 60, 3) := by decide +kernel
theorem dX7_kiln_32 : decode cX7_kiln 32 = .ok (.ireturn, 1) := by decide +kernel
theorem dX7_kiln_33 : decode cX7_kiln 33 = .ok (.iload_n 2, 1) := by decide +kernel
theorem dX7_kiln_34 : decode cX7_kiln 34 = .ok (.bipush 8, 2) := by decide +kernel
theorem dX7_kiln_36 : decode cX7_kiln 36 = .ok (.if_icmp .ge 75, 3) := by decide +kernel
theorem dX7_kiln_39 : decode cX7_kiln 39 = .ok (.iload_n 2, 1) := by decide +kernel
theorem dX7_kiln_40 : decode cX7_kiln 40 = .ok (.ifCond .ne 8, 3) := by decide +kernel
theorem dX7_kiln_43 : decode cX7_kiln 43 = .ok (.bipush 20, 2) := by decide +kernel
theorem dX7_kiln_45 : decode cX7_kiln 45 = .ok (.goto 56, 3) := by decide +kernel
theorem dX7_kiln_48 : decode cX7_kiln 48 = .ok (.iload_n 2, 1) := by decide +kernel
theorem dX7_kiln_49 : decode cX7_kiln 49 = .ok (.iconst 2, 1) := by decide +kernel
theorem dX7_kiln_50 : decode cX7_kiln 50 = .ok (.if_icmp .ne 8, 3) := by decide +kernel
theorem dX7_kiln_53 : decode cX7_kiln 53 = .ok (.bipush 26, 2) := by decide +kernel
theorem dX7_kiln_55 : decode cX7_kiln 55 = .ok (.goto 46, 3) := by decide +kernel
theorem dX7_kiln_58 : decode cX7_kiln 58 = .ok (.iload_n 2, 1) := by decide +kernel
theorem dX7_kiln_59 : decode cX7_kiln 59 = .ok (.iconst 3, 1) := by decide +kernel
theorem dX7_kiln_60 : decode cX7_kiln 60 = .ok (.if_icmp .ne 8, 3) := by decide +kernel
theorem dX7_kiln_63 : decode cX7_kiln 63 = .ok (.bipush 32, 2) := by decide +kernel
theorem dX7_kiln_65 : decode cX7_kiln 65 = .ok (.goto 36, 3) := by decide +kernel
theorem dX7_kiln_68 : decode cX7_kiln 68 = .ok (.iload_n 2, 1) := by decide +kernel
theorem dX7_kiln_69 : decode cX7_kiln 69 = .ok (.iconst 4, 1) := by decide +kernel
theorem dX7_kiln_70 : decode cX7_kiln 70 = .ok (.if_icmp .ne 8, 3) := by decide +kernel
theorem dX7_kiln_73 : decode cX7_kiln 73 = .ok (.bipush 38, 2) := by decide +kernel
theorem dX7_kiln_75 : decode cX7_kiln 75 = .ok (.goto 26, 3) := by decide +kernel
theorem dX7_kiln_78 : decode cX7_kiln 78 = .ok (.iload_n 2, 1) := by decide +kernel
theorem dX7_kiln_79 : decode cX7_kiln 79 = .ok (.iconst 5, 1) := by decide +kernel
theorem dX7_kiln_80 : decode cX7_kiln 80 = .ok (.if_icmp .ne 8, 3) := by decide +kernel
theorem dX7_kiln_83 : decode cX7_kiln 83 = .ok (.bipush 44, 2) := by decide +kernel
theorem dX7_kiln_85 : decode cX7_kiln 85 = .ok (.goto 16, 3) := by decide +kernel
theorem dX7_kiln_88 : decode cX7_kiln 88 = .ok (.iload_n 2, 1) := by decide +kernel
theorem dX7_kiln_89 : decode cX7_kiln 89 = .ok (.bipush 6, 2) := by decide +kernel
theorem dX7_kiln_91 : decode cX7_kiln 91 = .ok (.if_icmp .ne 8, 3) := by decide +kernel
theorem dX7_kiln_94 : decode cX7_kiln 94 = .ok (.bipush 50, 2) := by decide +kernel
theorem dX7_kiln_96 : decode cX7_kiln 96 = .ok (.goto 5, 3) := by decide +kernel
theorem dX7_kiln_99 : decode cX7_kiln 99 = .ok (.bipush 56, 2) := by decide +kernel
theorem dX7_kiln_101 : decode cX7_kiln 101 = .ok (.istore_n 3, 1) := by decide +kernel
theorem dX7_kiln_102 : decode cX7_kiln 102 = .ok (.aload_n 0, 1) := by decide +kernel
theorem dX7_kiln_103 : decode cX7_kiln 103 = .ok (.getfield 7, 3) := by decide +kernel
theorem dX7_kiln_106 : decode cX7_kiln 106 = .ok (.iload_n 3, 1) := by decide +kernel
theorem dX7_kiln_107 : decode cX7_kiln 107 = .ok (.iload_n 1, 1) := by decide +kernel
theorem dX7_kiln_108 : decode cX7_kiln 108 = .ok (.iadd, 1) := by decide +kernel
theorem dX7_kiln_109 : decode cX7_kiln 109 = .ok (.iaload, 1) := by decide +kernel
theorem dX7_kiln_110 : decode cX7_kiln 110 = .ok (.ireturn, 1) := by decide +kernel
theorem dX7_kiln_111 : decode cX7_kiln 111 = .ok (.iload_n 2, 1) := by decide +kernel
theorem dX7_kiln_112 : decode cX7_kiln 112 = .ok (.bipush 8, 2) := by decide +kernel
theorem dX7_kiln_114 : decode cX7_kiln 114 = .ok (.if_icmp .ne 35, 3) := by decide +kernel
theorem dX7_kiln_117 : decode cX7_kiln 117 = .ok (.aload_n 0, 1) := by decide +kernel
theorem dX7_kiln_118 : decode cX7_kiln 118 = .ok (.iload_n 1, 1) := by decide +kernel
theorem dX7_kiln_119 : decode cX7_kiln 119 = .ok (.invokevirtual 116, 3) := by decide +kernel
theorem dX7_kiln_122 : decode cX7_kiln 122 = .ok (.aload_n 0, 1) := by decide +kernel
theorem dX7_kiln_123 : decode cX7_kiln 123 = .ok (.getfield 7, 3) := by decide +kernel
theorem dX7_kiln_126 : decode cX7_kiln 126 = .ok (.bipush 38, 2) := by decide +kernel
theorem dX7_kiln_128 : decode cX7_kiln 128 = .ok (.iload_n 1, 1) := by decide +kernel
theorem dX7_kiln_129 : decode cX7_kiln 129 = .ok (.iadd, 1) := by decide +kernel
theorem dX7_kiln_130 : decode cX7_kiln 130 = .ok (.iaload, 1) := by decide +kernel
theorem dX7_kiln_131 : decode cX7_kiln 131 = .ok (.isub, 1) := by decide +kernel
theorem dX7_kiln_132 : decode cX7_kiln 132 = .ok (.aload_n 0, 1) := by decide +kernel
theorem dX7_kiln_133 : decode cX7_kiln 133 = .ok (.iload_n 1, 1) := by decide +kernel
theorem dX7_kiln_134 : decode cX7_kiln 134 = .ok (.invokevirtual 60, 3) := by decide +kernel
theorem dX7_kiln_137 : decode cX7_kiln 137 = .ok (.isub, 1) := by decide +kernel
theorem dX7_kiln_138 : decode cX7_kiln 138 = .ok (.istore_n 3, 1) := by decide +kernel
theorem dX7_kiln_139 : decode cX7_kiln 139 = .ok (.iload_n 3, 1) := by decide +kernel
theorem dX7_kiln_140 : decode cX7_kiln 140 = .ok (.ifCond .le 7, 3) := by decide +kernel
theorem dX7_kiln_143 : decode cX7_kiln 143 = .ok (.iload_n 3, 1) := by decide +kernel
theorem dX7_kiln_144 : decode cX7_kiln 144 = .ok (.goto 4, 3) := by decide +kernel
theorem dX7_kiln_147 : decode cX7_kiln 147 = .ok (.iconst 0, 1) := by decide +kernel
theorem dX7_kiln_148 : decode cX7_kiln 148 = .ok (.ireturn, 1) := by decide +kernel
theorem dX7_kiln_149 : decode cX7_kiln 149 = .ok (.iload_n 2, 1) := by decide +kernel
theorem dX7_kiln_150 : decode cX7_kiln 150 = .ok (.bipush 9, 2) := by decide +kernel
theorem dX7_kiln_152 : decode cX7_kiln 152 = .ok (.if_icmp .ne 11, 3) := by decide +kernel
theorem dX7_kiln_155 : decode cX7_kiln 155 = .ok (.aload_n 0, 1) := by decide +kernel
theorem dX7_kiln_156 : decode cX7_kiln 156 = .ok (.iload_n 1, 1) := by decide +kernel
theorem dX7_kiln_157 : decode cX7_kiln 157 = .ok (.invokevirtual 126, 3) := by decide +kernel
theorem dX7_kiln_160 : decode cX7_kiln 160 = .ok (.goto 19, 3) := by decide +kernel
theorem dX7_kiln_163 : decode cX7_kiln 163 = .ok (.aload_n 0, 1) := by decide +kernel
theorem dX7_kiln_164 : decode cX7_kiln 164 = .ok (.iload_n 1, 1) := by decide +kernel
theorem dX7_kiln_165 : decode cX7_kiln 165 = .ok (.iload_n 2, 1) := by decide +kernel
theorem dX7_kiln_166 : decode cX7_kiln 166 = .ok (.bipush 10, 2) := by decide +kernel
theorem dX7_kiln_168 : decode cX7_kiln 168 = .ok (.if_icmp .ne 7, 3) := by decide +kernel
theorem dX7_kiln_171 : decode cX7_kiln 171 = .ok (.iconst 0, 1) := by decide +kernel
theorem dX7_kiln_172 : decode cX7_kiln 172 = .ok (.goto 4, 3) := by decide +kernel
theorem dX7_kiln_175 : decode cX7_kiln 175 = .ok (.iconst 1, 1) := by decide +kernel
theorem dX7_kiln_176 : decode cX7_kiln 176 = .ok (.invokevirtual 129, 3) := by decide +kernel
theorem dX7_kiln_179 : decode cX7_kiln 179 = .ok (.ireturn, 1) := by decide +kernel
theorem dX7_ofYear_0 : decode cX7_ofYear 0 = .ok (.iload_n 1, 1) := by decide +kernel
theorem dX7_ofYear_1 : decode cX7_ofYear 1 = .ok (.invokestatic 38, 3) := by decide +kernel
theorem dX7_ofYear_4 : decode cX7_ofYear 4 = .ok (.ifCond .ne 5, 3) := by decide +kernel
theorem dX7_ofYear_7 : decode cX7_ofYear 7 = .ok (.iconst (-1), 1) := by decide +kernel
theorem dX7_ofYear_8 : decode cX7_ofYear 8 = .ok (.ireturn, 1) := by decide +kernel
theorem dX7_ofYear_9 : decode cX7_ofYear 9 = .ok (.iload_n 2, 1) := by decide +kernel
theorem dX7_ofYear_10 : decode cX7_ofYear 10 = .ok (.iconst 0, 1) := by decide +kernel
theorem dX7_ofYear_11 : decode cX7_ofYear 11 = .ok (.aload_n 0, 1) := by decide +kernel
theorem dX7_ofYear_12 : decode cX7_ofYear 12 = .ok (.getfield 7, 3) := by decide +kernel
theorem dX7_ofYear_15 : decode cX7_ofYear 15 = .ok (.iconst 0, 1) := by decide +kernel
theorem dX7_ofYear_16 : decode cX7_ofYear 16 = .ok (.iaload, 1) := by decide +kernel
theorem dX7_ofYear_17 : decode cX7_ofYear 17 = .ok (.invokestatic 29, 3) := by decide +kernel
theorem dX7_ofYear_20 : decode cX7_ofYear 20 = .ok (.ifCond .eq 17, 3) := by decide +kernel
theorem dX7_ofYear_23 : decode cX7_ofYear 23 = .ok (.aload_n 0, 1) := by decide +kernel
theorem dX7_ofYear_24 : decode cX7_ofYear 24 = .ok (.getfield 7, 3) := by decide +kernel
theorem dX7_ofYear_27 : decode cX7_ofYear 27 = .ok (.iload_n 1, 1) := by decide +kernel
theorem dX7_ofYear_28 : decode cX7_ofYear 28 = .ok (.invokestatic 45, 3) := by decide +kernel
theorem dX7_ofYear_31 : decode cX7_ofYear 31 = .ok (.iload_n 2, 1) := by decide +kernel
theorem dX7_ofYear_32 : decode cX7_ofYear 32 = .ok (.iadd, 1) := by decide +kernel
theorem dX7_ofYear_33 : decode cX7_ofYear 33 = .ok (.iaload, 1) := by decide +kernel
theorem dX7_ofYear_34 : decode cX7_ofYear 34 = .ok (.goto 5, 3) := by decide +kernel
theorem dX7_ofYear_37 : decode cX7_ofYear 37 = .ok (.bipush (-2), 2) := by decide +kernel
theorem dX7_ofYear_39 : decode cX7_ofYear 39 = .ok (.ireturn, 1) := by decide +kernel
theorem dX7_order_0 : decode cX7_order 0 = .ok (.iload_n 2, 1) := by decide +kernel
theorem dX7_order_1 : decode cX7_order 1 = .ok (.ifCond .lt 12, 3) := by decide +kernel
theorem dX7_order_4 : decode cX7_order 4 = .ok (.iload_n 3, 1) := by decide +kernel
theorem dX7_order_5 : decode cX7_order 5 = .ok (.iconst 0, 1) := by decide +kernel
theorem dX7_order_6 : decode cX7_order 6 = .ok (.iconst 3, 1) := by decide +kernel
theorem dX7_order_7 : decode cX7_order 7 = .ok (.invokestatic 29, 3) := by decide +kernel
theorem dX7_order_10 : decode cX7_order 10 = .ok (.ifCond .ne 6, 3) := by decide +kernel
theorem dX7_order_13 : decode cX7_order 13 = .ok (.bipush (-2), 2) := by decide +kernel
theorem dX7_order_15 : decode cX7_order 15 = .ok (.ireturn, 1) := by decide +kernel
theorem dX7_order_16 : decode cX7_order 16 = .ok (.iload_n 1, 1) := by decide +kernel
theorem dX7_order_17 : decode cX7_order 17 = .ok (.ifCond .eq 7, 3) := by decide +kernel
theorem dX7_order_20 : decode cX7_order 20 = .ok (.iconst 1, 1) := by decide +kernel
theorem dX7_order_21 : decode cX7_order 21 = .ok (.goto 4, 3) := by decide +kernel
theorem dX7_order_24 : decode cX7_order 24 = .ok (.iconst 0, 1) := by decide +kernel
theorem dX7_order_25 : decode cX7_order 25 = .ok (.istore 4, 2) := by decide +kernel
theorem dX7_order_27 : decode cX7_order 27 = .ok (.iconst 0, 1) := by decide +kernel
theorem dX7_order_28 : decode cX7_order 28 = .ok (.istore 5, 2) := by decide +kernel
theorem dX7_order_30 : decode cX7_order 30 = .ok (.iload 5, 2) := by decide +kernel
theorem dX7_order_32 : decode cX7_order 32 = .ok (.aload_n 0, 1) := by decide +kernel
theorem dX7_order_33 : decode cX7_order 33 = .ok (.getfield 7, 3) := by decide +kernel
theorem dX7_order_36 : decode cX7_order 36 = .ok (.bipush 11, 2) := by decide +kernel
theorem dX7_order_38 : decode cX7_order 38 = .ok (.iaload, 1) := by decide +kernel
theorem dX7_order_39 : decode cX7_order 39 = .ok (.if_icmp .ge 150, 3) := by decide +kernel
theorem dX7_order_42 : decode cX7_order 42 = .ok (.aload_n 0, 1) := by decide +kernel
theorem dX7_order_43 : decode cX7_order 43 = .ok (.getfield 7, 3) := by decide +kernel
theorem dX7_order_46 : decode cX7_order 46 = .ok (.bipush 96, 2) := by decide +kernel
theorem dX7_order_48 : decode cX7_order 48 = .ok (.iload 5, 2) := by decide +kernel
theorem dX7_order_50 : decode cX7_order 50 = .ok (.iadd, 1) := by decide +kernel
theorem dX7_order_51 : decode cX7_order 51 = .ok (.iaload, 1) := by decide +kernel
theorem dX7_order_52 : decode cX7_order 52 = .ok (.iload 4, 2) := by decide +kernel
theorem dX7_order_54 : decode cX7_order 54 = .ok (.if_icmp .eq 6, 3) := by decide +kernel
theorem dX7_order_57 : decode cX7_order 57 = .ok (.goto 126, 3) := by decide +kernel
theorem dX7_order_60 : decode cX7_order 60 = .ok (.iconst 0, 1) := by decide +kernel
theorem dX7_order_61 : decode cX7_order 61 = .ok (.istore 6, 2) := by decide +kernel
theorem dX7_order_63 : decode cX7_order 63 = .ok (.iconst 0, 1) := by decide +kernel
theorem dX7_order_64 : decode cX7_order 64 = .ok (.istore 7, 2) := by decide +kernel
theorem dX7_order_66 : decode cX7_order 66 = .ok (.iload 7, 2) := by decide +kernel
theorem dX7_order_68 : decode cX7_order 68 = .ok (.aload_n 0, 1) := by decide +kernel
theorem dX7_order_69 : decode cX7_order 69 = .ok (.getfield 7, 3) := by decide +kernel
theorem dX7_order_72 : decode cX7_order 72 = .ok (.bipush 11, 2) := by decide +kernel
theorem dX7_order_74 : decode cX7_order 74 = .ok (.iaload, 1) := by decide +kernel
theorem dX7_order_75 : decode cX7_order 75 = .ok (.if_icmp .ge 52, 3) := by decide +kernel
theorem dX7_order_78 : decode cX7_order 78 = .ok (.iload 6, 2) := by decide +kernel
theorem dX7_order_80 : decode cX7_order 80 = .ok (.iload 7, 2) := by decide +kernel
theorem dX7_order_82 : decode cX7_order 82 = .ok (.iload 5, 2) := by decide +kernel
theorem dX7_order_84 : decode cX7_order 84 = .ok (.if_icmp .eq 33, 3) := by decide +kernel
theorem dX7_order_87 : decode cX7_order 87 = .ok (.aload_n 0, 1) := by decide +kernel
theorem dX7_order_88 : decode cX7_order 88 = .ok (.getfield 7, 3) := by decide +kernel
theorem dX7_order_91 : decode cX7_order 91 = .ok (.bipush 96, 2) := by decide +kernel
theorem dX7_order_93 : decode cX7_order 93 = .ok (.iload 7, 2) := by decide +kernel
theorem dX7_order_95 : decode cX7_order 95 = .ok (.iadd, 1) := by decide +kernel
theorem dX7_order_96 : decode cX7_order 96 = .ok (.iaload, 1) := by decide +kernel
theorem dX7_order_97 : decode cX7_order 97 = .ok (.iload 4, 2) := by decide +kernel
theorem dX7_order_99 : decode cX7_order 99 = .ok (.if_icmp .ne 18, 3) := by decide +kernel
theorem dX7_order_102 : decode cX7_order 102 = .ok (.aload_n 0, 1) := by decide +kernel
theorem dX7_order_103 : decode cX7_order 103 = .ok (.iload 7, 2) := by decide +kernel
theorem dX7_order_105 : decode cX7_order 105 = .ok (.iload 5, 2) := by decide +kernel
theorem dX7_order_107 : decode cX7_order 107 = .ok (.invokevirtual 49, 3) := by decide +kernel
theorem dX7_order_110 : decode cX7_order 110 = .ok (.ifCond .eq 7, 3) := by decide +kernel
theorem dX7_order_113 : decode cX7_order 113 = .ok (.iconst 1, 1) := by decide +kernel
theorem dX7_order_114 : decode cX7_order 114 = .ok (.goto 4, 3) := by decide +kernel
theorem dX7_order_117 : decode cX7_order 117 = .ok (.iconst 0, 1) := by decide +kernel
theorem dX7_order_118 : decode cX7_order 118 = .ok (.iadd, 1) := by decide +kernel
theorem dX7_order_119 : decode cX7_order 119 = .ok (.istore 6, 2) := by decide +kernel
theorem dX7_order_121 : decode cX7_order 121 = .ok (.iinc 7 1, 3) := by decide +kernel
theorem dX7_order_124 : decode cX7_order 124 = .ok (.goto (-58), 3) := by decide +kernel
theorem dX7_order_127 : decode cX7_order 127 = .ok (.iload 6, 2) := by decide +kernel
theorem dX7_order_129 : decode cX7_order 129 = .ok (.iload_n 2, 1) := by decide +kernel
theorem dX7_order_130 : decode cX7_order 130 = .ok (.if_icmp .ne 53, 3) := by decide +kernel
theorem dX7_order_133 : decode cX7_order 133 = .ok (.aload_n 0, 1) := by decide +kernel
theorem dX7_order_134 : decode cX7_order 134 = .ok (.getfield 7, 3) := by decide +kernel
theorem dX7_order_137 : decode cX7_order 137 = .ok (.iload_n 3, 1) := by decide +kernel
theorem dX7_order_138 : decode cX7_order 138 = .ok (.ifCond .ne 11, 3) := by decide +kernel
theorem dX7_order_141 : decode cX7_order 141 = .ok (.bipush 64, 2) := by decide +kernel
theorem dX7_order_143 : decode cX7_order 143 = .ok (.iload 5, 2) := by decide +kernel
theorem dX7_order_145 : decode cX7_order 145 = .ok (.iadd, 1) := by decide +kernel
theorem dX7_order_146 : decode cX7_order 146 = .ok (.goto 35, 3) := by decide +kernel
theorem dX7_order_149 : decode cX7_order 149 = .ok (.iload_n 3, 1) := by decide +kernel
theorem dX7_order_150 : decode cX7_order 150 = .ok (.iconst 1, 1) := by decide +kernel
theorem dX7_order_151 : decode cX7_order 151 = .ok (.if_icmp .ne 11, 3) := by decide +kernel
theorem dX7_order_154 : decode cX7_order 154 = .ok (.bipush 80, 2) := by decide +kernel
theorem dX7_order_156 : decode cX7_order 156 = .ok (.iload 5, 2) := by decide +kernel
theorem dX7_order_158 : decode cX7_order 158 = .ok (.iadd, 1) := by decide +kernel
theorem dX7_order_159 : decode cX7_order 159 = .ok (.goto 22, 3) := by decide +kernel
theorem dX7_order_162 : decode cX7_order 162 = .ok (.iload_n 3, 1) := by decide +kernel
theorem dX7_order_163 : decode cX7_order 163 = .ok (.iconst 2, 1) := by decide +kernel
theorem dX7_order_164 : decode cX7_order 164 = .ok (.if_icmp .ne 11, 3) := by decide +kernel
theorem dX7_order_167 : decode cX7_order 167 = .ok (.bipush 112, 2) := by decide +kernel
theorem dX7_order_169 : decode cX7_order 169 = .ok (.iload 5, 2) := by decide +kernel
theorem dX7_order_171 : decode cX7_order 171 = .ok (.iadd, 1) := by decide +kernel
theorem dX7_order_172 : decode cX7_order 172 = .ok (.goto 9, 3) := by decide +kernel
theorem dX7_order_175 : decode cX7_order 175 = .ok (.sipush 128, 3) := by decide +kernel
theorem dX7_order_178 : decode cX7_order 178 = .ok (.iload 5, 2) := by decide +kernel
theorem dX7_order_180 : decode cX7_order 180 = .ok (.iadd, 1) := by decide +kernel
theorem dX7_order_181 : decode cX7_order 181 = .ok (.iaload, 1) := by decide +kernel
theorem dX7_order_182 : decode cX7_order 182 = .ok (.ireturn, 1) := by decide +kernel
theorem dX7_order_183 : decode cX7_order 183 = .ok (.iinc 5 1, 3) := by decide +kernel
theorem dX7_order_186 : decode cX7_order 186 = .ok (.goto (-156), 3) := by decide +kernel
theorem dX7_order_189 : decode cX7_order 189 = .ok (.bipush (-5), 2) := by decide +kernel
theorem dX7_order_191 : decode cX7_order 191 = .ok (.ireturn, 1) := by decide +kernel
theorem dX7_depth_0 : decode cX7_depth 0 = .ok (.iload_n 2, 1) := by decide +kernel
theorem dX7_depth_1 : decode cX7_depth 1 = .ok (.iconst 1, 1) := by decide +kernel
theorem dX7_depth_2 : decode cX7_depth 2 = .ok (.sipush 500, 3) := by decide +kernel
theorem dX7_depth_5 : decode cX7_depth 5 = .ok (.invokestatic 29, 3) := by decide +kernel
theorem dX7_depth_8 : decode cX7_depth 8 = .ok (.ifCond .ne 6, 3) := by decide +kernel
theorem dX7_depth_11 : decode cX7_depth 11 = .ok (.bipush (-2), 2) := by decide +kernel
theorem dX7_depth_13 : decode cX7_depth 13 = .ok (.ireturn, 1) := by decide +kernel
theorem dX7_depth_14 : decode cX7_depth 14 = .ok (.iconst 0, 1) := by decide +kernel
theorem dX7_depth_15 : decode cX7_depth 15 = .ok (.istore_n 3, 1) := by decide +kernel
theorem dX7_depth_16 : decode cX7_depth 16 = .ok (.iconst 0, 1) := by decide +kernel
theorem dX7_depth_17 : decode cX7_depth 17 = .ok (.istore 4, 2) := by decide +kernel
theorem dX7_depth_19 : decode cX7_depth 19 = .ok (.iload 4, 2) := by decide +kernel
theorem dX7_depth_21 : decode cX7_depth 21 = .ok (.aload_n 0, 1) := by decide +kernel
theorem dX7_depth_22 : decode cX7_depth 22 = .ok (.getfield 7, 3) := by decide +kernel
theorem dX7_depth_25 : decode cX7_depth 25 = .ok (.bipush 11, 2) := by decide +kernel
theorem dX7_depth_27 : decode cX7_depth 27 = .ok (.iaload, 1) := by decide +kernel
theorem dX7_depth_28 : decode cX7_depth 28 = .ok (.if_icmp .ge 107, 3) := by decide +kernel
theorem dX7_depth_31 : decode cX7_depth 31 = .ok (.iload_n 1, 1) := by decide +kernel
theorem dX7_depth_32 : decode cX7_depth 32 = .ok (.ifCond .eq 39, 3) := by decide +kernel
theorem dX7_depth_35 : decode cX7_depth 35 = .ok (.aload_n 0, 1) := by decide +kernel
theorem dX7_depth_36 : decode cX7_depth 36 = .ok (.getfield 7, 3) := by decide +kernel
theorem dX7_depth_39 : decode cX7_depth 39 = .ok (.bipush 96, 2) := by decide +kernel
theorem dX7_depth_41 : decode cX7_depth 41 = .ok (.iload 4, 2) := by decide +kernel
theorem dX7_depth_43 : decode cX7_depth 43 = .ok (.iadd, 1) := by decide +kernel
theorem dX7_depth_44 : decode cX7_depth 44 = .ok (.iaload, 1) := by decide +kernel
theorem dX7_depth_45 : decode cX7_depth 45 = .ok (.ifCond .ne 22, 3) := by decide +kernel
theorem dX7_depth_48 : decode cX7_depth 48 = .ok (.aload_n 0, 1) := by decide +kernel
theorem dX7_depth_49 : decode cX7_depth 49 = .ok (.getfield 7, 3) := by decide +kernel
theorem dX7_depth_52 : decode cX7_depth 52 = .ok (.sipush 128, 3) := by decide +kernel
theorem dX7_depth_55 : decode cX7_depth 55 = .ok (.iload 4, 2) := by decide +kernel
theorem dX7_depth_57 : decode cX7_depth 57 = .ok (.iadd, 1) := by decide +kernel
theorem dX7_depth_58 : decode cX7_depth 58 = .ok (.iaload, 1) := by decide +kernel
theorem dX7_depth_59 : decode cX7_depth 59 = .ok (.iload_n 2, 1) := by decide +kernel
theorem dX7_depth_60 : decode cX7_depth 60 = .ok (.if_icmp .gt 7, 3) := by decide +kernel
theorem dX7_depth_63 : decode cX7_depth 63 = .ok (.iconst 1, 1) := by decide +kernel
theorem dX7_depth_64 : decode cX7_depth 64 = .ok (.goto 41, 3) := by decide +kernel
theorem dX7_depth_67 : decode cX7_depth 67 = .ok (.iconst 0, 1) := by decide +kernel
theorem dX7_depth_68 : decode cX7_depth 68 = .ok (.goto 37, 3) := by decide +kernel
theorem dX7_depth_71 : decode cX7_depth 71 = .ok (.aload_n 0, 1) := by decide +kernel
theorem dX7_depth_72 : decode cX7_depth 72 = .ok (.getfield 7, 3) := by decide +kernel
theorem dX7_depth_75 : decode cX7_depth 75 = .ok (.bipush 96, 2) := by decide +kernel
theorem dX7_depth_77 : decode cX7_depth 77 = .ok (.iload 4, 2) := by decide +kernel
theorem dX7_depth_79 : decode cX7_depth 79 = .ok (.iadd, 1) := by decide +kernel
theorem dX7_depth_80 : decode cX7_depth 80 = .ok (.iaload, 1) := by decide +kernel
theorem dX7_depth_81 : decode cX7_depth 81 = .ok (.iconst 1, 1) := by decide +kernel
theorem dX7_depth_82 : decode cX7_depth 82 = .ok (.if_icmp .ne 22, 3) := by decide +kernel
theorem dX7_depth_85 : decode cX7_depth 85 = .ok (.aload_n 0, 1) := by decide +kernel
theorem dX7_depth_86 : decode cX7_depth 86 = .ok (.getfield 7, 3) := by decide +kernel
theorem dX7_depth_89 : decode cX7_depth 89 = .ok (.sipush 128, 3) := by decide +kernel
theorem dX7_depth_92 : decode cX7_depth 92 = .ok (.iload 4, 2) := by decide +kernel
theorem dX7_depth_94 : decode cX7_depth 94 = .ok (.iadd, 1) := by decide +kernel
theorem dX7_depth_95 : decode cX7_depth 95 = .ok (.iaload, 1) := by decide +kernel
theorem dX7_depth_96 : decode cX7_depth 96 = .ok (.iload_n 2, 1) := by decide +kernel
theorem dX7_depth_97 : decode cX7_depth 97 = .ok (.if_icmp .lt 7, 3) := by decide +kernel
theorem dX7_depth_100 : decode cX7_depth 100 = .ok (.iconst 1, 1) := by decide +kernel
theorem dX7_depth_101 : decode cX7_depth 101 = .ok (.goto 4, 3) := by decide +kernel
theorem dX7_depth_104 : decode cX7_depth 104 = .ok (.iconst 0, 1) := by decide +kernel
theorem dX7_depth_105 : decode cX7_depth 105 = .ok (.istore 5, 2) := by decide +kernel
theorem dX7_depth_107 : decode cX7_depth 107 = .ok (.iload_n 3, 1) := by decide +kernel
theorem dX7_depth_108 : decode cX7_depth 108 = .ok (.iload 5, 2) := by decide +kernel
theorem dX7_depth_110 : decode cX7_depth 110 = .ok (.ifCond .eq 16, 3) := by decide +kernel
theorem dX7_depth_113 : decode cX7_depth 113 = .ok (.aload_n 0, 1) := by decide +kernel
theorem dX7_depth_114 : decode cX7_depth 114 = .ok (.getfield 7, 3) := by decide +kernel
theorem dX7_depth_117 : decode cX7_depth 117 = .ok (.bipush 112, 2) := by decide +kernel
theorem dX7_depth_119 : decode cX7_depth 119 = .ok (.iload 4, 2) := by decide +kernel
theorem dX7_depth_121 : decode cX7_depth 121 = .ok (.iadd, 1) := by decide +kernel
theorem dX7_depth_122 : decode cX7_depth 122 = .ok (.iaload, 1) := by decide +kernel
theorem dX7_depth_123 : decode cX7_depth 123 = .ok (.goto 4, 3) := by decide +kernel
theorem dX7_depth_126 : decode cX7_depth 126 = .ok (.iconst 0, 1) := by decide +kernel
theorem dX7_depth_127 : decode cX7_depth 127 = .ok (.iadd, 1) := by decide +kernel
theorem dX7_depth_128 : decode cX7_depth 128 = .ok (.istore_n 3, 1) := by decide +kernel
theorem dX7_depth_129 : decode cX7_depth 129 = .ok (.iinc 4 1, 3) := by decide +kernel
theorem dX7_depth_132 : decode cX7_depth 132 = .ok (.goto (-113), 3) := by decide +kernel
theorem dX7_depth_135 : decode cX7_depth 135 = .ok (.iload_n 3, 1) := by decide +kernel
theorem dX7_depth_136 : decode cX7_depth 136 = .ok (.ireturn, 1) := by decide +kernel
theorem dX7_allPermits_0 : decode cX7_allPermits 0 = .ok (.aload_n 0, 1) := by decide +kernel
theorem dX7_allPermits_1 : decode cX7_allPermits 1 = .ok (.iconst (-1), 1) := by decide +kernel
theorem dX7_allPermits_2 : decode cX7_allPermits 2 = .ok (.iconst 0, 1) := by decide +kernel
theorem dX7_allPermits_3 : decode cX7_allPermits 3 = .ok (.invokevirtual 129, 3) := by decide +kernel
theorem dX7_allPermits_6 : decode cX7_allPermits 6 = .ok (.istore_n 1, 1) := by decide +kernel
theorem dX7_allPermits_7 : decode cX7_allPermits 7 = .ok (.iconst 0, 1) := by decide +kernel
theorem dX7_allPermits_8 : decode cX7_allPermits 8 = .ok (.istore_n 2, 1) := by decide +kernel
theorem dX7_allPermits_9 : decode cX7_allPermits 9 = .ok (.iload_n 2, 1) := by decide +kernel
theorem dX7_allPermits_10 : decode cX7_allPermits 10 = .ok (.bipush 6, 2) := by decide +kernel
theorem dX7_allPermits_12 : decode cX7_allPermits 12 = .ok (.if_icmp .ge 17, 3) := by decide +kernel
theorem dX7_allPermits_15 : decode cX7_allPermits 15 = .ok (.iload_n 1, 1) := by decide +kernel
theorem dX7_allPermits_16 : decode cX7_allPermits 16 = .ok (.aload_n 0, 1) := by decide +kernel
theorem dX7_allPermits_17 : decode cX7_allPermits 17 = .ok (.iload_n 2, 1) := by decide +kernel
theorem dX7_allPermits_18 : decode cX7_allPermits 18 = .ok (.invokevirtual 60, 3) := by decide +kernel
theorem dX7_allPermits_21 : decode cX7_allPermits 21 = .ok (.iadd, 1) := by decide +kernel
theorem dX7_allPermits_22 : decode cX7_allPermits 22 = .ok (.istore_n 1, 1) := by decide +kernel
theorem dX7_allPermits_23 : decode cX7_allPermits 23 = .ok (.iinc 2 1, 3) := by decide +kernel
theorem dX7_allPermits_26 : decode cX7_allPermits 26 = .ok (.goto (-17), 3) := by decide +kernel
theorem dX7_allPermits_29 : decode cX7_allPermits 29 = .ok (.iload_n 1, 1) := by decide +kernel
theorem dX7_allPermits_30 : decode cX7_allPermits 30 = .ok (.ireturn, 1) := by decide +kernel
theorem dX7_allCoins_0 : decode cX7_allCoins 0 = .ok (.aload_n 0, 1) := by decide +kernel
theorem dX7_allCoins_1 : decode cX7_allCoins 1 = .ok (.iconst (-1), 1) := by decide +kernel
theorem dX7_allCoins_2 : decode cX7_allCoins 2 = .ok (.iconst 1, 1) := by decide +kernel
theorem dX7_allCoins_3 : decode cX7_allCoins 3 = .ok (.invokevirtual 129, 3) := by decide +kernel
theorem dX7_allCoins_6 : decode cX7_allCoins 6 = .ok (.istore_n 1, 1) := by decide +kernel
theorem dX7_allCoins_7 : decode cX7_allCoins 7 = .ok (.iconst 0, 1) := by decide +kernel
theorem dX7_allCoins_8 : decode cX7_allCoins 8 = .ok (.istore_n 2, 1) := by decide +kernel
theorem dX7_allCoins_9 : decode cX7_allCoins 9 = .ok (.iload_n 2, 1) := by decide +kernel
theorem dX7_allCoins_10 : decode cX7_allCoins 10 = .ok (.bipush 6, 2) := by decide +kernel
theorem dX7_allCoins_12 : decode cX7_allCoins 12 = .ok (.if_icmp .ge 21, 3) := by decide +kernel
theorem dX7_allCoins_15 : decode cX7_allCoins 15 = .ok (.iload_n 1, 1) := by decide +kernel
theorem dX7_allCoins_16 : decode cX7_allCoins 16 = .ok (.aload_n 0, 1) := by decide +kernel
theorem dX7_allCoins_17 : decode cX7_allCoins 17 = .ok (.getfield 7, 3) := by decide +kernel
theorem dX7_allCoins_20 : decode cX7_allCoins 20 = .ok (.bipush 20, 2) := by decide +kernel
theorem dX7_allCoins_22 : decode cX7_allCoins 22 = .ok (.iload_n 2, 1) := by decide +kernel
theorem dX7_allCoins_23 : decode cX7_allCoins 23 = .ok (.iadd, 1) := by decide +kernel
theorem dX7_allCoins_24 : decode cX7_allCoins 24 = .ok (.iaload, 1) := by decide +kernel
theorem dX7_allCoins_25 : decode cX7_allCoins 25 = .ok (.iadd, 1) := by decide +kernel
theorem dX7_allCoins_26 : decode cX7_allCoins 26 = .ok (.istore_n 1, 1) := by decide +kernel
theorem dX7_allCoins_27 : decode cX7_allCoins 27 = .ok (.iinc 2 1, 3) := by decide +kernel
theorem dX7_allCoins_30 : decode cX7_allCoins 30 = .ok (.goto (-21), 3) := by decide +kernel
theorem dX7_allCoins_33 : decode cX7_allCoins 33 = .ok (.iload_n 1, 1) := by decide +kernel
theorem dX7_allCoins_34 : decode cX7_allCoins 34 = .ok (.ireturn, 1) := by decide +kernel
theorem dX7_count_0 : decode cX7_count 0 = .ok (.iload_n 1, 1) := by decide +kernel
theorem dX7_count_1 : decode cX7_count 1 = .ok (.iconst 0, 1) := by decide +kernel
theorem dX7_count_2 : decode cX7_count 2 = .ok (.bipush 20, 2) := by decide +kernel
theorem dX7_count_4 : decode cX7_count 4 = .ok (.invokestatic 29, 3) := by decide +kernel
theorem dX7_count_7 : decode cX7_count 7 = .ok (.ifCond .ne 6, 3) := by decide +kernel
theorem dX7_count_10 : decode cX7_count 10 = .ok (.bipush (-2), 2) := by decide +kernel
theorem dX7_count_12 : decode cX7_count 12 = .ok (.ireturn, 1) := by decide +kernel
theorem dX7_count_13 : decode cX7_count 13 = .ok (.iload_n 1, 1) := by decide +kernel
theorem dX7_count_14 : decode cX7_count 14 = .ok (.iconst 1, 1) := by decide +kernel
theorem dX7_count_15 : decode cX7_count 15 = .ok (.if_icmp .ne 8, 3) := by decide +kernel
theorem dX7_count_18 : decode cX7_count 18 = .ok (.aload_n 0, 1) := by decide +kernel
theorem dX7_count_19 : decode cX7_count 19 = .ok (.invokevirtual 133, 3) := by decide +kernel
theorem dX7_count_22 : decode cX7_count 22 = .ok (.ireturn, 1) := by decide +kernel
theorem dX7_count_23 : decode cX7_count 23 = .ok (.iload_n 1, 1) := by decide +kernel
theorem dX7_count_24 : decode cX7_count 24 = .ok (.iconst 5, 1) := by decide +kernel
theorem dX7_count_25 : decode cX7_count 25 = .ok (.if_icmp .ge 36, 3) := by decide +kernel
theorem dX7_count_28 : decode cX7_count 28 = .ok (.aload_n 0, 1) := by decide +kernel
theorem dX7_count_29 : decode cX7_count 29 = .ok (.getfield 7, 3) := by decide +kernel
theorem dX7_count_32 : decode cX7_count 32 = .ok (.iload_n 1, 1) := by decide +kernel
theorem dX7_count_33 : decode cX7_count 33 = .ok (.ifCond .ne 7, 3) := by decide +kernel
theorem dX7_count_36 : decode cX7_count 36 = .ok (.iconst 0, 1) := by decide +kernel
theorem dX7_count_37 : decode cX7_count 37 = .ok (.goto 22, 3) := by decide +kernel
theorem dX7_count_40 : decode cX7_count 40 = .ok (.iload_n 1, 1) := by decide +kernel
theorem dX7_count_41 : decode cX7_count 41 = .ok (.iconst 2, 1) := by decide +kernel
theorem dX7_count_42 : decode cX7_count 42 = .ok (.if_icmp .ne 7, 3) := by decide +kernel
theorem dX7_count_45 : decode cX7_count 45 = .ok (.iconst 3, 1) := by decide +kernel
theorem dX7_count_46 : decode cX7_count 46 = .ok (.goto 13, 3) := by decide +kernel
theorem dX7_count_49 : decode cX7_count 49 = .ok (.iload_n 1, 1) := by decide +kernel
theorem dX7_count_50 : decode cX7_count 50 = .ok (.iconst 3, 1) := by decide +kernel
theorem dX7_count_51 : decode cX7_count 51 = .ok (.if_icmp .ne 7, 3) := by decide +kernel
theorem dX7_count_54 : decode cX7_count 54 = .ok (.iconst 4, 1) := by decide +kernel
theorem dX7_count_55 : decode cX7_count 55 = .ok (.goto 4, 3) := by decide +kernel
theorem dX7_count_58 : decode cX7_count 58 = .ok (.iconst 5, 1) := by decide +kernel
theorem dX7_count_59 : decode cX7_count 59 = .ok (.iaload, 1) := by decide +kernel
theorem dX7_count_60 : decode cX7_count 60 = .ok (.ireturn, 1) := by decide +kernel
theorem dX7_count_61 : decode cX7_count 61 = .ok (.iload_n 1, 1) := by decide +kernel
theorem dX7_count_62 : decode cX7_count 62 = .ok (.bipush 10, 2) := by decide +kernel
theorem dX7_count_64 : decode cX7_count 64 = .ok (.if_icmp .ge 52, 3) := by decide +kernel
theorem dX7_count_67 : decode cX7_count 67 = .ok (.aload_n 0, 1) := by decide +kernel
theorem dX7_count_68 : decode cX7_count 68 = .ok (.getfield 7, 3) := by decide +kernel
theorem dX7_count_71 : decode cX7_count 71 = .ok (.iload_n 1, 1) := by decide +kernel
theorem dX7_count_72 : decode cX7_count 72 = .ok (.iconst 5, 1) := by decide +kernel
theorem dX7_count_73 : decode cX7_count 73 = .ok (.if_icmp .ne 7, 3) := by decide +kernel
theorem dX7_count_76 : decode cX7_count 76 = .ok (.iconst 1, 1) := by decide +kernel
theorem dX7_count_77 : decode cX7_count 77 = .ok (.goto 37, 3) := by decide +kernel
theorem dX7_count_80 : decode cX7_count 80 = .ok (.iload_n 1, 1) := by decide +kernel
theorem dX7_count_81 : decode cX7_count 81 = .ok (.bipush 6, 2) := by decide +kernel
theorem dX7_count_83 : decode cX7_count 83 = .ok (.if_icmp .ne 8, 3) := by decide +kernel
theorem dX7_count_86 : decode cX7_count 86 = .ok (.bipush 6, 2) := by decide +kernel
theorem dX7_count_88 : decode cX7_count 88 = .ok (.goto 26, 3) := by decide +kernel
theorem dX7_count_91 : decode cX7_count 91 = .ok (.iload_n 1, 1) := by decide +kernel
theorem dX7_count_92 : decode cX7_count 92 = .ok (.bipush 7, 2) := by decide +kernel
theorem dX7_count_94 : decode cX7_count 94 = .ok (.if_icmp .ne 8, 3) := by decide +kernel
theorem dX7_count_97 : decode cX7_count 97 = .ok (.bipush 11, 2) := by decide +kernel
theorem dX7_count_99 : decode cX7_count 99 = .ok (.goto 15, 3) := by decide +kernel
theorem dX7_count_102 : decode cX7_count 102 = .ok (.iload_n 1, 1) := by decide +kernel
theorem dX7_count_103 : decode cX7_count 103 = .ok (.bipush 8, 2) := by decide +kernel
theorem dX7_count_105 : decode cX7_count 105 = .ok (.if_icmp .ne 7, 3) := by decide +kernel
theorem dX7_count_108 : decode cX7_count 108 = .ok (.iconst 2, 1) := by decide +kernel
theorem dX7_count_109 : decode cX7_count 109 = .ok (.goto 5, 3) := by decide +kernel
theorem dX7_count_112 : decode cX7_count 112 = .ok (.bipush 7, 2) := by decide +kernel
theorem dX7_count_114 : decode cX7_count 114 = .ok (.iaload, 1) := by decide +kernel
theorem dX7_count_115 : decode cX7_count 115 = .ok (.ireturn, 1) := by decide +kernel
theorem dX7_count_116 : decode cX7_count 116 = .ok (.iload_n 1, 1) := by decide +kernel
theorem dX7_count_117 : decode cX7_count 117 = .ok (.bipush 10, 2) := by decide +kernel
theorem dX7_count_119 : decode cX7_count 119 = .ok (.if_icmp .ne 26, 3) := by decide +kernel
theorem dX7_count_122 : decode cX7_count 122 = .ok (.aload_n 0, 1) := by decide +kernel
theorem dX7_count_123 : decode cX7_count 123 = .ok (.getfield 7, 3) := by decide +kernel
theorem dX7_count_126 : decode cX7_count 126 = .ok (.bipush 8, 2) := by decide +kernel
theorem dX7_count_128 : decode cX7_count 128 = .ok (.iaload, 1) := by decide +kernel
theorem dX7_count_129 : decode cX7_count 129 = .ok (.ifCond .ne 8, 3) := by decide +kernel
theorem dX7_count_132 : decode cX7_count 132 = .ok (.bipush (-5), 2) := by decide +kernel
theorem dX7_count_134 : decode cX7_count 134 = .ok (.goto 10, 3) := by decide +kernel
theorem dX7_count_137 : decode cX7_count 137 = .ok (.aload_n 0, 1) := by decide +kernel
theorem dX7_count_138 : decode cX7_count 138 = .ok (.getfield 7, 3) := by decide +kernel
theorem dX7_count_141 : decode cX7_count 141 = .ok (.bipush 8, 2) := by decide +kernel
theorem dX7_count_143 : decode cX7_count 143 = .ok (.iaload, 1) := by decide +kernel
theorem dX7_count_144 : decode cX7_count 144 = .ok (.ireturn, 1) := by decide +kernel
theorem dX7_count_145 : decode cX7_count 145 = .ok (.iload_n 1, 1) := by decide +kernel
theorem dX7_count_146 : decode cX7_count 146 = .ok (.bipush 11, 2) := by decide +kernel
theorem dX7_count_148 : decode cX7_count 148 = .ok (.if_icmp .ne 8, 3) := by decide +kernel
theorem dX7_count_151 : decode cX7_count 151 = .ok (.aload_n 0, 1) := by decide +kernel
theorem dX7_count_152 : decode cX7_count 152 = .ok (.invokevirtual 136, 3) := by decide +kernel
theorem dX7_count_155 : decode cX7_count 155 = .ok (.ireturn, 1) := by decide +kernel
theorem dX7_count_156 : decode cX7_count 156 = .ok (.iload_n 1, 1) := by decide +kernel
theorem dX7_count_157 : decode cX7_count 157 = .ok (.bipush 14, 2) := by decide +kernel
theorem dX7_count_159 : decode cX7_count 159 = .ok (.if_icmp .ge 22, 3) := by decide +kernel
theorem dX7_count_162 : decode cX7_count 162 = .ok (.aload_n 0, 1) := by decide +kernel
theorem dX7_count_163 : decode cX7_count 163 = .ok (.getfield 7, 3) := by decide +kernel
theorem dX7_count_166 : decode cX7_count 166 = .ok (.iload_n 1, 1) := by decide +kernel
theorem dX7_count_167 : decode cX7_count 167 = .ok (.bipush 12, 2) := by decide +kernel
theorem dX7_count_169 : decode cX7_count 169 = .ok (.if_icmp .ne 8, 3) := by decide +kernel
theorem dX7_count_172 : decode cX7_count 172 = .ok (.bipush 9, 2) := by decide +kernel
theorem dX7_count_174 : decode cX7_count 174 = .ok (.goto 5, 3) := by decide +kernel
theorem dX7_count_177 : decode cX7_count 177 = .ok (.bipush 10, 2) := by decide +kernel
theorem dX7_count_179 : decode cX7_count 179 = .ok (.iaload, 1) := by decide +kernel
theorem dX7_count_180 : decode cX7_count 180 = .ok (.ireturn, 1) := by decide +kernel
theorem dX7_count_181 : decode cX7_count 181 = .ok (.iload_n 1, 1) := by decide +kernel
theorem dX7_count_182 : decode cX7_count 182 = .ok (.bipush 19, 2) := by decide +kernel
theorem dX7_count_184 : decode cX7_count 184 = .ok (.if_icmp .ge 16, 3) := by decide +kernel
theorem dX7_count_187 : decode cX7_count 187 = .ok (.aload_n 0, 1) := by decide +kernel
theorem dX7_count_188 : decode cX7_count 188 = .ok (.getfield 7, 3) := by decide +kernel
theorem dX7_count_191 : decode cX7_count 191 = .ok (.bipush 12, 2) := by decide +kernel
theorem dX7_count_193 : decode cX7_count 193 = .ok (.iload_n 1, 1) := by decide +kernel
theorem dX7_count_194 : decode cX7_count 194 = .ok (.iadd, 1) := by decide +kernel
theorem dX7_count_195 : decode cX7_count 195 = .ok (.bipush 14, 2) := by decide +kernel
theorem dX7_count_197 : decode cX7_count 197 = .ok (.isub, 1) := by decide +kernel
theorem dX7_count_198 : decode cX7_count 198 = .ok (.iaload, 1) := by decide +kernel
theorem dX7_count_199 : decode cX7_count 199 = .ok (.ireturn, 1) := by decide +kernel
theorem dX7_count_200 : decode cX7_count 200 = .ok (.iload_n 1, 1) := by decide +kernel
theorem dX7_count_201 : decode cX7_count 201 = .ok (.bipush 19, 2) := by decide +kernel
theorem dX7_count_203 : decode cX7_count 203 = .ok (.if_icmp .ne 10, 3) := by decide +kernel
theorem dX7_count_206 : decode cX7_count 206 = .ok (.aload_n 0, 1) := by decide +kernel
theorem dX7_count_207 : decode cX7_count 207 = .ok (.getfield 33, 3) := by decide +kernel
theorem dX7_count_210 : decode cX7_count 210 = .ok (.goto 7, 3) := by decide +kernel
theorem dX7_count_213 : decode cX7_count 213 = .ok (.aload_n 0, 1) := by decide +kernel
theorem dX7_count_214 : decode cX7_count 214 = .ok (.getfield 87, 3) := by decide +kernel
theorem dX7_count_217 : decode cX7_count 217 = .ok (.ireturn, 1) := by decide +kernel
theorem dJ9_max_7cf53_0 : decode cJ9_max_7cf53 0 = .ok (.iload_n 0, 1) := by decide +kernel
theorem dJ9_max_7cf53_1 : decode cJ9_max_7cf53 1 = .ok (.iload_n 1, 1) := by decide +kernel
theorem dJ9_max_7cf53_2 : decode cJ9_max_7cf53 2 = .ok (.if_icmp .lt 7, 3) := by decide +kernel
theorem dJ9_max_7cf53_5 : decode cJ9_max_7cf53 5 = .ok (.iload_n 0, 1) := by decide +kernel
theorem dJ9_max_7cf53_6 : decode cJ9_max_7cf53 6 = .ok (.goto 4, 3) := by decide +kernel
theorem dJ9_max_7cf53_9 : decode cJ9_max_7cf53 9 = .ok (.iload_n 1, 1) := by decide +kernel
theorem dJ9_max_7cf53_10 : decode cJ9_max_7cf53 10 = .ok (.ireturn, 1) := by decide +kernel
theorem dJ9_min_7cf53_0 : decode cJ9_min_7cf53 0 = .ok (.iload_n 0, 1) := by decide +kernel
theorem dJ9_min_7cf53_1 : decode cJ9_min_7cf53 1 = .ok (.iload_n 1, 1) := by decide +kernel
theorem dJ9_min_7cf53_2 : decode cJ9_min_7cf53 2 = .ok (.if_icmp .gt 7, 3) := by decide +kernel
theorem dJ9_min_7cf53_5 : decode cJ9_min_7cf53 5 = .ok (.iload_n 0, 1) := by decide +kernel
theorem dJ9_min_7cf53_6 : decode cJ9_min_7cf53 6 = .ok (.goto 4, 3) := by decide +kernel
theorem dJ9_min_7cf53_9 : decode cJ9_min_7cf53 9 = .ok (.iload_n 1, 1) := by decide +kernel
theorem dJ9_min_7cf53_10 : decode cJ9_min_7cf53 10 = .ok (.ireturn, 1) := by decide +kernel
theorem dJ9_min_f86c9_0 : decode cJ9_min_f86c9 0 = .ok (.lload_n 0, 1) := by decide +kernel
theorem dJ9_min_f86c9_1 : decode cJ9_min_f86c9 1 = .ok (.lload_n 2, 1) := by decide +kernel
theorem dJ9_min_f86c9_2 : decode cJ9_min_f86c9 2 = .ok (.lcmp, 1) := by decide +kernel
theorem dJ9_min_f86c9_3 : decode cJ9_min_f86c9 3 = .ok (.ifCond .gt 7, 3) := by decide +kernel
theorem dJ9_min_f86c9_6 : decode cJ9_min_f86c9 6 = .ok (.lload_n 0, 1) := by decide +kernel
theorem dJ9_min_f86c9_7 : decode cJ9_min_f86c9 7 = .ok (.goto 4, 3) := by decide +kernel
theorem dJ9_min_f86c9_10 : decode cJ9_min_f86c9 10 = .ok (.lload_n 2, 1) := by decide +kernel
theorem dJ9_min_f86c9_11 : decode cJ9_min_f86c9 11 = .ok (.lreturn, 1) := by decide +kernel
theorem dJ7_copyOf_59c91_0 : decode cJ7_copyOf_59c91 0 = .ok (.iload_n 1, 1) := by decide +kernel
theorem dJ7_copyOf_59c91_1 : decode cJ7_copyOf_59c91 1 = .ok (.aload_n 0, 1) := by decide +kernel
theorem dJ7_copyOf_59c91_2 : decode cJ7_copyOf_59c91 2 = .ok (.arraylength, 1) := by decide +kernel
theorem dJ7_copyOf_59c91_3 : decode cJ7_copyOf_59c91 3 = .ok (.if_icmp .ne 11, 3) := by decide +kernel
theorem dJ7_copyOf_59c91_6 : decode cJ7_copyOf_59c91 6 = .ok (.aload_n 0, 1) := by decide +kernel
theorem dJ7_copyOf_59c91_7 : decode cJ7_copyOf_59c91 7 = .ok (.invokevirtual 316, 3) := by decide +kernel
theorem dJ7_copyOf_59c91_10 : decode cJ7_copyOf_59c91 10 = .ok (.checkcast 317, 3) := by decide +kernel
theorem dJ7_copyOf_59c91_13 : decode cJ7_copyOf_59c91 13 = .ok (.areturn, 1) := by decide +kernel
theorem dJ7_copyOf_59c91_14 : decode cJ7_copyOf_59c91 14 = .ok (.iload_n 1, 1) := by decide +kernel
theorem dJ7_copyOf_59c91_15 : decode cJ7_copyOf_59c91 15 = .ok (.newarray .int, 2) := by decide +kernel
theorem dJ7_copyOf_59c91_17 : decode cJ7_copyOf_59c91 17 = .ok (.astore_n 2, 1) := by decide +kernel
theorem dJ7_copyOf_59c91_18 : decode cJ7_copyOf_59c91 18 = .ok (.aload_n 0, 1) := by decide +kernel
theorem dJ7_copyOf_59c91_19 : decode cJ7_copyOf_59c91 19 = .ok (.iconst 0, 1) := by decide +kernel
theorem dJ7_copyOf_59c91_20 : decode cJ7_copyOf_59c91 20 = .ok (.aload_n 2, 1) := by decide +kernel
theorem dJ7_copyOf_59c91_21 : decode cJ7_copyOf_59c91 21 = .ok (.iconst 0, 1) := by decide +kernel
theorem dJ7_copyOf_59c91_22 : decode cJ7_copyOf_59c91 22 = .ok (.aload_n 0, 1) := by decide +kernel
theorem dJ7_copyOf_59c91_23 : decode cJ7_copyOf_59c91 23 = .ok (.arraylength, 1) := by decide +kernel
theorem dJ7_copyOf_59c91_24 : decode cJ7_copyOf_59c91 24 = .ok (.iload_n 1, 1) := by decide +kernel
theorem dJ7_copyOf_59c91_25 : decode cJ7_copyOf_59c91 25 = .ok (.invokestatic 304, 3) := by decide +kernel
theorem dJ7_copyOf_59c91_28 : decode cJ7_copyOf_59c91 28 = .ok (.invokestatic 150, 3) := by decide +kernel
theorem dJ7_copyOf_59c91_31 : decode cJ7_copyOf_59c91 31 = .ok (.aload_n 2, 1) := by decide +kernel
theorem dJ7_copyOf_59c91_32 : decode cJ7_copyOf_59c91 32 = .ok (.areturn, 1) := by decide +kernel
theorem dL_law_0 : decode cL_law 0 = .ok (.new 7, 3) := by decide +kernel
theorem dL_law_3 : decode cL_law 3 = .ok (.dup, 1) := by decide +kernel
theorem dL_law_4 : decode cL_law 4 = .ok (.invokespecial 9, 3) := by decide +kernel
theorem dL_law_7 : decode cL_law 7 = .ok (.astore_n 1, 1) := by decide +kernel
theorem dL_law_8 : decode cL_law 8 = .ok (.new 10, 3) := by decide +kernel
theorem dL_law_11 : decode cL_law 11 = .ok (.dup, 1) := by decide +kernel
theorem dL_law_12 : decode cL_law 12 = .ok (.invokespecial 12, 3) := by decide +kernel
theorem dL_law_15 : decode cL_law 15 = .ok (.astore_n 2, 1) := by decide +kernel
theorem dL_law_16 : decode cL_law 16 = .ok (.iconst 0, 1) := by decide +kernel
theorem dL_law_17 : decode cL_law 17 = .ok (.istore_n 3, 1) := by decide +kernel
theorem dL_law_18 : decode cL_law 18 = .ok (.iload_n 3, 1) := by decide +kernel
theorem dL_law_19 : decode cL_law 19 = .ok (.aload_n 0, 1) := by decide +kernel
theorem dL_law_20 : decode cL_law 20 = .ok (.arraylength, 1) := by decide +kernel
theorem dL_law_21 : decode cL_law 21 = .ok (.iconst 4, 1) := by decide +kernel
theorem dL_law_22 : decode cL_law 22 = .ok (.isub, 1) := by decide +kernel
theorem dL_law_23 : decode cL_law 23 = .ok (.if_icmp .gt 722, 3) := by decide +kernel
theorem dL_law_26 : decode cL_law 26 = .ok (.aload_n 0, 1) := by decide +kernel
theorem dL_law_27 : decode cL_law 27 = .ok (.iload_n 3, 1) := by decide +kernel
theorem dL_law_28 : decode cL_law 28 = .ok (.iaload, 1) := by decide +kernel
theorem dL_law_29 : decode cL_law 29 = .ok (.bipush 31, 2) := by decide +kernel
theorem dL_law_31 : decode cL_law 31 = .ok (.iand, 1) := by decide +kernel
theorem dL_law_32 : decode cL_law 32 = .ok (.tableswitch 707 0 20 #[100, 133, 176, 199, 242, 285, 298, 321, 354, 387, 420, 433, 458, 471, 484, 497, 510, 543, 576, 635, 684], 100) := by decide +kernel
theorem dL_law_132 : decode cL_law 132 = .ok (.aload_n 1, 1) := by decide +kernel
theorem dL_law_133 : decode cL_law 133 = .ok (.aload_n 0, 1) := by decide +kernel
theorem dL_law_134 : decode cL_law 134 = .ok (.iload_n 3, 1) := by decide +kernel
theorem dL_law_135 : decode cL_law 135 = .ok (.iconst 1, 1) := by decide +kernel
theorem dL_law_136 : decode cL_law 136 = .ok (.iadd, 1) := by decide +kernel
theorem dL_law_137 : decode cL_law 137 = .ok (.iaload, 1) := by decide +kernel
theorem dL_law_138 : decode cL_law 138 = .ok (.aload_n 0, 1) := by decide +kernel
theorem dL_law_139 : decode cL_law 139 = .ok (.iload_n 3, 1) := by decide +kernel
theorem dL_law_140 : decode cL_law 140 = .ok (.iconst 2, 1) := by decide +kernel
theorem dL_law_141 : decode cL_law 141 = .ok (.iadd, 1) := by decide +kernel
theorem dL_law_142 : decode cL_law 142 = .ok (.iaload, 1) := by decide +kernel
theorem dL_law_143 : decode cL_law 143 = .ok (.invokevirtual 13, 3) := by decide +kernel
theorem dL_law_146 : decode cL_law 146 = .ok (.aload_n 2, 1) := by decide +kernel
theorem dL_law_147 : decode cL_law 147 = .ok (.aload_n 0, 1) := by decide +kernel
theorem dL_law_148 : decode cL_law 148 = .ok (.iload_n 3, 1) := by decide +kernel
theorem dL_law_149 : decode cL_law 149 = .ok (.iconst 1, 1) := by decide +kernel
theorem dL_law_150 : decode cL_law 150 = .ok (.iadd, 1) := by decide +kernel
theorem dL_law_151 : decode cL_law 151 = .ok (.iaload, 1) := by decide +kernel
theorem dL_law_152 : decode cL_law 152 = .ok (.aload_n 0, 1) := by decide +kernel
theorem dL_law_153 : decode cL_law 153 = .ok (.iload_n 3, 1) := by decide +kernel
theorem dL_law_154 : decode cL_law 154 = .ok (.iconst 2, 1) := by decide +kernel
theorem dL_law_155 : decode cL_law 155 = .ok (.iadd, 1) := by decide +kernel
theorem dL_law_156 : decode cL_law 156 = .ok (.iaload, 1) := by decide +kernel
theorem dL_law_157 : decode cL_law 157 = .ok (.invokevirtual 17, 3) := by decide +kernel
theorem dL_law_160 : decode cL_law 160 = .ok (.if_icmp .eq 579, 3) := by decide +kernel
theorem dL_law_163 : decode cL_law 163 = .ok (.iconst 0, 1) := by decide +kernel
theorem dL_law_164 : decode cL_law 164 = .ok (.ireturn, 1) := by decide +kernel
theorem dL_law_165 : decode cL_law 165 = .ok (.aload_n 1, 1) := by decide +kernel
theorem dL_law_166 : decode cL_law 166 = .ok (.aload_n 0, 1) := by decide +kernel
theorem dL_law_167 : decode cL_law 167 = .ok (.iload_n 3, 1) := by decide +kernel
theorem dL_law_168 : decode cL_law 168 = .ok (.iconst 1, 1) := by decide +kernel
theorem dL_law_169 : decode cL_law 169 = .ok (.iadd, 1) := by decide +kernel
theorem dL_law_170 : decode cL_law 170 = .ok (.iaload, 1) := by decide +kernel
theorem dL_law_171 : decode cL_law 171 = .ok (.aload_n 0, 1) := by decide +kernel
theorem dL_law_172 : decode cL_law 172 = .ok (.iload_n 3, 1) := by decide +kernel
theorem dL_law_173 : decode cL_law 173 = .ok (.iconst 2, 1) := by decide +kernel
theorem dL_law_174 : decode cL_law 174 = .ok (.iadd, 1) := by decide +kernel
theorem dL_law_175 : decode cL_law 175 = .ok (.iaload, 1) := by decide +kernel
theorem dL_law_176 : decode cL_law 176 = .ok (.aload_n 0, 1) := by decide +kernel
theorem dL_law_177 : decode cL_law 177 = .ok (.iload_n 3, 1) := by decide +kernel
theorem dL_law_178 : decode cL_law 178 = .ok (.iconst 3, 1) := by decide +kernel
theorem dL_law_179 : decode cL_law 179 = .ok (.iadd, 1) := by decide +kernel
theorem dL_law_180 : decode cL_law 180 = .ok (.iaload, 1) := by decide +kernel
theorem dL_law_181 : decode cL_law 181 = .ok (.invokevirtual 18, 3) := by decide +kernel
theorem dL_law_184 : decode cL_law 184 = .ok (.aload_n 2, 1) := by decide +kernel
theorem dL_law_185 : decode cL_law 185 = .ok (.aload_n 0, 1) := by decide +kernel
theorem dL_law_186 : decode cL_law 186 = .ok (.iload_n 3, 1) := by decide +kernel
theorem dL_law_187 : decode cL_law 187 = .ok (.iconst 1, 1) := by decide +kernel
theorem dL_law_188 : decode cL_law 188 = .ok (.iadd, 1) := by decide +kernel
theorem dL_law_189 : decode cL_law 189 = .ok (.iaload, 1) := by decide +kernel
theorem dL_law_190 : decode cL_law 190 = .ok (.aload_n 0, 1) := by decide +kernel
theorem dL_law_191 : decode cL_law 191 = .ok (.iload_n 3, 1) := by decide +kernel
theorem dL_law_192 : decode cL_law 192 = .ok (.iconst 2, 1) := by decide +kernel
theorem dL_law_193 : decode cL_law 193 = .ok (.iadd, 1) := by decide +kernel
theorem dL_law_194 : decode cL_law 194 = .ok (.iaload, 1) := by decide +kernel
theorem dL_law_195 : decode cL_law 195 = .ok (.aload_n 0, 1) := by decide +kernel
theorem dL_law_196 : decode cL_law 196 = .ok (.iload_n 3, 1) := by decide +kernel
theorem dL_law_197 : decode cL_law 197 = .ok (.iconst 3, 1) := by decide +kernel
theorem dL_law_198 : decode cL_law 198 = .ok (.iadd, 1) := by decide +kernel
theorem dL_law_199 : decode cL_law 199 = .ok (.iaload, 1) := by decide +kernel
theorem dL_law_200 : decode cL_law 200 = .ok (.invokevirtual 22, 3) := by decide +kernel
theorem dL_law_203 : decode cL_law 203 = .ok (.if_icmp .eq 536, 3) := by decide +kernel
theorem dL_law_206 : decode cL_law 206 = .ok (.iconst 0, 1) := by decide +kernel
theorem dL_law_207 : decode cL_law 207 = .ok (.ireturn, 1) := by decide +kernel
theorem dL_law_208 : decode cL_law 208 = .ok (.aload_n 1, 1) := by decide +kernel
theorem dL_law_209 : decode cL_law 209 = .ok (.aload_n 0, 1) := by decide +kernel
theorem dL_law_210 : decode cL_law 210 = .ok (.iload_n 3, 1) := by decide +kernel
theorem dL_law_211 : decode cL_law 211 = .ok (.iconst 1, 1) := by decide +kernel
theorem dL_law_212 : decode cL_law 212 = .ok (.iadd, 1) := by decide +kernel
theorem dL_law_213 : decode cL_law 213 = .ok (.iaload, 1) := by decide +kernel
theorem dL_law_214 : decode cL_law 214 = .ok (.invokevirtual 23, 3) := by decide +kernel
theorem dL_law_217 : decode cL_law 217 = .ok (.aload_n 2, 1) := by decide +kernel
theorem dL_law_218 : decode cL_law 218 = .ok (.aload_n 0, 1) := by decide +kernel
theorem dL_law_219 : decode cL_law 219 = .ok (.iload_n 3, 1) := by decide +kernel
theorem dL_law_220 : decode cL_law 220 = .ok (.iconst 1, 1) := by decide +kernel
theorem dL_law_221 : decode cL_law 221 = .ok (.iadd, 1) := by decide +kernel
theorem dL_law_222 : decode cL_law 222 = .ok (.iaload, 1) := by decide +kernel
theorem dL_law_223 : decode cL_law 223 = .ok (.invokevirtual 27, 3) := by decide +kernel
theorem dL_law_226 : decode cL_law 226 = .ok (.if_icmp .eq 513, 3) := by decide +kernel
theorem dL_law_229 : decode cL_law 229 = .ok (.iconst 0, 1) := by decide +kernel
theorem dL_law_230 : decode cL_law 230 = .ok (.ireturn, 1) := by decide +kernel
theorem dL_law_231 : decode cL_law 231 = .ok (.aload_n 1, 1) := by decide +kernel
theorem dL_law_232 : decode cL_law 232 = .ok (.aload_n 0, 1) := by decide +kernel
theorem dL_law_233 : decode cL_law 233 = .ok (.iload_n 3, 1) := by decide +kernel
theorem dL_law_234 : decode cL_law 234 = .ok (.iconst 1, 1) := by decide +kernel
theorem dL_law_235 : decode cL_law 235 = .ok (.iadd, 1) := by decide +kernel
theorem dL_law_236 : decode cL_law 236 = .ok (.iaload, 1) := by decide +kernel
theorem dL_law_237 : decode cL_law 237 = .ok (.aload_n 0, 1) := by decide +kernel
theorem dL_law_238 : decode cL_law 238 = .ok (.iload_n 3, 1) := by decide +kernel
theorem dL_law_239 : decode cL_law 239 = .ok (.iconst 2, 1) := by decide +kernel
theorem dL_law_240 : decode cL_law 240 = .ok (.iadd, 1) := by decide +kernel
theorem dL_law_241 : decode cL_law 241 = .ok (.iaload, 1) := by decide +kernel
theorem dL_law_242 : decode cL_law 242 = .ok (.aload_n 0, 1) := by decide +kernel
theorem dL_law_243 : decode cL_law 243 = .ok (.iload_n 3, 1) := by decide +kernel
theorem dL_law_244 : decode cL_law 244 = .ok (.iconst 3, 1) := by decide +kernel
theorem dL_law_245 : decode cL_law 245 = .ok (.iadd, 1) := by decide +kernel
theorem dL_law_246 : decode cL_law 246 = .ok (.iaload, 1) := by decide +kernel
theorem dL_law_247 : decode cL_law 247 = .ok (.invokevirtual 28, 3) := by decide +kernel
theorem dL_law_250 : decode cL_law 250 = .ok (.aload_n 2, 1) := by decide +kernel
theorem dL_law_251 : decode cL_law 251 = .ok (.aload_n 0, 1) := by decide +kernel
theorem dL_law_252 : decode cL_law 252 = .ok (.iload_n 3, 1) := by decide +kernel
theorem dL_law_253 : decode cL_law 253 = .ok (.iconst 1, 1) := by decide +kernel
theorem dL_law_254 : decode cL_law 254 = .ok (.iadd, 1) := by decide +kernel
theorem dL_law_255 : decode cL_law 255 = .ok (.iaload, 1) := by decide +kernel
theorem dL_law_256 : decode cL_law 256 = .ok (.aload_n 0, 1) := by decide +kernel
theorem dL_law_257 : decode cL_law 257 = .ok (.iload_n 3, 1) := by decide +kernel
theorem dL_law_258 : decode cL_law 258 = .ok (.iconst 2, 1) := by decide +kernel
theorem dL_law_259 : decode cL_law 259 = .ok (.iadd, 1) := by decide +kernel
theorem dL_law_260 : decode cL_law 260 = .ok (.iaload, 1) := by decide +kernel
theorem dL_law_261 : decode cL_law 261 = .ok (.aload_n 0, 1) := by decide +kernel
theorem dL_law_262 : decode cL_law 262 = .ok (.iload_n 3, 1) := by decide +kernel
theorem dL_law_263 : decode cL_law 263 = .ok (.iconst 3, 1) := by decide +kernel
theorem dL_law_264 : decode cL_law 264 = .ok (.iadd, 1) := by decide +kernel
theorem dL_law_265 : decode cL_law 265 = .ok (.iaload, 1) := by decide +kernel
theorem dL_law_266 : decode cL_law 266 = .ok (.invokevirtual 31, 3) := by decide +kernel
theorem dL_law_269 : decode cL_law 269 = .ok (.if_icmp .eq 470, 3) := by decide +kernel
theorem dL_law_272 : decode cL_law 272 = .ok (.iconst 0, 1) := by decide +kernel
theorem dL_law_273 : decode cL_law 273 = .ok (.ireturn, 1) := by decide +kernel
theorem dL_law_274 : decode cL_law 274 = .ok (.aload_n 1, 1) := by decide +kernel
theorem dL_law_275 : decode cL_law 275 = .ok (.aload_n 0, 1) := by decide +kernel
theorem dL_law_276 : decode cL_law 276 = .ok (.iload_n 3, 1) := by decide +kernel
theorem dL_law_277 : decode cL_law 277 = .ok (.iconst 1, 1) := by decide +kernel
theorem dL_law_278 : decode cL_law 278 = .ok (.iadd, 1) := by decide +kernel
theorem dL_law_279 : decode cL_law 279 = .ok (.iaload, 1) := by decide +kernel
theorem dL_law_280 : decode cL_law 280 = .ok (.aload_n 0, 1) := by decide +kernel
theorem dL_law_281 : decode cL_law 281 = .ok (.iload_n 3, 1) := by decide +kernel
theorem dL_law_282 : decode cL_law 282 = .ok (.iconst 2, 1) := by decide +kernel
theorem dL_law_283 : decode cL_law 283 = .ok (.iadd, 1) := by decide +kernel
theorem dL_law_284 : decode cL_law 284 = .ok (.iaload, 1) := by decide +kernel
theorem dL_law_285 : decode cL_law 285 = .ok (.aload_n 0, 1) := by decide +kernel
theorem dL_law_286 : decode cL_law 286 = .ok (.iload_n 3, 1) := by decide +kernel
theorem dL_law_287 : decode cL_law 287 = .ok (.iconst 3, 1) := by decide +kernel
theorem dL_law_288 : decode cL_law 288 = .ok (.iadd, 1) := by decide +kernel
theorem dL_law_289 : decode cL_law 289 = .ok (.iaload, 1) := by decide +kernel
theorem dL_law_290 : decode cL_law 290 = .ok (.invokevirtual 32, 3) := by decide +kernel
theorem dL_law_293 : decode cL_law 293 = .ok (.aload_n 2, 1) := by decide +kernel
theorem dL_law_294 : decode cL_law 294 = .ok (.aload_n 0, 1) := by decide +kernel
theorem dL_law_295 : decode cL_law 295 = .ok (.iload_n 3, 1) := by decide +kernel
theorem dL_law_296 : decode cL_law 296 = .ok (.iconst 1, 1) := by decide +kernel
theorem dL_law_297 : decode cL_law 297 = .ok (.iadd, 1) := by decide +kernel
theorem dL_law_298 : decode cL_law 298 = .ok (.iaload, 1) := by decide +kernel
theorem dL_law_299 : decode cL_law 299 = .ok (.aload_n 0, 1) := by decide +kernel
theorem dL_law_300 : decode cL_law 300 = .ok (.iload_n 3, 1) := by decide +kernel
theorem dL_law_301 : decode cL_law 301 = .ok (.iconst 2, 1) := by decide +kernel
theorem dL_law_302 : decode cL_law 302 = .ok (.iadd, 1) := by decide +kernel
theorem dL_law_303 : decode cL_law 303 = .ok (.iaload, 1) := by decide +kernel
theorem dL_law_304 : decode cL_law 304 = .ok (.aload_n 0, 1) := by decide +kernel
theorem dL_law_305 : decode cL_law 305 = .ok (.iload_n 3, 1) := by decide +kernel
theorem dL_law_306 : decode cL_law 306 = .ok (.iconst 3, 1) := by decide +kernel
theorem dL_law_307 : decode cL_law 307 = .ok (.iadd, 1) := by decide +kernel
theorem dL_law_308 : decode cL_law 308 = .ok (.iaload, 1) := by decide +kernel
theorem dL_law_309 : decode cL_law 309 = .ok (.invokevirtual 35, 3) := by decide +kernel
theorem dL_law_312 : decode cL_law 312 = .ok (.if_icmp .eq 427, 3) := by decide +kernel
theorem dL_law_315 : decode cL_law 315 = .ok (.iconst 0, 1) := by decide +kernel
theorem dL_law_316 : decode cL_law 316 = .ok (.ireturn, 1) := by decide +kernel
theorem dL_law_317 : decode cL_law 317 = .ok (.aload_n 1, 1) := by decide +kernel
theorem dL_law_318 : decode cL_law 318 = .ok (.invokevirtual 36, 3) := by decide +kernel
theorem dL_law_321 : decode cL_law 321 = .ok (.aload_n 2, 1) := by decide +kernel
theorem dL_law_322 : decode cL_law 322 = .ok (.invokevirtual 40, 3) := by decide +kernel
theorem dL_law_325 : decode cL_law 325 = .ok (.if_icmp .eq 414, 3) := by decide +kernel
theorem dL_law_328 : decode cL_law 328 = .ok (.iconst 0, 1) := by decide +kernel
theorem dL_law_329 : decode cL_law 329 = .ok (.ireturn, 1) := by decide +kernel
theorem dL_law_330 : decode cL_law 330 = .ok (.aload_n 1, 1) := by decide +kernel
theorem dL_law_331 : decode cL_law 331 = .ok (.aload_n 0, 1) := by decide +kernel
theorem dL_law_332 : decode cL_law 332 = .ok (.iload_n 3, 1) := by decide +kernel
theorem dL_law_333 : decode cL_law 333 = .ok (.iconst 1, 1) := by decide +kernel
theorem dL_law_334 : decode cL_law 334 = .ok (.iadd, 1) := by decide +kernel
theorem dL_law_335 : decode cL_law 335 = .ok (.iaload, 1) := by decide +kernel
theorem dL_law_336 : decode cL_law 336 = .ok (.invokevirtual 41, 3) := by decide +kernel
theorem dL_law_339 : decode cL_law 339 = .ok (.aload_n 2, 1) := by decide +kernel
theorem dL_law_340 : decode cL_law 340 = .ok (.aload_n 0, 1) := by decide +kernel
theorem dL_law_341 : decode cL_law 341 = .ok (.iload_n 3, 1) := by decide +kernel
theorem dL_law_342 : decode cL_law 342 = .ok (.iconst 1, 1) := by decide +kernel
theorem dL_law_343 : decode cL_law 343 = .ok (.iadd, 1) := by decide +kernel
theorem dL_law_344 : decode cL_law 344 = .ok (.iaload, 1) := by decide +kernel
theorem dL_law_345 : decode cL_law 345 = .ok (.invokevirtual 44, 3) := by decide +kernel
theorem dL_law_348 : decode cL_law 348 = .ok (.if_icmp .eq 391, 3) := by decide +kernel
theorem dL_law_351 : decode cL_law 351 = .ok (.iconst 0, 1) := by decide +kernel
theorem dL_law_352 : decode cL_law 352 = .ok (.ireturn, 1) := by decide +kernel
theorem dL_law_353 : decode cL_law 353 = .ok (.aload_n 1, 1) := by decide +kernel
theorem dL_law_354 : decode cL_law 354 = .ok (.aload_n 0, 1) := by decide +kernel
theorem dL_law_355 : decode cL_law 355 = .ok (.iload_n 3, 1) := by decide +kernel
theorem dL_law_356 : decode cL_law 356 = .ok (.iconst 1, 1) := by decide +kernel
theorem dL_law_357 : decode cL_law 357 = .ok (.iadd, 1) := by decide +kernel
theorem dL_law_358 : decode cL_law 358 = .ok (.iaload, 1) := by decide +kernel
theorem dL_law_359 : decode cL_law 359 = .ok (.aload_n 0, 1) := by decide +kernel
theorem dL_law_360 : decode cL_law 360 = .ok (.iload_n 3, 1) := by decide +kernel
theorem dL_law_361 : decode cL_law 361 = .ok (.iconst 2, 1) := by decide +kernel
theorem dL_law_362 : decode cL_law 362 = .ok (.iadd, 1) := by decide +kernel
theorem dL_law_363 : decode cL_law 363 = .ok (.iaload, 1) := by decide +kernel
theorem dL_law_364 : decode cL_law 364 = .ok (.invokevirtual 45, 3) := by decide +kernel
theorem dL_law_367 : decode cL_law 367 = .ok (.aload_n 2, 1) := by decide +kernel
theorem dL_law_368 : decode cL_law 368 = .ok (.aload_n 0, 1) := by decide +kernel
theorem dL_law_369 : decode cL_law 369 = .ok (.iload_n 3, 1) := by decide +kernel
theorem dL_law_370 : decode cL_law 370 = .ok (.iconst 1, 1) := by decide +kernel
theorem dL_law_371 : decode cL_law 371 = .ok (.iadd, 1) := by decide +kernel
theorem dL_law_372 : decode cL_law 372 = .ok (.iaload, 1) := by decide +kernel
theorem dL_law_373 : decode cL_law 373 = .ok (.aload_n 0, 1) := by decide +kernel
theorem dL_law_374 : decode cL_law 374 = .ok (.iload_n 3, 1) := by decide +kernel
theorem dL_law_375 : decode cL_law 375 = .ok (.iconst 2, 1) := by decide +kernel
theorem dL_law_376 : decode cL_law 376 = .ok (.iadd, 1) := by decide +kernel
theorem dL_law_377 : decode cL_law 377 = .ok (.iaload, 1) := by decide +kernel
theorem dL_law_378 : decode cL_law 378 = .ok (.invokevirtual 48, 3) := by decide +kernel
theorem dL_law_381 : decode cL_law 381 = .ok (.if_icmp .eq 358, 3) := by decide +kernel
theorem dL_law_384 : decode cL_law 384 = .ok (.iconst 0, 1) := by decide +kernel
theorem dL_law_385 : decode cL_law 385 = .ok (.ireturn, 1) := by decide +kernel
theorem dL_law_386 : decode cL_law 386 = .ok (.aload_n 1, 1) := by decide +kernel
theorem dL_law_387 : decode cL_law 387 = .ok (.aload_n 0, 1) := by decide +kernel
theorem dL_law_388 : decode cL_law 388 = .ok (.iload_n 3, 1) := by decide +kernel
theorem dL_law_389 : decode cL_law 389 = .ok (.iconst 1, 1) := by decide +kernel
theorem dL_law_390 : decode cL_law 390 = .ok (.iadd, 1) := by decide +kernel
theorem dL_law_391 : decode cL_law 391 = .ok (.iaload, 1) := by decide +kernel
theorem dL_law_392 : decode cL_law 392 = .ok (.aload_n 0, 1) := by decide +kernel
theorem dL_law_393 : decode cL_law 393 = .ok (.iload_n 3, 1) := by decide +kernel
theorem dL_law_394 : decode cL_law 394 = .ok (.iconst 2, 1) := by decide +kernel
theorem dL_law_395 : decode cL_law 395 = .ok (.iadd, 1) := by decide +kernel
theorem dL_law_396 : decode cL_law 396 = .ok (.iaload, 1) := by decide +kernel
theorem dL_law_397 : decode cL_law 397 = .ok (.invokevirtual 49, 3) := by decide +kernel
theorem dL_law_400 : decode cL_law 400 = .ok (.aload_n 2, 1) := by decide +kernel
theorem dL_law_401 : decode cL_law 401 = .ok (.aload_n 0, 1) := by decide +kernel
theorem dL_law_402 : decode cL_law 402 = .ok (.iload_n 3, 1) := by decide +kernel
theorem dL_law_403 : decode cL_law 403 = .ok (.iconst 1, 1) := by decide +kernel
theorem dL_law_404 : decode cL_law 404 = .ok (.iadd, 1) := by decide +kernel
theorem dL_law_405 : decode cL_law 405 = .ok (.iaload, 1) := by decide +kernel
theorem dL_law_406 : decode cL_law 406 = .ok (.aload_n 0, 1) := by decide +kernel
theorem dL_law_407 : decode cL_law 407 = .ok (.iload_n 3, 1) := by decide +kernel
theorem dL_law_408 : decode cL_law 408 = .ok (.iconst 2, 1) := by decide +kernel
theorem dL_law_409 : decode cL_law 409 = .ok (.iadd, 1) := by decide +kernel
theorem dL_law_410 : decode cL_law 410 = .ok (.iaload, 1) := by decide +kernel
theorem dL_law_411 : decode cL_law 411 = .ok (.invokevirtual 52, 3) := by decide +kernel
theorem dL_law_414 : decode cL_law 414 = .ok (.if_icmp .eq 325, 3) := by decide +kernel
theorem dL_law_417 : decode cL_law 417 = .ok (.iconst 0, 1) := by decide +kernel
theorem dL_law_418 : decode cL_law 418 = .ok (.ireturn, 1) := by decide +kernel
theorem dL_law_419 : decode cL_law 419 = .ok (.aload_n 1, 1) := by decide +kernel
theorem dL_law_420 : decode cL_law 420 = .ok (.aload_n 0, 1) := by decide +kernel
theorem dL_law_421 : decode cL_law 421 = .ok (.iload_n 3, 1) := by decide +kernel
theorem dL_law_422 : decode cL_law 422 = .ok (.iconst 1, 1) := by decide +kernel
theorem dL_law_423 : decode cL_law 423 = .ok (.iadd, 1) := by decide +kernel
theorem dL_law_424 : decode cL_law 424 = .ok (.iaload, 1) := by decide +kernel
theorem dL_law_425 : decode cL_law 425 = .ok (.aload_n 0, 1) := by decide +kernel
theorem dL_law_426 : decode cL_law 426 = .ok (.iload_n 3, 1) := by decide +kernel
theorem dL_law_427 : decode cL_law 427 = .ok (.iconst 2, 1) := by decide +kernel
theorem dL_law_428 : decode cL_law 428 = .ok (.iadd, 1) := by decide +kernel
theorem dL_law_429 : decode cL_law 429 = .ok (.iaload, 1) := by decide +kernel
theorem dL_law_430 : decode cL_law 430 = .ok (.invokevirtual 53, 3) := by decide +kernel
theorem dL_law_433 : decode cL_law 433 = .ok (.aload_n 2, 1) := by decide +kernel
theorem dL_law_434 : decode cL_law 434 = .ok (.aload_n 0, 1) := by decide +kernel
theorem dL_law_435 : decode cL_law 435 = .ok (.iload_n 3, 1) := by decide +kernel
theorem dL_law_436 : decode cL_law 436 = .ok (.iconst 1, 1) := by decide +kernel
theorem dL_law_437 : decode cL_law 437 = .ok (.iadd, 1) := by decide +kernel
theorem dL_law_438 : decode cL_law 438 = .ok (.iaload, 1) := by decide +kernel
theorem dL_law_439 : decode cL_law 439 = .ok (.aload_n 0, 1) := by decide +kernel
theorem dL_law_440 : decode cL_law 440 = .ok (.iload_n 3, 1) := by decide +kernel
theorem dL_law_441 : decode cL_law 441 = .ok (.iconst 2, 1) := by decide +kernel
theorem dL_law_442 : decode cL_law 442 = .ok (.iadd, 1) := by decide +kernel
theorem dL_law_443 : decode cL_law 443 = .ok (.iaload, 1) := by decide +kernel
theorem dL_law_444 : decode cL_law 444 = .ok (.invokevirtual 56, 3) := by decide +kernel
theorem dL_law_447 : decode cL_law 447 = .ok (.if_icmp .eq 292, 3) := by decide +kernel
theorem dL_law_450 : decode cL_law 450 = .ok (.iconst 0, 1) := by decide +kernel
theorem dL_law_451 : decode cL_law 451 = .ok (.ireturn, 1) := by decide +kernel
theorem dL_law_452 : decode cL_law 452 = .ok (.aload_n 1, 1) := by decide +kernel
theorem dL_law_453 : decode cL_law 453 = .ok (.invokevirtual 57, 3) := by decide +kernel
theorem dL_law_456 : decode cL_law 456 = .ok (.aload_n 2, 1) := by decide +kernel
theorem dL_law_457 : decode cL_law 457 = .ok (.invokevirtual 60, 3) := by decide +kernel
theorem dL_law_460 : decode cL_law 460 = .ok (.if_icmp .eq 279, 3) := by decide +kernel
theorem dL_law_463 : decode cL_law 463 = .ok (.iconst 0, 1) := by decide +kernel
theorem dL_law_464 : decode cL_law 464 = .ok (.ireturn, 1) := by decide +kernel
theorem dL_law_465 : decode cL_law 465 = .ok (.aload_n 1, 1) := by decide +kernel
theorem dL_law_466 : decode cL_law 466 = .ok (.aload_n 0, 1) := by decide +kernel
theorem dL_law_467 : decode cL_law 467 = .ok (.iload_n 3, 1) := by decide +kernel
theorem dL_law_468 : decode cL_law 468 = .ok (.iconst 1, 1) := by decide +kernel
theorem dL_law_469 : decode cL_law 469 = .ok (.iadd, 1) := by decide +kernel
theorem dL_law_470 : decode cL_law 470 = .ok (.iaload, 1) := by decide +kernel
theorem dL_law_471 : decode cL_law 471 = .ok (.i2c, 1) := by decide +kernel
theorem dL_law_472 : decode cL_law 472 = .ok (.invokevirtual 61, 3) := by decide +kernel
theorem dL_law_475 : decode cL_law 475 = .ok (.aload_n 2, 1) := by decide +kernel
theorem dL_law_476 : decode cL_law 476 = .ok (.aload_n 0, 1) := by decide +kernel
theorem dL_law_477 : decode cL_law 477 = .ok (.iload_n 3, 1) := by decide +kernel
theorem dL_law_478 : decode cL_law 478 = .ok (.iconst 1, 1) := by decide +kernel
theorem dL_law_479 : decode cL_law 479 = .ok (.iadd, 1) := by decide +kernel
theorem dL_law_480 : decode cL_law 480 = .ok (.iaload, 1) := by decide +kernel
theorem dL_law_481 : decode cL_law 481 = .ok (.i2c, 1) := by decide +kernel
theorem dL_law_482 : decode cL_law 482 = .ok (.invokevirtual 65, 3) := by decide +kernel
theorem dL_law_485 : decode cL_law 485 = .ok (.if_icmp .eq 254, 3) := by decide +kernel
theorem dL_law_488 : decode cL_law 488 = .ok (.iconst 0, 1) := by decide +kernel
theorem dL_law_489 : decode cL_law 489 = .ok (.ireturn, 1) := by decide +kernel
theorem dL_law_490 : decode cL_law 490 = .ok (.aload_n 1, 1) := by decide +kernel
theorem dL_law_491 : decode cL_law 491 = .ok (.invokevirtual 66, 3) := by decide +kernel
theorem dL_law_494 : decode cL_law 494 = .ok (.aload_n 2, 1) := by decide +kernel
theorem dL_law_495 : decode cL_law 495 = .ok (.invokevirtual 69, 3) := by decide +kernel
theorem dL_law_498 : decode cL_law 498 = .ok (.if_icmp .eq 241, 3) := by decide +kernel
theorem dL_law_501 : decode cL_law 501 = .ok (.iconst 0, 1) := by decide +kernel
theorem dL_law_502 : decode cL_law 502 = .ok (.ireturn, 1) := by decide +kernel
theorem dL_law_503 : decode cL_law 503 = .ok (.aload_n 1, 1) := by decide +kernel
theorem dL_law_504 : decode cL_law 504 = .ok (.invokevirtual 70, 3) := by decide +kernel
theorem dL_law_507 : decode cL_law 507 = .ok (.aload_n 2, 1) := by decide +kernel
theorem dL_law_508 : decode cL_law 508 = .ok (.invokevirtual 73, 3) := by decide +kernel
theorem dL_law_511 : decode cL_law 511 = .ok (.if_icmp .eq 228, 3) := by decide +kernel
theorem dL_law_514 : decode cL_law 514 = .ok (.iconst 0, 1) := by decide +kernel
theorem dL_law_515 : decode cL_law 515 = .ok (.ireturn, 1) := by decide +kernel
theorem dL_law_516 : decode cL_law 516 = .ok (.aload_n 1, 1) := by decide +kernel
theorem dL_law_517 : decode cL_law 517 = .ok (.invokevirtual 74, 3) := by decide +kernel
theorem dL_law_520 : decode cL_law 520 = .ok (.aload_n 2, 1) := by decide +kernel
theorem dL_law_521 : decode cL_law 521 = .ok (.invokevirtual 77, 3) := by decide +kernel
theorem dL_law_524 : decode cL_law 524 = .ok (.if_icmp .eq 215, 3) := by decide +kernel
theorem dL_law_527 : decode cL_law 527 = .ok (.iconst 0, 1) := by decide +kernel
theorem dL_law_528 : decode cL_law 528 = .ok (.ireturn, 1) := by decide +kernel
theorem dL_law_529 : decode cL_law 529 = .ok (.aload_n 1, 1) := by decide +kernel
theorem dL_law_530 : decode cL_law 530 = .ok (.invokevirtual 78, 3) := by decide +kernel
theorem dL_law_533 : decode cL_law 533 = .ok (.aload_n 2, 1) := by decide +kernel
theorem dL_law_534 : decode cL_law 534 = .ok (.invokevirtual 81, 3) := by decide +kernel
theorem dL_law_537 : decode cL_law 537 = .ok (.if_icmp .eq 202, 3) := by decide +kernel
theorem dL_law_540 : decode cL_law 540 = .ok (.iconst 0, 1) := by decide +kernel
theorem dL_law_541 : decode cL_law 541 = .ok (.ireturn, 1) := by decide +kernel
theorem dL_law_542 : decode cL_law 542 = .ok (.aload_n 1, 1) := by decide +kernel
theorem dL_law_543 : decode cL_law 543 = .ok (.aload_n 0, 1) := by decide +kernel
theorem dL_law_544 : decode cL_law 544 = .ok (.iload_n 3, 1) := by decide +kernel
theorem dL_law_545 : decode cL_law 545 = .ok (.iconst 1, 1) := by decide +kernel
theorem dL_law_546 : decode cL_law 546 = .ok (.iadd, 1) := by decide +kernel
theorem dL_law_547 : decode cL_law 547 = .ok (.iaload, 1) := by decide +kernel
theorem dL_law_548 : decode cL_law 548 = .ok (.aload_n 0, 1) := by decide +kernel
theorem dL_law_549 : decode cL_law 549 = .ok (.iload_n 3, 1) := by decide +kernel
theorem dL_law_550 : decode cL_law 550 = .ok (.iconst 2, 1) := by decide +kernel
theorem dL_law_551 : decode cL_law 551 = .ok (.iadd, 1) := by decide +kernel
theorem dL_law_552 : decode cL_law 552 = .ok (.iaload, 1) := by decide +kernel
theorem dL_law_553 : decode cL_law 553 = .ok (.invokevirtual 82, 3) := by decide +kernel
theorem dL_law_556 : decode cL_law 556 = .ok (.aload_n 2, 1) := by decide +kernel
theorem dL_law_557 : decode cL_law 557 = .ok (.aload_n 0, 1) := by decide +kernel
theorem dL_law_558 : decode cL_law 558 = .ok (.iload_n 3, 1) := by decide +kernel
theorem dL_law_559 : decode cL_law 559 = .ok (.iconst 1, 1) := by decide +kernel
theorem dL_law_560 : decode cL_law 560 = .ok (.iadd, 1) := by decide +kernel
theorem dL_law_561 : decode cL_law 561 = .ok (.iaload, 1) := by decide +kernel
theorem dL_law_562 : decode cL_law 562 = .ok (.aload_n 0, 1) := by decide +kernel
theorem dL_law_563 : decode cL_law 563 = .ok (.iload_n 3, 1) := by decide +kernel
theorem dL_law_564 : decode cL_law 564 = .ok (.iconst 2, 1) := by decide +kernel
theorem dL_law_565 : decode cL_law 565 = .ok (.iadd, 1) := by decide +kernel
theorem dL_law_566 : decode cL_law 566 = .ok (.iaload, 1) := by decide +kernel
theorem dL_law_567 : decode cL_law 567 = .ok (.invokevirtual 85, 3) := by decide +kernel
theorem dL_law_570 : decode cL_law 570 = .ok (.if_icmp .eq 169, 3) := by decide +kernel
theorem dL_law_573 : decode cL_law 573 = .ok (.iconst 0, 1) := by decide +kernel
theorem dL_law_574 : decode cL_law 574 = .ok (.ireturn, 1) := by decide +kernel
theorem dL_law_575 : decode cL_law 575 = .ok (.aload_n 1, 1) := by decide +kernel
theorem dL_law_576 : decode cL_law 576 = .ok (.aload_n 0, 1) := by decide +kernel
theorem dL_law_577 : decode cL_law 577 = .ok (.iload_n 3, 1) := by decide +kernel
theorem dL_law_578 : decode cL_law 578 = .ok (.iconst 1, 1) := by decide +kernel
theorem dL_law_579 : decode cL_law 579 = .ok (.iadd, 1) := by decide +kernel
theorem dL_law_580 : decode cL_law 580 = .ok (.iaload, 1) := by decide +kernel
theorem dL_law_581 : decode cL_law 581 = .ok (.aload_n 0, 1) := by decide +kernel
theorem dL_law_582 : decode cL_law 582 = .ok (.iload_n 3, 1) := by decide +kernel
theorem dL_law_583 : decode cL_law 583 = .ok (.iconst 2, 1) := by decide +kernel
theorem dL_law_584 : decode cL_law 584 = .ok (.iadd, 1) := by decide +kernel
theorem dL_law_585 : decode cL_law 585 = .ok (.iaload, 1) := by decide +kernel
theorem dL_law_586 : decode cL_law 586 = .ok (.invokevirtual 86, 3) := by decide +kernel
theorem dL_law_589 : decode cL_law 589 = .ok (.aload_n 2, 1) := by decide +kernel
theorem dL_law_590 : decode cL_law 590 = .ok (.aload_n 0, 1) := by decide +kernel
theorem dL_law_591 : decode cL_law 591 = .ok (.iload_n 3, 1) := by decide +kernel
theorem dL_law_592 : decode cL_law 592 = .ok (.iconst 1, 1) := by decide +kernel
theorem dL_law_593 : decode cL_law 593 = .ok (.iadd, 1) := by decide +kernel
theorem dL_law_594 : decode cL_law 594 = .ok (.iaload, 1) := by decide +kernel
theorem dL_law_595 : decode cL_law 595 = .ok (.aload_n 0, 1) := by decide +kernel
theorem dL_law_596 : decode cL_law 596 = .ok (.iload_n 3, 1) := by decide +kernel
theorem dL_law_597 : decode cL_law 597 = .ok (.iconst 2, 1) := by decide +kernel
theorem dL_law_598 : decode cL_law 598 = .ok (.iadd, 1) := by decide +kernel
theorem dL_law_599 : decode cL_law 599 = .ok (.iaload, 1) := by decide +kernel
theorem dL_law_600 : decode cL_law 600 = .ok (.invokevirtual 89, 3) := by decide +kernel
theorem dL_law_603 : decode cL_law 603 = .ok (.if_icmp .eq 136, 3) := by decide +kernel
theorem dL_law_606 : decode cL_law 606 = .ok (.iconst 0, 1) := by decide +kernel
theorem dL_law_607 : decode cL_law 607 = .ok (.ireturn, 1) := by decide +kernel
theorem dL_law_608 : decode cL_law 608 = .ok (.aload_n 1, 1) := by decide +kernel
theorem dL_law_609 : decode cL_law 609 = .ok (.aload_n 0, 1) := by decide +kernel
theorem dL_law_610 : decode cL_law 610 = .ok (.iload_n 3, 1) := by decide +kernel
theorem dL_law_611 : decode cL_law 611 = .ok (.iconst 1, 1) := by decide +kernel
theorem dL_law_612 : decode cL_law 612 = .ok (.iadd, 1) := by decide +kernel
theorem dL_law_613 : decode cL_law 613 = .ok (.iaload, 1) := by decide +kernel
theorem dL_law_614 : decode cL_law 614 = .ok (.ifCond .eq 7, 3) := by decide +kernel
theorem dL_law_617 : decode cL_law 617 = .ok (.iconst 1, 1) := by decide +kernel
theorem dL_law_618 : decode cL_law 618 = .ok (.goto 4, 3) := by decide +kernel
theorem dL_law_621 : decode cL_law 621 = .ok (.iconst 0, 1) := by decide +kernel
theorem dL_law_622 : decode cL_law 622 = .ok (.aload_n 0, 1) := by decide +kernel
theorem dL_law_623 : decode cL_law 623 = .ok (.iload_n 3, 1) := by decide +kernel
theorem dL_law_624 : decode cL_law 624 = .ok (.iconst 2, 1) := by decide +kernel
theorem dL_law_625 : decode cL_law 625 = .ok (.iadd, 1) := by decide +kernel
theorem dL_law_626 : decode cL_law 626 = .ok (.iaload, 1) := by decide +kernel
theorem dL_law_627 : decode cL_law 627 = .ok (.aload_n 0, 1) := by decide +kernel
theorem dL_law_628 : decode cL_law 628 = .ok (.iload_n 3, 1) := by decide +kernel
theorem dL_law_629 : decode cL_law 629 = .ok (.iconst 3, 1) := by decide +kernel
theorem dL_law_630 : decode cL_law 630 = .ok (.iadd, 1) := by decide +kernel
theorem dL_law_631 : decode cL_law 631 = .ok (.iaload, 1) := by decide +kernel
theorem dL_law_632 : decode cL_law 632 = .ok (.invokevirtual 90, 3) := by decide +kernel
theorem dL_law_635 : decode cL_law 635 = .ok (.aload_n 2, 1) := by decide +kernel
theorem dL_law_636 : decode cL_law 636 = .ok (.aload_n 0, 1) := by decide +kernel
theorem dL_law_637 : decode cL_law 637 = .ok (.iload_n 3, 1) := by decide +kernel
theorem dL_law_638 : decode cL_law 638 = .ok (.iconst 1, 1) := by decide +kernel
theorem dL_law_639 : decode cL_law 639 = .ok (.iadd, 1) := by decide +kernel
theorem dL_law_640 : decode cL_law 640 = .ok (.iaload, 1) := by decide +kernel
theorem dL_law_641 : decode cL_law 641 = .ok (.ifCond .eq 7, 3) := by decide +kernel
theorem dL_law_644 : decode cL_law 644 = .ok (.iconst 1, 1) := by decide +kernel
theorem dL_law_645 : decode cL_law 645 = .ok (.goto 4, 3) := by decide +kernel
theorem dL_law_648 : decode cL_law 648 = .ok (.iconst 0, 1) := by decide +kernel
theorem dL_law_649 : decode cL_law 649 = .ok (.aload_n 0, 1) := by decide +kernel
theorem dL_law_650 : decode cL_law 650 = .ok (.iload_n 3, 1) := by decide +kernel
theorem dL_law_651 : decode cL_law 651 = .ok (.iconst 2, 1) := by decide +kernel
theorem dL_law_652 : decode cL_law 652 = .ok (.iadd, 1) := by decide +kernel
theorem dL_law_653 : decode cL_law 653 = .ok (.iaload, 1) := by decide +kernel
theorem dL_law_654 : decode cL_law 654 = .ok (.aload_n 0, 1) := by decide +kernel
theorem dL_law_655 : decode cL_law 655 = .ok (.iload_n 3, 1) := by decide +kernel
theorem dL_law_656 : decode cL_law 656 = .ok (.iconst 3, 1) := by decide +kernel
theorem dL_law_657 : decode cL_law 657 = .ok (.iadd, 1) := by decide +kernel
theorem dL_law_658 : decode cL_law 658 = .ok (.iaload, 1) := by decide +kernel
theorem dL_law_659 : decode cL_law 659 = .ok (.invokevirtual 94, 3) := by decide +kernel
theorem dL_law_662 : decode cL_law 662 = .ok (.if_icmp .eq 77, 3) := by decide +kernel
theorem dL_law_665 : decode cL_law 665 = .ok (.iconst 0, 1) := by decide +kernel
theorem dL_law_666 : decode cL_law 666 = .ok (.ireturn, 1) := by decide +kernel
theorem dL_law_667 : decode cL_law 667 = .ok (.aload_n 1, 1) := by decide +kernel
theorem dL_law_668 : decode cL_law 668 = .ok (.aload_n 0, 1) := by decide +kernel
theorem dL_law_669 : decode cL_law 669 = .ok (.iload_n 3, 1) := by decide +kernel
theorem dL_law_670 : decode cL_law 670 = .ok (.iconst 1, 1) := by decide +kernel
theorem dL_law_671 : decode cL_law 671 = .ok (.iadd, 1) := by decide +kernel
theorem dL_law_672 : decode cL_law 672 = .ok (.iaload, 1) := by decide +kernel
theorem dL_law_673 : decode cL_law 673 = .ok (.ifCond .eq 7, 3) := by decide +kernel
theorem dL_law_676 : decode cL_law 676 = .ok (.iconst 1, 1) := by decide +kernel
theorem dL_law_677 : decode cL_law 677 = .ok (.goto 4, 3) := by decide +kernel
theorem dL_law_680 : decode cL_law 680 = .ok (.iconst 0, 1) := by decide +kernel
theorem dL_law_681 : decode cL_law 681 = .ok (.aload_n 0, 1) := by decide +kernel
theorem dL_law_682 : decode cL_law 682 = .ok (.iload_n 3, 1) := by decide +kernel
theorem dL_law_683 : decode cL_law 683 = .ok (.iconst 2, 1) := by decide +kernel
theorem dL_law_684 : decode cL_law 684 = .ok (.iadd, 1) := by decide +kernel
theorem dL_law_685 : decode cL_law 685 = .ok (.iaload, 1) := by decide +kernel
theorem dL_law_686 : decode cL_law 686 = .ok (.invokevirtual 95, 3) := by decide +kernel
theorem dL_law_689 : decode cL_law 689 = .ok (.aload_n 2, 1) := by decide +kernel
theorem dL_law_690 : decode cL_law 690 = .ok (.aload_n 0, 1) := by decide +kernel
theorem dL_law_691 : decode cL_law 691 = .ok (.iload_n 3, 1) := by decide +kernel
theorem dL_law_692 : decode cL_law 692 = .ok (.iconst 1, 1) := by decide +kernel
theorem dL_law_693 : decode cL_law 693 = .ok (.iadd, 1) := by decide +kernel
theorem dL_law_694 : decode cL_law 694 = .ok (.iaload, 1) := by decide +kernel
theorem dL_law_695 : decode cL_law 695 = .ok (.ifCond .eq 7, 3) := by decide +kernel
theorem dL_law_698 : decode cL_law 698 = .ok (.iconst 1, 1) := by decide +kernel
theorem dL_law_699 : decode cL_law 699 = .ok (.goto 4, 3) := by decide +kernel
theorem dL_law_702 : decode cL_law 702 = .ok (.iconst 0, 1) := by decide +kernel
theorem dL_law_703 : decode cL_law 703 = .ok (.aload_n 0, 1) := by decide +kernel
theorem dL_law_704 : decode cL_law 704 = .ok (.iload_n 3, 1) := by decide +kernel
theorem dL_law_705 : decode cL_law 705 = .ok (.iconst 2, 1) := by decide +kernel
theorem dL_law_706 : decode cL_law 706 = .ok (.iadd, 1) := by decide +kernel
theorem dL_law_707 : decode cL_law 707 = .ok (.iaload, 1) := by decide +kernel
theorem dL_law_708 : decode cL_law 708 = .ok (.invokevirtual 99, 3) := by decide +kernel
theorem dL_law_711 : decode cL_law 711 = .ok (.if_icmp .eq 28, 3) := by decide +kernel
theorem dL_law_714 : decode cL_law 714 = .ok (.iconst 0, 1) := by decide +kernel
theorem dL_law_715 : decode cL_law 715 = .ok (.ireturn, 1) := by decide +kernel
theorem dL_law_716 : decode cL_law 716 = .ok (.aload_n 1, 1) := by decide +kernel
theorem dL_law_717 : decode cL_law 717 = .ok (.aload_n 0, 1) := by decide +kernel
theorem dL_law_718 : decode cL_law 718 = .ok (.iload_n 3, 1) := by decide +kernel
theorem dL_law_719 : decode cL_law 719 = .ok (.iconst 1, 1) := by decide +kernel
theorem dL_law_720 : decode cL_law 720 = .ok (.iadd, 1) := by decide +kernel
theorem dL_law_721 : decode cL_law 721 = .ok (.iaload, 1) := by decide +kernel
theorem dL_law_722 : decode cL_law 722 = .ok (.invokevirtual 100, 3) := by decide +kernel
theorem dL_law_725 : decode cL_law 725 = .ok (.aload_n 2, 1) := by decide +kernel
theorem dL_law_726 : decode cL_law 726 = .ok (.aload_n 0, 1) := by decide +kernel
theorem dL_law_727 : decode cL_law 727 = .ok (.iload_n 3, 1) := by decide +kernel
theorem dL_law_728 : decode cL_law 728 = .ok (.iconst 1, 1) := by decide +kernel
theorem dL_law_729 : decode cL_law 729 = .ok (.iadd, 1) := by decide +kernel
theorem dL_law_730 : decode cL_law 730 = .ok (.iaload, 1) := by decide +kernel
theorem dL_law_731 : decode cL_law 731 = .ok (.invokevirtual 103, 3) := by decide +kernel
theorem dL_law_734 : decode cL_law 734 = .ok (.if_icmp .eq 5, 3) := by decide +kernel
theorem dL_law_737 : decode cL_law 737 = .ok (.iconst 0, 1) := by decide +kernel
theorem dL_law_738 : decode cL_law 738 = .ok (.ireturn, 1) := by decide +kernel
theorem dL_law_739 : decode cL_law 739 = .ok (.iinc 3 4, 3) := by decide +kernel
theorem dL_law_742 : decode cL_law 742 = .ok (.goto (-724), 3) := by decide +kernel
theorem dL_law_745 : decode cL_law 745 = .ok (.iconst 1, 1) := by decide +kernel
theorem dL_law_746 : decode cL_law 746 = .ok (.ireturn, 1) := by decide +kernel
